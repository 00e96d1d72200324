set_option maxRecDepth 20000 in
theorem p_X10_bridge_0 {G : GT} {l : Launch} {z n : Nat} (u : HpT) (h134 : u 134 = some (.inr (9, [.int (0 : Int32), .ref (z + 135), .int (0 : Int32), .int (0 : Int32), .int (0 : Int32), .int (-1 : Int32), .int (0 : Int32), .int (0 : Int32), .int (0 : Int32), .int (0 : Int32), .ref (z + 136), .ref (z + 137), .ref (z + 138), .ref (z + 139), .ref (z + 140), .int (0 : Int32), .int (0 : Int32), .int (0 : Int32), .int (0 : Int32), .ref (z + 141), .ref (z + 142), .ref (z + 143), .ref (z + 144), .ref (z + 145), .ref (z + 146), .int (0 : Int32), .int (0 : Int32), .ref (z + 147), .long (0 : Int64), .ref (z + 148), .int (0 : Int32), .int (0 : Int32), .int (0 : Int32), .ref (z + 149), .int (0 : Int32), .ref (z + 150), .ref (z + 151), .int (0 : Int32), .ref (z + 152), .ref (z + 153), .ref (z + 154), .ref (z + 155), .ref (z + 156)]))) (h146 : u 146 = some (aI G 25 (upd (upd (fun _ => 0) 4 (-1 : Int32)) 6 (-1 : Int32)))) (h154 : u 154 = some (aZ G 2 (fun _ => 0))) : Mt G l z yX10_bridge cX10_bridge 4 (some .int) { frames := 3, cells := 0, slots := 0, locals := 62 } [.ref (z + 134)] u n (some (.int (0 : Int32))) (hup (hup (hup u 146 (aI G 25 (upd (upd (upd (upd (upd (upd (upd (upd (upd (upd (upd (upd (upd (upd (upd (upd (upd (upd (upd (upd (upd (upd (upd (upd (upd (upd (upd (upd (upd (upd (fun _ => 0) 4 (-1 : Int32)) 6 (-1 : Int32)) 0 (0 : Int32)) 1 (0 : Int32)) 2 (0 : Int32)) 3 (0 : Int32)) 4 (0 : Int32)) 5 (0 : Int32)) 6 (0 : Int32)) 7 (0 : Int32)) 8 (0 : Int32)) 9 (0 : Int32)) 10 (0 : Int32)) 11 (0 : Int32)) 12 (0 : Int32)) 13 (0 : Int32)) 14 (0 : Int32)) 15 (0 : Int32)) 16 (0 : Int32)) 17 (0 : Int32)) 18 (0 : Int32)) 19 (0 : Int32)) 20 (0 : Int32)) 21 (0 : Int32)) 22 (0 : Int32)) 23 (0 : Int32)) 24 (0 : Int32)) 4 (-1 : Int32)) 6 (-1 : Int32)) 3 (0 : Int32)))) 134 (.inr (9, [.int (0 : Int32), .ref (z + 135), .int (0 : Int32), .int (0 : Int32), .int (0 : Int32), .int (-1 : Int32), .int (0 : Int32), .int (0 : Int32), .int (0 : Int32), .int (0 : Int32), .ref (z + 136), .ref (z + 137), .ref (z + 138), .ref (z + 139), .ref (z + 140), .int (0 : Int32), .int (0 : Int32), .int (0 : Int32), .int (0 : Int32), .ref (z + 141), .ref (z + 142), .ref (z + 143), .ref (z + 144), .ref (z + 145), .ref (z + 146), .int (0 : Int32), .int (0 : Int32), .ref (z + 147), .long (0 : Int64), .ref (z + 148), .int (0 : Int32), .int (0 : Int32), .int (0 : Int32), .ref (z + 149), .int (0 : Int32), .ref (z + 150), .ref (z + 151), .int (0 : Int32), .ref (z + 152), .ref (z + 153), .ref (z + 154), .ref (z + 155), .ref (z + 156)]))) 154 (aZ G 2 (upd (upd (fun _ => 0) 0 (0 : Int32)) 1 (0 : Int32)))) n := by
  refine mt_of (by decide +kernel) (Nat.le_of_ble_eq_true rfl) ?_
  intro p e s m below meth c C hr hlk hnm
  refine x_aload_n C 0 dX10_bridge_0 rfl rfl ?_
  refine x_callV C cl_X10_readsBridge kmX10_144 (ci := 9) (b := 134) (As := []) (rest := []) rfl h134 (p_X10_readsBridge_0 u h134) rfl rfl (Nat.le_of_ble_eq_true rfl) ⟨Nat.le_of_ble_eq_true rfl, Nat.le_of_ble_eq_true rfl⟩ ⟨Nat.le_of_ble_eq_true rfl, Nat.le_of_ble_eq_true rfl⟩ dX10_bridge_1 ?_
  obtain ⟨u1, eu1⟩ : ∃ w : HpT, w = (hup u 134 (.inr (9, [.int (0 : Int32), .ref (z + 135), .int (0 : Int32), .int (0 : Int32), .int (0 : Int32), .int (-1 : Int32), .int (0 : Int32), .int (0 : Int32), .int (0 : Int32), .int (0 : Int32), .ref (z + 136), .ref (z + 137), .ref (z + 138), .ref (z + 139), .ref (z + 140), .int (0 : Int32), .int (0 : Int32), .int (0 : Int32), .int (0 : Int32), .ref (z + 141), .ref (z + 142), .ref (z + 143), .ref (z + 144), .ref (z + 145), .ref (z + 146), .int (0 : Int32), .int (0 : Int32), .ref (z + 147), .long (0 : Int64), .ref (z + 148), .int (0 : Int32), .int (0 : Int32), .int (0 : Int32), .ref (z + 149), .int (0 : Int32), .ref (z + 150), .ref (z + 151), .int (0 : Int32), .ref (z + 152), .ref (z + 153), .ref (z + 154), .ref (z + 155), .ref (z + 156)]))) := ⟨_, rfl⟩
  refine x_norm (st2 := [.int (1 : Int32)]) (kc2 := 0) (ks2 := 0) rfl rfl rfl rfl eu1.symm ?_
  refine x_istore_n C [(1, .int (1 : Int32)), (0, .ref (z + 134))] dX10_bridge_4 rfl (by decide) rfl ?_
  refine x_aload_n C 1 dX10_bridge_5 rfl rfl ?_
  refine x_iconst (v := (0 : Int32)) C dX10_bridge_6 (by decide) ?_
  have k134_1 := (congrFun eu1 134).trans (hup_s _ _ _)
  obtain ⟨u2, eu2⟩ : ∃ w : HpT, w = (hup u1 134 (.inr (9, [.int (0 : Int32), .ref (z + 135), .int (0 : Int32), .int (0 : Int32), .int (0 : Int32), .int (-1 : Int32), .int (0 : Int32), .int (0 : Int32), .int (0 : Int32), .int (0 : Int32), .ref (z + 136), .ref (z + 137), .ref (z + 138), .ref (z + 139), .ref (z + 140), .int (0 : Int32), .int (0 : Int32), .int (0 : Int32), .int (0 : Int32), .ref (z + 141), .ref (z + 142), .ref (z + 143), .ref (z + 144), .ref (z + 145), .ref (z + 146), .int (0 : Int32), .int (0 : Int32), .ref (z + 147), .long (0 : Int64), .ref (z + 148), .int (0 : Int32), .int (0 : Int32), .int (0 : Int32), .ref (z + 149), .int (0 : Int32), .ref (z + 150), .ref (z + 151), .int (0 : Int32), .ref (z + 152), .ref (z + 153), .ref (z + 154), .ref (z + 155), .ref (z + 156)]))) := ⟨_, rfl⟩
  refine pfX10_87 C dX10_bridge_7 k134_1 (Nat.le_of_ble_eq_true rfl) rfl eu2.symm ?_
  refine x_aload_n C 1 dX10_bridge_10 rfl rfl ?_
  refine x_iload_n C 0 dX10_bridge_11 rfl rfl ?_
  refine x_if_eq_f C 19 dX10_bridge_12 (by decide) (by decide) ?_
  refine x_iconst (v := (-1 : Int32)) C dX10_bridge_15 (by decide) ?_
  refine x_goto C 23 dX10_bridge_16 (by decide) ?_
  have k134_2 := (congrFun eu2 134).trans (hup_s _ _ _)
  obtain ⟨u3, eu3⟩ : ∃ w : HpT, w = (hup u2 134 (.inr (9, [.int (0 : Int32), .ref (z + 135), .int (0 : Int32), .int (0 : Int32), .int (0 : Int32), .int (-1 : Int32), .int (0 : Int32), .int (0 : Int32), .int (0 : Int32), .int (0 : Int32), .ref (z + 136), .ref (z + 137), .ref (z + 138), .ref (z + 139), .ref (z + 140), .int (0 : Int32), .int (0 : Int32), .int (0 : Int32), .int (0 : Int32), .ref (z + 141), .ref (z + 142), .ref (z + 143), .ref (z + 144), .ref (z + 145), .ref (z + 146), .int (0 : Int32), .int (0 : Int32), .ref (z + 147), .long (0 : Int64), .ref (z + 148), .int (0 : Int32), .int (0 : Int32), .int (0 : Int32), .ref (z + 149), .int (0 : Int32), .ref (z + 150), .ref (z + 151), .int (0 : Int32), .ref (z + 152), .ref (z + 153), .ref (z + 154), .ref (z + 155), .ref (z + 156)]))) := ⟨_, rfl⟩
  refine pfX10_13 C dX10_bridge_23 k134_2 (Nat.le_of_ble_eq_true rfl) rfl eu3.symm ?_
  refine x_iload_n C 0 dX10_bridge_26 rfl rfl ?_
  refine x_if_ne_t C 38 dX10_bridge_27 (by decide) (by decide) ?_
  refine x_aload_n C 1 dX10_bridge_38 rfl rfl ?_
  refine x_aload_n C 1 dX10_bridge_39 rfl rfl ?_
  have k134_3 := (congrFun eu3 134).trans (hup_s _ _ _)
  refine gfX10_115 C dX10_bridge_40 k134_3 rfl ?_
  obtain ⟨u4, eu4⟩ : ∃ w : HpT, w = (hup u3 134 (.inr (9, [.int (0 : Int32), .ref (z + 135), .int (0 : Int32), .int (0 : Int32), .int (0 : Int32), .int (-1 : Int32), .int (0 : Int32), .int (0 : Int32), .int (0 : Int32), .int (0 : Int32), .ref (z + 136), .ref (z + 137), .ref (z + 138), .ref (z + 139), .ref (z + 140), .int (0 : Int32), .int (0 : Int32), .int (0 : Int32), .int (0 : Int32), .ref (z + 141), .ref (z + 142), .ref (z + 143), .ref (z + 144), .ref (z + 145), .ref (z + 146), .int (0 : Int32), .int (0 : Int32), .ref (z + 147), .long (0 : Int64), .ref (z + 148), .int (0 : Int32), .int (0 : Int32), .int (0 : Int32), .ref (z + 149), .int (0 : Int32), .ref (z + 150), .ref (z + 151), .int (0 : Int32), .ref (z + 152), .ref (z + 153), .ref (z + 154), .ref (z + 155), .ref (z + 156)]))) := ⟨_, rfl⟩
  refine pfX10_147 C dX10_bridge_43 k134_3 (Nat.le_of_ble_eq_true rfl) rfl eu4.symm ?_
  refine x_aload_n C 1 dX10_bridge_46 rfl rfl ?_
  refine x_aload_n C 1 dX10_bridge_47 rfl rfl ?_
  have k134_4 := (congrFun eu4 134).trans (hup_s _ _ _)
  refine gfX10_118 C dX10_bridge_48 k134_4 rfl ?_
  obtain ⟨u5, eu5⟩ : ∃ w : HpT, w = (hup u4 134 (.inr (9, [.int (0 : Int32), .ref (z + 135), .int (0 : Int32), .int (0 : Int32), .int (0 : Int32), .int (-1 : Int32), .int (0 : Int32), .int (0 : Int32), .int (0 : Int32), .int (0 : Int32), .ref (z + 136), .ref (z + 137), .ref (z + 138), .ref (z + 139), .ref (z + 140), .int (0 : Int32), .int (0 : Int32), .int (0 : Int32), .int (0 : Int32), .ref (z + 141), .ref (z + 142), .ref (z + 143), .ref (z + 144), .ref (z + 145), .ref (z + 146), .int (0 : Int32), .int (0 : Int32), .ref (z + 147), .long (0 : Int64), .ref (z + 148), .int (0 : Int32), .int (0 : Int32), .int (0 : Int32), .ref (z + 149), .int (0 : Int32), .ref (z + 150), .ref (z + 151), .int (0 : Int32), .ref (z + 152), .ref (z + 153), .ref (z + 154), .ref (z + 155), .ref (z + 156)]))) := ⟨_, rfl⟩
  refine pfX10_150 C dX10_bridge_51 k134_4 (Nat.le_of_ble_eq_true rfl) rfl eu5.symm ?_
  refine x_aload_n C 1 dX10_bridge_54 rfl rfl ?_
  refine x_aload_n C 1 dX10_bridge_55 rfl rfl ?_
  have k134_5 := (congrFun eu5 134).trans (hup_s _ _ _)
  refine gfX10_125 C dX10_bridge_56 k134_5 rfl ?_
  obtain ⟨u6, eu6⟩ : ∃ w : HpT, w = (hup u5 134 (.inr (9, [.int (0 : Int32), .ref (z + 135), .int (0 : Int32), .int (0 : Int32), .int (0 : Int32), .int (-1 : Int32), .int (0 : Int32), .int (0 : Int32), .int (0 : Int32), .int (0 : Int32), .ref (z + 136), .ref (z + 137), .ref (z + 138), .ref (z + 139), .ref (z + 140), .int (0 : Int32), .int (0 : Int32), .int (0 : Int32), .int (0 : Int32), .ref (z + 141), .ref (z + 142), .ref (z + 143), .ref (z + 144), .ref (z + 145), .ref (z + 146), .int (0 : Int32), .int (0 : Int32), .ref (z + 147), .long (0 : Int64), .ref (z + 148), .int (0 : Int32), .int (0 : Int32), .int (0 : Int32), .ref (z + 149), .int (0 : Int32), .ref (z + 150), .ref (z + 151), .int (0 : Int32), .ref (z + 152), .ref (z + 153), .ref (z + 154), .ref (z + 155), .ref (z + 156)]))) := ⟨_, rfl⟩
  refine pfX10_153 C dX10_bridge_59 k134_5 (Nat.le_of_ble_eq_true rfl) rfl eu6.symm ?_
  refine x_aload_n C 1 dX10_bridge_62 rfl rfl ?_
  refine x_aload_n C 1 dX10_bridge_63 rfl rfl ?_
  have k134_6 := (congrFun eu6 134).trans (hup_s _ _ _)
  refine gfX10_128 C dX10_bridge_64 k134_6 rfl ?_
  obtain ⟨u7, eu7⟩ : ∃ w : HpT, w = (hup u6 134 (.inr (9, [.int (0 : Int32), .ref (z + 135), .int (0 : Int32), .int (0 : Int32), .int (0 : Int32), .int (-1 : Int32), .int (0 : Int32), .int (0 : Int32), .int (0 : Int32), .int (0 : Int32), .ref (z + 136), .ref (z + 137), .ref (z + 138), .ref (z + 139), .ref (z + 140), .int (0 : Int32), .int (0 : Int32), .int (0 : Int32), .int (0 : Int32), .ref (z + 141), .ref (z + 142), .ref (z + 143), .ref (z + 144), .ref (z + 145), .ref (z + 146), .int (0 : Int32), .int (0 : Int32), .ref (z + 147), .long (0 : Int64), .ref (z + 148), .int (0 : Int32), .int (0 : Int32), .int (0 : Int32), .ref (z + 149), .int (0 : Int32), .ref (z + 150), .ref (z + 151), .int (0 : Int32), .ref (z + 152), .ref (z + 153), .ref (z + 154), .ref (z + 155), .ref (z + 156)]))) := ⟨_, rfl⟩
  refine pfX10_156 C dX10_bridge_67 k134_6 (Nat.le_of_ble_eq_true rfl) rfl eu7.symm ?_
  refine x_iconst (v := (1 : Int32)) C dX10_bridge_70 (by decide) ?_
  refine x_aload_n C 1 dX10_bridge_71 rfl rfl ?_
  have k134_7 := (congrFun eu7 134).trans (hup_s _ _ _)
  refine gfX10_153 C dX10_bridge_72 k134_7 rfl ?_
  refine x_ishl C dX10_bridge_75 ?_
  refine x_eqi (w := (1 : Int32)) (by decide) ?_
  refine x_iconst (v := (1 : Int32)) C dX10_bridge_76 (by decide) ?_
  refine x_isub C dX10_bridge_77 ?_
  refine x_eqi (w := (0 : Int32)) (by decide) ?_
  refine x_istore_n C [(2, .int (0 : Int32)), (1, .int (1 : Int32)), (0, .ref (z + 134))] dX10_bridge_78 rfl (by decide) rfl ?_
  refine x_iconst (v := (0 : Int32)) C dX10_bridge_79 (by decide) ?_
  refine x_istore_n C [(3, .int (0 : Int32)), (2, .int (0 : Int32)), (1, .int (1 : Int32)), (0, .ref (z + 134))] dX10_bridge_80 rfl (by decide) rfl ?_
  refine x_iload_n C 0 dX10_bridge_81 rfl rfl ?_
  refine x_aload_n C 3 dX10_bridge_82 rfl rfl ?_
  refine gfX10_153 C dX10_bridge_83 k134_7 rfl ?_
  refine x_icmp_ge_t C 121 dX10_bridge_86 (by decide) (by decide) ?_
  refine x_iconst (v := (0 : Int32)) C dX10_bridge_121 (by decide) ?_
  refine x_istore_n C [(3, .int (0 : Int32)), (2, .int (0 : Int32)), (1, .int (1 : Int32)), (0, .ref (z + 134))] dX10_bridge_122 rfl (by decide) rfl ?_
  refine x_iload_n C 0 dX10_bridge_123 rfl rfl ?_
  refine x_aload_n C 3 dX10_bridge_124 rfl rfl ?_
  refine gfX10_156 C dX10_bridge_125 k134_7 rfl ?_
  refine x_icmp_ge_t C 175 dX10_bridge_128 (by decide) (by decide) ?_
  refine x_iconst (v := (0 : Int32)) C dX10_bridge_175 (by decide) ?_
  refine x_istore_n C [(3, .int (0 : Int32)), (2, .int (0 : Int32)), (1, .int (1 : Int32)), (0, .ref (z + 134))] dX10_bridge_176 rfl (by decide) rfl ?_
  refine x_iload_n C 0 dX10_bridge_177 rfl rfl ?_
  refine x_bipush (v := (25 : Int32)) C dX10_bridge_178 (by decide) ?_
  refine x_icmp_ge_f C 196 dX10_bridge_180 (by decide) (by decide) ?_
  refine x_aload_n C 3 dX10_bridge_183 rfl rfl ?_
  refine gfX10_47 C dX10_bridge_184 k134_7 rfl ?_
  refine x_iload_n C 0 dX10_bridge_187 rfl rfl ?_
  refine x_iconst (v := (0 : Int32)) C dX10_bridge_188 (by decide) ?_
  have k146_1 := (congrFun eu1 146).trans (hup_n' (by decide) (h146))
  have k146_2 := (congrFun eu2 146).trans (hup_n' (by decide) (k146_1))
  have k146_3 := (congrFun eu3 146).trans (hup_n' (by decide) (k146_2))
  have k146_4 := (congrFun eu4 146).trans (hup_n' (by decide) (k146_3))
  have k146_5 := (congrFun eu5 146).trans (hup_n' (by decide) (k146_4))
  have k146_6 := (congrFun eu6 146).trans (hup_n' (by decide) (k146_5))
  have k146_7 := (congrFun eu7 146).trans (hup_n' (by decide) (k146_6))
  refine x_iastk C 0 k146_7 (vp_in_lit (by decide) (by decide)) (by decide) dX10_bridge_189 ?_
  obtain ⟨u8, eu8⟩ : ∃ w : HpT, w = (hup u7 146 (aI G 25 (upd (upd (upd (fun _ => 0) 4 (-1 : Int32)) 6 (-1 : Int32)) 0 (0 : Int32)))) := ⟨_, rfl⟩
  refine x_heap (u2 := u8) eu8.symm ?_
  refine x_iinc C 0 [(3, .int (1 : Int32)), (2, .int (0 : Int32)), (1, .int (1 : Int32)), (0, .ref (z + 134))] dX10_bridge_190 rfl (by decide) (by decide) rfl ?_
  refine x_goto C 177 dX10_bridge_193 (by decide) ?_
  refine x_iload_n C 0 dX10_bridge_177 rfl rfl ?_
  refine x_bipush (v := (25 : Int32)) C dX10_bridge_178 (by decide) ?_
  refine x_icmp_ge_f C 196 dX10_bridge_180 (by decide) (by decide) ?_
  refine x_aload_n C 3 dX10_bridge_183 rfl rfl ?_
  have k134_8 := (congrFun eu8 134).trans (hup_n' (by decide) (k134_7))
  refine gfX10_47 C dX10_bridge_184 k134_8 rfl ?_
  refine x_iload_n C 0 dX10_bridge_187 rfl rfl ?_
  refine x_iconst (v := (0 : Int32)) C dX10_bridge_188 (by decide) ?_
  have k146_8 := (congrFun eu8 146).trans (hup_s _ _ _)
  refine x_iastk C 1 k146_8 (vp_in_lit (by decide) (by decide)) (by decide) dX10_bridge_189 ?_
  obtain ⟨u9, eu9⟩ : ∃ w : HpT, w = (hup u8 146 (aI G 25 (upd (upd (upd (upd (fun _ => 0) 4 (-1 : Int32)) 6 (-1 : Int32)) 0 (0 : Int32)) 1 (0 : Int32)))) := ⟨_, rfl⟩
  refine x_heap (u2 := u9) eu9.symm ?_
  refine x_iinc C 0 [(3, .int (2 : Int32)), (2, .int (0 : Int32)), (1, .int (1 : Int32)), (0, .ref (z + 134))] dX10_bridge_190 rfl (by decide) (by decide) rfl ?_
  refine x_goto C 177 dX10_bridge_193 (by decide) ?_
  refine x_iload_n C 0 dX10_bridge_177 rfl rfl ?_
  refine x_bipush (v := (25 : Int32)) C dX10_bridge_178 (by decide) ?_
  refine x_icmp_ge_f C 196 dX10_bridge_180 (by decide) (by decide) ?_
  refine x_aload_n C 3 dX10_bridge_183 rfl rfl ?_
  have k134_9 := (congrFun eu9 134).trans (hup_n' (by decide) (k134_8))
  refine gfX10_47 C dX10_bridge_184 k134_9 rfl ?_
  refine x_iload_n C 0 dX10_bridge_187 rfl rfl ?_
  refine x_iconst (v := (0 : Int32)) C dX10_bridge_188 (by decide) ?_
  have k146_9 := (congrFun eu9 146).trans (hup_s _ _ _)
  refine x_iastk C 2 k146_9 (vp_in_lit (by decide) (by decide)) (by decide) dX10_bridge_189 ?_
  obtain ⟨u10, eu10⟩ : ∃ w : HpT, w = (hup u9 146 (aI G 25 (upd (upd (upd (upd (upd (fun _ => 0) 4 (-1 : Int32)) 6 (-1 : Int32)) 0 (0 : Int32)) 1 (0 : Int32)) 2 (0 : Int32)))) := ⟨_, rfl⟩
  refine x_heap (u2 := u10) eu10.symm ?_
  refine x_iinc C 0 [(3, .int (3 : Int32)), (2, .int (0 : Int32)), (1, .int (1 : Int32)), (0, .ref (z + 134))] dX10_bridge_190 rfl (by decide) (by decide) rfl ?_
  refine x_goto C 177 dX10_bridge_193 (by decide) ?_
  refine x_iload_n C 0 dX10_bridge_177 rfl rfl ?_
  refine x_bipush (v := (25 : Int32)) C dX10_bridge_178 (by decide) ?_
  refine x_icmp_ge_f C 196 dX10_bridge_180 (by decide) (by decide) ?_
  refine x_aload_n C 3 dX10_bridge_183 rfl rfl ?_
  have k134_10 := (congrFun eu10 134).trans (hup_n' (by decide) (k134_9))
  refine gfX10_47 C dX10_bridge_184 k134_10 rfl ?_
  refine x_iload_n C 0 dX10_bridge_187 rfl rfl ?_
  refine x_iconst (v := (0 : Int32)) C dX10_bridge_188 (by decide) ?_
  have k146_10 := (congrFun eu10 146).trans (hup_s _ _ _)
  refine x_iastk C 3 k146_10 (vp_in_lit (by decide) (by decide)) (by decide) dX10_bridge_189 ?_
  obtain ⟨u11, eu11⟩ : ∃ w : HpT, w = (hup u10 146 (aI G 25 (upd (upd (upd (upd (upd (upd (fun _ => 0) 4 (-1 : Int32)) 6 (-1 : Int32)) 0 (0 : Int32)) 1 (0 : Int32)) 2 (0 : Int32)) 3 (0 : Int32)))) := ⟨_, rfl⟩
  refine x_heap (u2 := u11) eu11.symm ?_
  refine x_iinc C 0 [(3, .int (4 : Int32)), (2, .int (0 : Int32)), (1, .int (1 : Int32)), (0, .ref (z + 134))] dX10_bridge_190 rfl (by decide) (by decide) rfl ?_
  refine x_goto C 177 dX10_bridge_193 (by decide) ?_
  refine x_iload_n C 0 dX10_bridge_177 rfl rfl ?_
  refine x_bipush (v := (25 : Int32)) C dX10_bridge_178 (by decide) ?_
  refine x_icmp_ge_f C 196 dX10_bridge_180 (by decide) (by decide) ?_
  refine x_aload_n C 3 dX10_bridge_183 rfl rfl ?_
  have k134_11 := (congrFun eu11 134).trans (hup_n' (by decide) (k134_10))
  refine gfX10_47 C dX10_bridge_184 k134_11 rfl ?_
  refine x_iload_n C 0 dX10_bridge_187 rfl rfl ?_
  refine x_iconst (v := (0 : Int32)) C dX10_bridge_188 (by decide) ?_
  have k146_11 := (congrFun eu11 146).trans (hup_s _ _ _)
  refine x_iastk C 4 k146_11 (vp_in_lit (by decide) (by decide)) (by decide) dX10_bridge_189 ?_
  obtain ⟨u12, eu12⟩ : ∃ w : HpT, w = (hup u11 146 (aI G 25 (upd (upd (upd (upd (upd (upd (upd (fun _ => 0) 4 (-1 : Int32)) 6 (-1 : Int32)) 0 (0 : Int32)) 1 (0 : Int32)) 2 (0 : Int32)) 3 (0 : Int32)) 4 (0 : Int32)))) := ⟨_, rfl⟩
  refine x_heap (u2 := u12) eu12.symm ?_
  refine x_iinc C 0 [(3, .int (5 : Int32)), (2, .int (0 : Int32)), (1, .int (1 : Int32)), (0, .ref (z + 134))] dX10_bridge_190 rfl (by decide) (by decide) rfl ?_
  refine x_goto C 177 dX10_bridge_193 (by decide) ?_
  refine x_iload_n C 0 dX10_bridge_177 rfl rfl ?_
  refine x_bipush (v := (25 : Int32)) C dX10_bridge_178 (by decide) ?_
  refine x_icmp_ge_f C 196 dX10_bridge_180 (by decide) (by decide) ?_
  refine x_aload_n C 3 dX10_bridge_183 rfl rfl ?_
  have k134_12 := (congrFun eu12 134).trans (hup_n' (by decide) (k134_11))
  refine gfX10_47 C dX10_bridge_184 k134_12 rfl ?_
  refine x_iload_n C 0 dX10_bridge_187 rfl rfl ?_
  refine x_iconst (v := (0 : Int32)) C dX10_bridge_188 (by decide) ?_
  have k146_12 := (congrFun eu12 146).trans (hup_s _ _ _)
  refine x_iastk C 5 k146_12 (vp_in_lit (by decide) (by decide)) (by decide) dX10_bridge_189 ?_
  obtain ⟨u13, eu13⟩ : ∃ w : HpT, w = (hup u12 146 (aI G 25 (upd (upd (upd (upd (upd (upd (upd (upd (fun _ => 0) 4 (-1 : Int32)) 6 (-1 : Int32)) 0 (0 : Int32)) 1 (0 : Int32)) 2 (0 : Int32)) 3 (0 : Int32)) 4 (0 : Int32)) 5 (0 : Int32)))) := ⟨_, rfl⟩
  refine x_heap (u2 := u13) eu13.symm ?_
  refine x_iinc C 0 [(3, .int (6 : Int32)), (2, .int (0 : Int32)), (1, .int (1 : Int32)), (0, .ref (z + 134))] dX10_bridge_190 rfl (by decide) (by decide) rfl ?_
  refine x_goto C 177 dX10_bridge_193 (by decide) ?_
  refine x_iload_n C 0 dX10_bridge_177 rfl rfl ?_
  refine x_bipush (v := (25 : Int32)) C dX10_bridge_178 (by decide) ?_
  refine x_icmp_ge_f C 196 dX10_bridge_180 (by decide) (by decide) ?_
  refine x_aload_n C 3 dX10_bridge_183 rfl rfl ?_
  have k134_13 := (congrFun eu13 134).trans (hup_n' (by decide) (k134_12))
  refine gfX10_47 C dX10_bridge_184 k134_13 rfl ?_
  refine x_iload_n C 0 dX10_bridge_187 rfl rfl ?_
  refine x_iconst (v := (0 : Int32)) C dX10_bridge_188 (by decide) ?_
  have k146_13 := (congrFun eu13 146).trans (hup_s _ _ _)
  refine x_iastk C 6 k146_13 (vp_in_lit (by decide) (by decide)) (by decide) dX10_bridge_189 ?_
  obtain ⟨u14, eu14⟩ : ∃ w : HpT, w = (hup u13 146 (aI G 25 (upd (upd (upd (upd (upd (upd (upd (upd (upd (fun _ => 0) 4 (-1 : Int32)) 6 (-1 : Int32)) 0 (0 : Int32)) 1 (0 : Int32)) 2 (0 : Int32)) 3 (0 : Int32)) 4 (0 : Int32)) 5 (0 : Int32)) 6 (0 : Int32)))) := ⟨_, rfl⟩
  refine x_heap (u2 := u14) eu14.symm ?_
  refine x_iinc C 0 [(3, .int (7 : Int32)), (2, .int (0 : Int32)), (1, .int (1 : Int32)), (0, .ref (z + 134))] dX10_bridge_190 rfl (by decide) (by decide) rfl ?_
  refine x_goto C 177 dX10_bridge_193 (by decide) ?_
  refine x_iload_n C 0 dX10_bridge_177 rfl rfl ?_
  refine x_bipush (v := (25 : Int32)) C dX10_bridge_178 (by decide) ?_
  refine x_icmp_ge_f C 196 dX10_bridge_180 (by decide) (by decide) ?_
  refine x_aload_n C 3 dX10_bridge_183 rfl rfl ?_
  have k134_14 := (congrFun eu14 134).trans (hup_n' (by decide) (k134_13))
  refine gfX10_47 C dX10_bridge_184 k134_14 rfl ?_
  refine x_iload_n C 0 dX10_bridge_187 rfl rfl ?_
  refine x_iconst (v := (0 : Int32)) C dX10_bridge_188 (by decide) ?_
  have k146_14 := (congrFun eu14 146).trans (hup_s _ _ _)
  refine x_iastk C 7 k146_14 (vp_in_lit (by decide) (by decide)) (by decide) dX10_bridge_189 ?_
  obtain ⟨u15, eu15⟩ : ∃ w : HpT, w = (hup u14 146 (aI G 25 (upd (upd (upd (upd (upd (upd (upd (upd (upd (upd (fun _ => 0) 4 (-1 : Int32)) 6 (-1 : Int32)) 0 (0 : Int32)) 1 (0 : Int32)) 2 (0 : Int32)) 3 (0 : Int32)) 4 (0 : Int32)) 5 (0 : Int32)) 6 (0 : Int32)) 7 (0 : Int32)))) := ⟨_, rfl⟩
  refine x_heap (u2 := u15) eu15.symm ?_
  refine x_iinc C 0 [(3, .int (8 : Int32)), (2, .int (0 : Int32)), (1, .int (1 : Int32)), (0, .ref (z + 134))] dX10_bridge_190 rfl (by decide) (by decide) rfl ?_
  refine x_goto C 177 dX10_bridge_193 (by decide) ?_
  refine x_iload_n C 0 dX10_bridge_177 rfl rfl ?_
  refine x_bipush (v := (25 : Int32)) C dX10_bridge_178 (by decide) ?_
  refine x_icmp_ge_f C 196 dX10_bridge_180 (by decide) (by decide) ?_
  refine x_aload_n C 3 dX10_bridge_183 rfl rfl ?_
  have k134_15 := (congrFun eu15 134).trans (hup_n' (by decide) (k134_14))
  refine gfX10_47 C dX10_bridge_184 k134_15 rfl ?_
  refine x_iload_n C 0 dX10_bridge_187 rfl rfl ?_
  refine x_iconst (v := (0 : Int32)) C dX10_bridge_188 (by decide) ?_
  have k146_15 := (congrFun eu15 146).trans (hup_s _ _ _)
  refine x_iastk C 8 k146_15 (vp_in_lit (by decide) (by decide)) (by decide) dX10_bridge_189 ?_
  obtain ⟨u16, eu16⟩ : ∃ w : HpT, w = (hup u15 146 (aI G 25 (upd (upd (upd (upd (upd (upd (upd (upd (upd (upd (upd (fun _ => 0) 4 (-1 : Int32)) 6 (-1 : Int32)) 0 (0 : Int32)) 1 (0 : Int32)) 2 (0 : Int32)) 3 (0 : Int32)) 4 (0 : Int32)) 5 (0 : Int32)) 6 (0 : Int32)) 7 (0 : Int32)) 8 (0 : Int32)))) := ⟨_, rfl⟩
  refine x_heap (u2 := u16) eu16.symm ?_
  refine x_iinc C 0 [(3, .int (9 : Int32)), (2, .int (0 : Int32)), (1, .int (1 : Int32)), (0, .ref (z + 134))] dX10_bridge_190 rfl (by decide) (by decide) rfl ?_
  refine x_goto C 177 dX10_bridge_193 (by decide) ?_
  refine x_iload_n C 0 dX10_bridge_177 rfl rfl ?_
  refine x_bipush (v := (25 : Int32)) C dX10_bridge_178 (by decide) ?_
  refine x_icmp_ge_f C 196 dX10_bridge_180 (by decide) (by decide) ?_
  refine x_aload_n C 3 dX10_bridge_183 rfl rfl ?_
  have k134_16 := (congrFun eu16 134).trans (hup_n' (by decide) (k134_15))
  refine gfX10_47 C dX10_bridge_184 k134_16 rfl ?_
  refine x_iload_n C 0 dX10_bridge_187 rfl rfl ?_
  refine x_iconst (v := (0 : Int32)) C dX10_bridge_188 (by decide) ?_
  have k146_16 := (congrFun eu16 146).trans (hup_s _ _ _)
  refine x_iastk C 9 k146_16 (vp_in_lit (by decide) (by decide)) (by decide) dX10_bridge_189 ?_
  obtain ⟨u17, eu17⟩ : ∃ w : HpT, w = (hup u16 146 (aI G 25 (upd (upd (upd (upd (upd (upd (upd (upd (upd (upd (upd (upd (fun _ => 0) 4 (-1 : Int32)) 6 (-1 : Int32)) 0 (0 : Int32)) 1 (0 : Int32)) 2 (0 : Int32)) 3 (0 : Int32)) 4 (0 : Int32)) 5 (0 : Int32)) 6 (0 : Int32)) 7 (0 : Int32)) 8 (0 : Int32)) 9 (0 : Int32)))) := ⟨_, rfl⟩
  refine x_heap (u2 := u17) eu17.symm ?_
  refine x_iinc C 0 [(3, .int (10 : Int32)), (2, .int (0 : Int32)), (1, .int (1 : Int32)), (0, .ref (z + 134))] dX10_bridge_190 rfl (by decide) (by decide) rfl ?_
  refine x_goto C 177 dX10_bridge_193 (by decide) ?_
  refine x_iload_n C 0 dX10_bridge_177 rfl rfl ?_
  refine x_bipush (v := (25 : Int32)) C dX10_bridge_178 (by decide) ?_
  refine x_icmp_ge_f C 196 dX10_bridge_180 (by decide) (by decide) ?_
  refine x_aload_n C 3 dX10_bridge_183 rfl rfl ?_
  have k134_17 := (congrFun eu17 134).trans (hup_n' (by decide) (k134_16))
  refine gfX10_47 C dX10_bridge_184 k134_17 rfl ?_
  refine x_iload_n C 0 dX10_bridge_187 rfl rfl ?_
  refine x_iconst (v := (0 : Int32)) C dX10_bridge_188 (by decide) ?_
  have k146_17 := (congrFun eu17 146).trans (hup_s _ _ _)
  refine x_iastk C 10 k146_17 (vp_in_lit (by decide) (by decide)) (by decide) dX10_bridge_189 ?_
  obtain ⟨u18, eu18⟩ : ∃ w : HpT, w = (hup u17 146 (aI G 25 (upd (upd (upd (upd (upd (upd (upd (upd (upd (upd (upd (upd (upd (fun _ => 0) 4 (-1 : Int32)) 6 (-1 : Int32)) 0 (0 : Int32)) 1 (0 : Int32)) 2 (0 : Int32)) 3 (0 : Int32)) 4 (0 : Int32)) 5 (0 : Int32)) 6 (0 : Int32)) 7 (0 : Int32)) 8 (0 : Int32)) 9 (0 : Int32)) 10 (0 : Int32)))) := ⟨_, rfl⟩
  refine x_heap (u2 := u18) eu18.symm ?_
  refine x_iinc C 0 [(3, .int (11 : Int32)), (2, .int (0 : Int32)), (1, .int (1 : Int32)), (0, .ref (z + 134))] dX10_bridge_190 rfl (by decide) (by decide) rfl ?_
  refine x_goto C 177 dX10_bridge_193 (by decide) ?_
  refine x_iload_n C 0 dX10_bridge_177 rfl rfl ?_
  refine x_bipush (v := (25 : Int32)) C dX10_bridge_178 (by decide) ?_
  refine x_icmp_ge_f C 196 dX10_bridge_180 (by decide) (by decide) ?_
  refine x_aload_n C 3 dX10_bridge_183 rfl rfl ?_
  have k134_18 := (congrFun eu18 134).trans (hup_n' (by decide) (k134_17))
  refine gfX10_47 C dX10_bridge_184 k134_18 rfl ?_
  refine x_iload_n C 0 dX10_bridge_187 rfl rfl ?_
  refine x_iconst (v := (0 : Int32)) C dX10_bridge_188 (by decide) ?_
  have k146_18 := (congrFun eu18 146).trans (hup_s _ _ _)
  refine x_iastk C 11 k146_18 (vp_in_lit (by decide) (by decide)) (by decide) dX10_bridge_189 ?_
  obtain ⟨u19, eu19⟩ : ∃ w : HpT, w = (hup u18 146 (aI G 25 (upd (upd (upd (upd (upd (upd (upd (upd (upd (upd (upd (upd (upd (upd (fun _ => 0) 4 (-1 : Int32)) 6 (-1 : Int32)) 0 (0 : Int32)) 1 (0 : Int32)) 2 (0 : Int32)) 3 (0 : Int32)) 4 (0 : Int32)) 5 (0 : Int32)) 6 (0 : Int32)) 7 (0 : Int32)) 8 (0 : Int32)) 9 (0 : Int32)) 10 (0 : Int32)) 11 (0 : Int32)))) := ⟨_, rfl⟩
  refine x_heap (u2 := u19) eu19.symm ?_
  refine x_iinc C 0 [(3, .int (12 : Int32)), (2, .int (0 : Int32)), (1, .int (1 : Int32)), (0, .ref (z + 134))] dX10_bridge_190 rfl (by decide) (by decide) rfl ?_
  refine x_goto C 177 dX10_bridge_193 (by decide) ?_
  refine x_iload_n C 0 dX10_bridge_177 rfl rfl ?_
  refine x_bipush (v := (25 : Int32)) C dX10_bridge_178 (by decide) ?_
  refine x_icmp_ge_f C 196 dX10_bridge_180 (by decide) (by decide) ?_
  refine x_aload_n C 3 dX10_bridge_183 rfl rfl ?_
  have k134_19 := (congrFun eu19 134).trans (hup_n' (by decide) (k134_18))
  refine gfX10_47 C dX10_bridge_184 k134_19 rfl ?_
  refine x_iload_n C 0 dX10_bridge_187 rfl rfl ?_
  refine x_iconst (v := (0 : Int32)) C dX10_bridge_188 (by decide) ?_
  have k146_19 := (congrFun eu19 146).trans (hup_s _ _ _)
  refine x_iastk C 12 k146_19 (vp_in_lit (by decide) (by decide)) (by decide) dX10_bridge_189 ?_
  obtain ⟨u20, eu20⟩ : ∃ w : HpT, w = (hup u19 146 (aI G 25 (upd (upd (upd (upd (upd (upd (upd (upd (upd (upd (upd (upd (upd (upd (upd (fun _ => 0) 4 (-1 : Int32)) 6 (-1 : Int32)) 0 (0 : Int32)) 1 (0 : Int32)) 2 (0 : Int32)) 3 (0 : Int32)) 4 (0 : Int32)) 5 (0 : Int32)) 6 (0 : Int32)) 7 (0 : Int32)) 8 (0 : Int32)) 9 (0 : Int32)) 10 (0 : Int32)) 11 (0 : Int32)) 12 (0 : Int32)))) := ⟨_, rfl⟩
  refine x_heap (u2 := u20) eu20.symm ?_
  refine x_iinc C 0 [(3, .int (13 : Int32)), (2, .int (0 : Int32)), (1, .int (1 : Int32)), (0, .ref (z + 134))] dX10_bridge_190 rfl (by decide) (by decide) rfl ?_
  refine x_goto C 177 dX10_bridge_193 (by decide) ?_
  refine x_iload_n C 0 dX10_bridge_177 rfl rfl ?_
  refine x_bipush (v := (25 : Int32)) C dX10_bridge_178 (by decide) ?_
  refine x_icmp_ge_f C 196 dX10_bridge_180 (by decide) (by decide) ?_
  refine x_aload_n C 3 dX10_bridge_183 rfl rfl ?_
  have k134_20 := (congrFun eu20 134).trans (hup_n' (by decide) (k134_19))
  refine gfX10_47 C dX10_bridge_184 k134_20 rfl ?_
  refine x_iload_n C 0 dX10_bridge_187 rfl rfl ?_
  refine x_iconst (v := (0 : Int32)) C dX10_bridge_188 (by decide) ?_
  have k146_20 := (congrFun eu20 146).trans (hup_s _ _ _)
  refine x_iastk C 13 k146_20 (vp_in_lit (by decide) (by decide)) (by decide) dX10_bridge_189 ?_
  obtain ⟨u21, eu21⟩ : ∃ w : HpT, w = (hup u20 146 (aI G 25 (upd (upd (upd (upd (upd (upd (upd (upd (upd (upd (upd (upd (upd (upd (upd (upd (fun _ => 0) 4 (-1 : Int32)) 6 (-1 : Int32)) 0 (0 : Int32)) 1 (0 : Int32)) 2 (0 : Int32)) 3 (0 : Int32)) 4 (0 : Int32)) 5 (0 : Int32)) 6 (0 : Int32)) 7 (0 : Int32)) 8 (0 : Int32)) 9 (0 : Int32)) 10 (0 : Int32)) 11 (0 : Int32)) 12 (0 : Int32)) 13 (0 : Int32)))) := ⟨_, rfl⟩
  refine x_heap (u2 := u21) eu21.symm ?_
  refine x_iinc C 0 [(3, .int (14 : Int32)), (2, .int (0 : Int32)), (1, .int (1 : Int32)), (0, .ref (z + 134))] dX10_bridge_190 rfl (by decide) (by decide) rfl ?_
  refine x_goto C 177 dX10_bridge_193 (by decide) ?_
  refine x_iload_n C 0 dX10_bridge_177 rfl rfl ?_
  refine x_bipush (v := (25 : Int32)) C dX10_bridge_178 (by decide) ?_
  refine x_icmp_ge_f C 196 dX10_bridge_180 (by decide) (by decide) ?_
  refine x_aload_n C 3 dX10_bridge_183 rfl rfl ?_
  have k134_21 := (congrFun eu21 134).trans (hup_n' (by decide) (k134_20))
  refine gfX10_47 C dX10_bridge_184 k134_21 rfl ?_
  refine x_iload_n C 0 dX10_bridge_187 rfl rfl ?_
  refine x_iconst (v := (0 : Int32)) C dX10_bridge_188 (by decide) ?_
  have k146_21 := (congrFun eu21 146).trans (hup_s _ _ _)
  refine x_iastk C 14 k146_21 (vp_in_lit (by decide) (by decide)) (by decide) dX10_bridge_189 ?_
  obtain ⟨u22, eu22⟩ : ∃ w : HpT, w = (hup u21 146 (aI G 25 (upd (upd (upd (upd (upd (upd (upd (upd (upd (upd (upd (upd (upd (upd (upd (upd (upd (fun _ => 0) 4 (-1 : Int32)) 6 (-1 : Int32)) 0 (0 : Int32)) 1 (0 : Int32)) 2 (0 : Int32)) 3 (0 : Int32)) 4 (0 : Int32)) 5 (0 : Int32)) 6 (0 : Int32)) 7 (0 : Int32)) 8 (0 : Int32)) 9 (0 : Int32)) 10 (0 : Int32)) 11 (0 : Int32)) 12 (0 : Int32)) 13 (0 : Int32)) 14 (0 : Int32)))) := ⟨_, rfl⟩
  refine x_heap (u2 := u22) eu22.symm ?_
  refine x_iinc C 0 [(3, .int (15 : Int32)), (2, .int (0 : Int32)), (1, .int (1 : Int32)), (0, .ref (z + 134))] dX10_bridge_190 rfl (by decide) (by decide) rfl ?_
  refine x_goto C 177 dX10_bridge_193 (by decide) ?_
  refine x_iload_n C 0 dX10_bridge_177 rfl rfl ?_
  refine x_bipush (v := (25 : Int32)) C dX10_bridge_178 (by decide) ?_
  refine x_icmp_ge_f C 196 dX10_bridge_180 (by decide) (by decide) ?_
  refine x_aload_n C 3 dX10_bridge_183 rfl rfl ?_
  have k134_22 := (congrFun eu22 134).trans (hup_n' (by decide) (k134_21))
  refine gfX10_47 C dX10_bridge_184 k134_22 rfl ?_
  refine x_iload_n C 0 dX10_bridge_187 rfl rfl ?_
  refine x_iconst (v := (0 : Int32)) C dX10_bridge_188 (by decide) ?_
  have k146_22 := (congrFun eu22 146).trans (hup_s _ _ _)
  refine x_iastk C 15 k146_22 (vp_in_lit (by decide) (by decide)) (by decide) dX10_bridge_189 ?_
  obtain ⟨u23, eu23⟩ : ∃ w : HpT, w = (hup u22 146 (aI G 25 (upd (upd (upd (upd (upd (upd (upd (upd (upd (upd (upd (upd (upd (upd (upd (upd (upd (upd (fun _ => 0) 4 (-1 : Int32)) 6 (-1 : Int32)) 0 (0 : Int32)) 1 (0 : Int32)) 2 (0 : Int32)) 3 (0 : Int32)) 4 (0 : Int32)) 5 (0 : Int32)) 6 (0 : Int32)) 7 (0 : Int32)) 8 (0 : Int32)) 9 (0 : Int32)) 10 (0 : Int32)) 11 (0 : Int32)) 12 (0 : Int32)) 13 (0 : Int32)) 14 (0 : Int32)) 15 (0 : Int32)))) := ⟨_, rfl⟩
  refine x_heap (u2 := u23) eu23.symm ?_
  refine x_iinc C 0 [(3, .int (16 : Int32)), (2, .int (0 : Int32)), (1, .int (1 : Int32)), (0, .ref (z + 134))] dX10_bridge_190 rfl (by decide) (by decide) rfl ?_
  refine x_goto C 177 dX10_bridge_193 (by decide) ?_
  refine x_iload_n C 0 dX10_bridge_177 rfl rfl ?_
  refine x_bipush (v := (25 : Int32)) C dX10_bridge_178 (by decide) ?_
  refine x_icmp_ge_f C 196 dX10_bridge_180 (by decide) (by decide) ?_
  refine x_aload_n C 3 dX10_bridge_183 rfl rfl ?_
  have k134_23 := (congrFun eu23 134).trans (hup_n' (by decide) (k134_22))
  refine gfX10_47 C dX10_bridge_184 k134_23 rfl ?_
  refine x_iload_n C 0 dX10_bridge_187 rfl rfl ?_
  refine x_iconst (v := (0 : Int32)) C dX10_bridge_188 (by decide) ?_
  have k146_23 := (congrFun eu23 146).trans (hup_s _ _ _)
  refine x_iastk C 16 k146_23 (vp_in_lit (by decide) (by decide)) (by decide) dX10_bridge_189 ?_
  obtain ⟨u24, eu24⟩ : ∃ w : HpT, w = (hup u23 146 (aI G 25 (upd (upd (upd (upd (upd (upd (upd (upd (upd (upd (upd (upd (upd (upd (upd (upd (upd (upd (upd (fun _ => 0) 4 (-1 : Int32)) 6 (-1 : Int32)) 0 (0 : Int32)) 1 (0 : Int32)) 2 (0 : Int32)) 3 (0 : Int32)) 4 (0 : Int32)) 5 (0 : Int32)) 6 (0 : Int32)) 7 (0 : Int32)) 8 (0 : Int32)) 9 (0 : Int32)) 10 (0 : Int32)) 11 (0 : Int32)) 12 (0 : Int32)) 13 (0 : Int32)) 14 (0 : Int32)) 15 (0 : Int32)) 16 (0 : Int32)))) := ⟨_, rfl⟩
  refine x_heap (u2 := u24) eu24.symm ?_
  refine x_iinc C 0 [(3, .int (17 : Int32)), (2, .int (0 : Int32)), (1, .int (1 : Int32)), (0, .ref (z + 134))] dX10_bridge_190 rfl (by decide) (by decide) rfl ?_
  refine x_goto C 177 dX10_bridge_193 (by decide) ?_
  refine x_iload_n C 0 dX10_bridge_177 rfl rfl ?_
  refine x_bipush (v := (25 : Int32)) C dX10_bridge_178 (by decide) ?_
  refine x_icmp_ge_f C 196 dX10_bridge_180 (by decide) (by decide) ?_
  refine x_aload_n C 3 dX10_bridge_183 rfl rfl ?_
  have k134_24 := (congrFun eu24 134).trans (hup_n' (by decide) (k134_23))
  refine gfX10_47 C dX10_bridge_184 k134_24 rfl ?_
  refine x_iload_n C 0 dX10_bridge_187 rfl rfl ?_
  refine x_iconst (v := (0 : Int32)) C dX10_bridge_188 (by decide) ?_
  have k146_24 := (congrFun eu24 146).trans (hup_s _ _ _)
  refine x_iastk C 17 k146_24 (vp_in_lit (by decide) (by decide)) (by decide) dX10_bridge_189 ?_
  obtain ⟨u25, eu25⟩ : ∃ w : HpT, w = (hup u24 146 (aI G 25 (upd (upd (upd (upd (upd (upd (upd (upd (upd (upd (upd (upd (upd (upd (upd (upd (upd (upd (upd (upd (fun _ => 0) 4 (-1 : Int32)) 6 (-1 : Int32)) 0 (0 : Int32)) 1 (0 : Int32)) 2 (0 : Int32)) 3 (0 : Int32)) 4 (0 : Int32)) 5 (0 : Int32)) 6 (0 : Int32)) 7 (0 : Int32)) 8 (0 : Int32)) 9 (0 : Int32)) 10 (0 : Int32)) 11 (0 : Int32)) 12 (0 : Int32)) 13 (0 : Int32)) 14 (0 : Int32)) 15 (0 : Int32)) 16 (0 : Int32)) 17 (0 : Int32)))) := ⟨_, rfl⟩
  refine x_heap (u2 := u25) eu25.symm ?_
  refine x_iinc C 0 [(3, .int (18 : Int32)), (2, .int (0 : Int32)), (1, .int (1 : Int32)), (0, .ref (z + 134))] dX10_bridge_190 rfl (by decide) (by decide) rfl ?_
  refine x_goto C 177 dX10_bridge_193 (by decide) ?_
  refine x_iload_n C 0 dX10_bridge_177 rfl rfl ?_
  refine x_bipush (v := (25 : Int32)) C dX10_bridge_178 (by decide) ?_
  refine x_icmp_ge_f C 196 dX10_bridge_180 (by decide) (by decide) ?_
  refine x_aload_n C 3 dX10_bridge_183 rfl rfl ?_
  have k134_25 := (congrFun eu25 134).trans (hup_n' (by decide) (k134_24))
  refine gfX10_47 C dX10_bridge_184 k134_25 rfl ?_
  refine x_iload_n C 0 dX10_bridge_187 rfl rfl ?_
  refine x_iconst (v := (0 : Int32)) C dX10_bridge_188 (by decide) ?_
  have k146_25 := (congrFun eu25 146).trans (hup_s _ _ _)
  refine x_iastk C 18 k146_25 (vp_in_lit (by decide) (by decide)) (by decide) dX10_bridge_189 ?_
  obtain ⟨u26, eu26⟩ : ∃ w : HpT, w = (hup u25 146 (aI G 25 (upd (upd (upd (upd (upd (upd (upd (upd (upd (upd (upd (upd (upd (upd (upd (upd (upd (upd (upd (upd (upd (fun _ => 0) 4 (-1 : Int32)) 6 (-1 : Int32)) 0 (0 : Int32)) 1 (0 : Int32)) 2 (0 : Int32)) 3 (0 : Int32)) 4 (0 : Int32)) 5 (0 : Int32)) 6 (0 : Int32)) 7 (0 : Int32)) 8 (0 : Int32)) 9 (0 : Int32)) 10 (0 : Int32)) 11 (0 : Int32)) 12 (0 : Int32)) 13 (0 : Int32)) 14 (0 : Int32)) 15 (0 : Int32)) 16 (0 : Int32)) 17 (0 : Int32)) 18 (0 : Int32)))) := ⟨_, rfl⟩
  refine x_heap (u2 := u26) eu26.symm ?_
  refine x_iinc C 0 [(3, .int (19 : Int32)), (2, .int (0 : Int32)), (1, .int (1 : Int32)), (0, .ref (z + 134))] dX10_bridge_190 rfl (by decide) (by decide) rfl ?_
  refine x_goto C 177 dX10_bridge_193 (by decide) ?_
  refine x_iload_n C 0 dX10_bridge_177 rfl rfl ?_
  refine x_bipush (v := (25 : Int32)) C dX10_bridge_178 (by decide) ?_
  refine x_icmp_ge_f C 196 dX10_bridge_180 (by decide) (by decide) ?_
  refine x_aload_n C 3 dX10_bridge_183 rfl rfl ?_
  have k134_26 := (congrFun eu26 134).trans (hup_n' (by decide) (k134_25))
  refine gfX10_47 C dX10_bridge_184 k134_26 rfl ?_
  refine x_iload_n C 0 dX10_bridge_187 rfl rfl ?_
  refine x_iconst (v := (0 : Int32)) C dX10_bridge_188 (by decide) ?_
  have k146_26 := (congrFun eu26 146).trans (hup_s _ _ _)
  refine x_iastk C 19 k146_26 (vp_in_lit (by decide) (by decide)) (by decide) dX10_bridge_189 ?_
  obtain ⟨u27, eu27⟩ : ∃ w : HpT, w = (hup u26 146 (aI G 25 (upd (upd (upd (upd (upd (upd (upd (upd (upd (upd (upd (upd (upd (upd (upd (upd (upd (upd (upd (upd (upd (upd (fun _ => 0) 4 (-1 : Int32)) 6 (-1 : Int32)) 0 (0 : Int32)) 1 (0 : Int32)) 2 (0 : Int32)) 3 (0 : Int32)) 4 (0 : Int32)) 5 (0 : Int32)) 6 (0 : Int32)) 7 (0 : Int32)) 8 (0 : Int32)) 9 (0 : Int32)) 10 (0 : Int32)) 11 (0 : Int32)) 12 (0 : Int32)) 13 (0 : Int32)) 14 (0 : Int32)) 15 (0 : Int32)) 16 (0 : Int32)) 17 (0 : Int32)) 18 (0 : Int32)) 19 (0 : Int32)))) := ⟨_, rfl⟩
  refine x_heap (u2 := u27) eu27.symm ?_
  refine x_iinc C 0 [(3, .int (20 : Int32)), (2, .int (0 : Int32)), (1, .int (1 : Int32)), (0, .ref (z + 134))] dX10_bridge_190 rfl (by decide) (by decide) rfl ?_
  refine x_goto C 177 dX10_bridge_193 (by decide) ?_
  refine x_iload_n C 0 dX10_bridge_177 rfl rfl ?_
  refine x_bipush (v := (25 : Int32)) C dX10_bridge_178 (by decide) ?_
  refine x_icmp_ge_f C 196 dX10_bridge_180 (by decide) (by decide) ?_
  refine x_aload_n C 3 dX10_bridge_183 rfl rfl ?_
  have k134_27 := (congrFun eu27 134).trans (hup_n' (by decide) (k134_26))
  refine gfX10_47 C dX10_bridge_184 k134_27 rfl ?_
  refine x_iload_n C 0 dX10_bridge_187 rfl rfl ?_
  refine x_iconst (v := (0 : Int32)) C dX10_bridge_188 (by decide) ?_
  have k146_27 := (congrFun eu27 146).trans (hup_s _ _ _)
  refine x_iastk C 20 k146_27 (vp_in_lit (by decide) (by decide)) (by decide) dX10_bridge_189 ?_
  obtain ⟨u28, eu28⟩ : ∃ w : HpT, w = (hup u27 146 (aI G 25 (upd (upd (upd (upd (upd (upd (upd (upd (upd (upd (upd (upd (upd (upd (upd (upd (upd (upd (upd (upd (upd (upd (upd (fun _ => 0) 4 (-1 : Int32)) 6 (-1 : Int32)) 0 (0 : Int32)) 1 (0 : Int32)) 2 (0 : Int32)) 3 (0 : Int32)) 4 (0 : Int32)) 5 (0 : Int32)) 6 (0 : Int32)) 7 (0 : Int32)) 8 (0 : Int32)) 9 (0 : Int32)) 10 (0 : Int32)) 11 (0 : Int32)) 12 (0 : Int32)) 13 (0 : Int32)) 14 (0 : Int32)) 15 (0 : Int32)) 16 (0 : Int32)) 17 (0 : Int32)) 18 (0 : Int32)) 19 (0 : Int32)) 20 (0 : Int32)))) := ⟨_, rfl⟩
  refine x_heap (u2 := u28) eu28.symm ?_
  refine x_iinc C 0 [(3, .int (21 : Int32)), (2, .int (0 : Int32)), (1, .int (1 : Int32)), (0, .ref (z + 134))] dX10_bridge_190 rfl (by decide) (by decide) rfl ?_
  refine x_goto C 177 dX10_bridge_193 (by decide) ?_
  refine x_iload_n C 0 dX10_bridge_177 rfl rfl ?_
  refine x_bipush (v := (25 : Int32)) C dX10_bridge_178 (by decide) ?_
  refine x_icmp_ge_f C 196 dX10_bridge_180 (by decide) (by decide) ?_
  refine x_aload_n C 3 dX10_bridge_183 rfl rfl ?_
  have k134_28 := (congrFun eu28 134).trans (hup_n' (by decide) (k134_27))
  refine gfX10_47 C dX10_bridge_184 k134_28 rfl ?_
  refine x_iload_n C 0 dX10_bridge_187 rfl rfl ?_
  refine x_iconst (v := (0 : Int32)) C dX10_bridge_188 (by decide) ?_
  have k146_28 := (congrFun eu28 146).trans (hup_s _ _ _)
  refine x_iastk C 21 k146_28 (vp_in_lit (by decide) (by decide)) (by decide) dX10_bridge_189 ?_
  obtain ⟨u29, eu29⟩ : ∃ w : HpT, w = (hup u28 146 (aI G 25 (upd (upd (upd (upd (upd (upd (upd (upd (upd (upd (upd (upd (upd (upd (upd (upd (upd (upd (upd (upd (upd (upd (upd (upd (fun _ => 0) 4 (-1 : Int32)) 6 (-1 : Int32)) 0 (0 : Int32)) 1 (0 : Int32)) 2 (0 : Int32)) 3 (0 : Int32)) 4 (0 : Int32)) 5 (0 : Int32)) 6 (0 : Int32)) 7 (0 : Int32)) 8 (0 : Int32)) 9 (0 : Int32)) 10 (0 : Int32)) 11 (0 : Int32)) 12 (0 : Int32)) 13 (0 : Int32)) 14 (0 : Int32)) 15 (0 : Int32)) 16 (0 : Int32)) 17 (0 : Int32)) 18 (0 : Int32)) 19 (0 : Int32)) 20 (0 : Int32)) 21 (0 : Int32)))) := ⟨_, rfl⟩
  refine x_heap (u2 := u29) eu29.symm ?_
  refine x_iinc C 0 [(3, .int (22 : Int32)), (2, .int (0 : Int32)), (1, .int (1 : Int32)), (0, .ref (z + 134))] dX10_bridge_190 rfl (by decide) (by decide) rfl ?_
  refine x_goto C 177 dX10_bridge_193 (by decide) ?_
  refine x_iload_n C 0 dX10_bridge_177 rfl rfl ?_
  refine x_bipush (v := (25 : Int32)) C dX10_bridge_178 (by decide) ?_
  refine x_icmp_ge_f C 196 dX10_bridge_180 (by decide) (by decide) ?_
  refine x_aload_n C 3 dX10_bridge_183 rfl rfl ?_
  have k134_29 := (congrFun eu29 134).trans (hup_n' (by decide) (k134_28))
  refine gfX10_47 C dX10_bridge_184 k134_29 rfl ?_
  refine x_iload_n C 0 dX10_bridge_187 rfl rfl ?_
  refine x_iconst (v := (0 : Int32)) C dX10_bridge_188 (by decide) ?_
  have k146_29 := (congrFun eu29 146).trans (hup_s _ _ _)
  refine x_iastk C 22 k146_29 (vp_in_lit (by decide) (by decide)) (by decide) dX10_bridge_189 ?_
  obtain ⟨u30, eu30⟩ : ∃ w : HpT, w = (hup u29 146 (aI G 25 (upd (upd (upd (upd (upd (upd (upd (upd (upd (upd (upd (upd (upd (upd (upd (upd (upd (upd (upd (upd (upd (upd (upd (upd (upd (fun _ => 0) 4 (-1 : Int32)) 6 (-1 : Int32)) 0 (0 : Int32)) 1 (0 : Int32)) 2 (0 : Int32)) 3 (0 : Int32)) 4 (0 : Int32)) 5 (0 : Int32)) 6 (0 : Int32)) 7 (0 : Int32)) 8 (0 : Int32)) 9 (0 : Int32)) 10 (0 : Int32)) 11 (0 : Int32)) 12 (0 : Int32)) 13 (0 : Int32)) 14 (0 : Int32)) 15 (0 : Int32)) 16 (0 : Int32)) 17 (0 : Int32)) 18 (0 : Int32)) 19 (0 : Int32)) 20 (0 : Int32)) 21 (0 : Int32)) 22 (0 : Int32)))) := ⟨_, rfl⟩
  refine x_heap (u2 := u30) eu30.symm ?_
  refine x_iinc C 0 [(3, .int (23 : Int32)), (2, .int (0 : Int32)), (1, .int (1 : Int32)), (0, .ref (z + 134))] dX10_bridge_190 rfl (by decide) (by decide) rfl ?_
  refine x_goto C 177 dX10_bridge_193 (by decide) ?_
  refine x_iload_n C 0 dX10_bridge_177 rfl rfl ?_
  refine x_bipush (v := (25 : Int32)) C dX10_bridge_178 (by decide) ?_
  refine x_icmp_ge_f C 196 dX10_bridge_180 (by decide) (by decide) ?_
  refine x_aload_n C 3 dX10_bridge_183 rfl rfl ?_
  have k134_30 := (congrFun eu30 134).trans (hup_n' (by decide) (k134_29))
  refine gfX10_47 C dX10_bridge_184 k134_30 rfl ?_
  refine x_iload_n C 0 dX10_bridge_187 rfl rfl ?_
  refine x_iconst (v := (0 : Int32)) C dX10_bridge_188 (by decide) ?_
  have k146_30 := (congrFun eu30 146).trans (hup_s _ _ _)
  refine x_iastk C 23 k146_30 (vp_in_lit (by decide) (by decide)) (by decide) dX10_bridge_189 ?_
  obtain ⟨u31, eu31⟩ : ∃ w : HpT, w = (hup u30 146 (aI G 25 (upd (upd (upd (upd (upd (upd (upd (upd (upd (upd (upd (upd (upd (upd (upd (upd (upd (upd (upd (upd (upd (upd (upd (upd (upd (upd (fun _ => 0) 4 (-1 : Int32)) 6 (-1 : Int32)) 0 (0 : Int32)) 1 (0 : Int32)) 2 (0 : Int32)) 3 (0 : Int32)) 4 (0 : Int32)) 5 (0 : Int32)) 6 (0 : Int32)) 7 (0 : Int32)) 8 (0 : Int32)) 9 (0 : Int32)) 10 (0 : Int32)) 11 (0 : Int32)) 12 (0 : Int32)) 13 (0 : Int32)) 14 (0 : Int32)) 15 (0 : Int32)) 16 (0 : Int32)) 17 (0 : Int32)) 18 (0 : Int32)) 19 (0 : Int32)) 20 (0 : Int32)) 21 (0 : Int32)) 22 (0 : Int32)) 23 (0 : Int32)))) := ⟨_, rfl⟩
  refine x_heap (u2 := u31) eu31.symm ?_
  refine x_iinc C 0 [(3, .int (24 : Int32)), (2, .int (0 : Int32)), (1, .int (1 : Int32)), (0, .ref (z + 134))] dX10_bridge_190 rfl (by decide) (by decide) rfl ?_
  refine x_goto C 177 dX10_bridge_193 (by decide) ?_
  refine x_iload_n C 0 dX10_bridge_177 rfl rfl ?_
  refine x_bipush (v := (25 : Int32)) C dX10_bridge_178 (by decide) ?_
  refine x_icmp_ge_f C 196 dX10_bridge_180 (by decide) (by decide) ?_
  refine x_aload_n C 3 dX10_bridge_183 rfl rfl ?_
  have k134_31 := (congrFun eu31 134).trans (hup_n' (by decide) (k134_30))
  refine gfX10_47 C dX10_bridge_184 k134_31 rfl ?_
  refine x_iload_n C 0 dX10_bridge_187 rfl rfl ?_
  refine x_iconst (v := (0 : Int32)) C dX10_bridge_188 (by decide) ?_
  have k146_31 := (congrFun eu31 146).trans (hup_s _ _ _)
  refine x_iastk C 24 k146_31 (vp_in_lit (by decide) (by decide)) (by decide) dX10_bridge_189 ?_
  obtain ⟨u32, eu32⟩ : ∃ w : HpT, w = (hup u31 146 (aI G 25 (upd (upd (upd (upd (upd (upd (upd (upd (upd (upd (upd (upd (upd (upd (upd (upd (upd (upd (upd (upd (upd (upd (upd (upd (upd (upd (upd (fun _ => 0) 4 (-1 : Int32)) 6 (-1 : Int32)) 0 (0 : Int32)) 1 (0 : Int32)) 2 (0 : Int32)) 3 (0 : Int32)) 4 (0 : Int32)) 5 (0 : Int32)) 6 (0 : Int32)) 7 (0 : Int32)) 8 (0 : Int32)) 9 (0 : Int32)) 10 (0 : Int32)) 11 (0 : Int32)) 12 (0 : Int32)) 13 (0 : Int32)) 14 (0 : Int32)) 15 (0 : Int32)) 16 (0 : Int32)) 17 (0 : Int32)) 18 (0 : Int32)) 19 (0 : Int32)) 20 (0 : Int32)) 21 (0 : Int32)) 22 (0 : Int32)) 23 (0 : Int32)) 24 (0 : Int32)))) := ⟨_, rfl⟩
  refine x_heap (u2 := u32) eu32.symm ?_
  refine x_iinc C 0 [(3, .int (25 : Int32)), (2, .int (0 : Int32)), (1, .int (1 : Int32)), (0, .ref (z + 134))] dX10_bridge_190 rfl (by decide) (by decide) rfl ?_
  refine x_goto C 177 dX10_bridge_193 (by decide) ?_
  refine x_iload_n C 0 dX10_bridge_177 rfl rfl ?_
  refine x_bipush (v := (25 : Int32)) C dX10_bridge_178 (by decide) ?_
  refine x_icmp_ge_t C 196 dX10_bridge_180 (by decide) (by decide) ?_
  refine x_aload_n C 3 dX10_bridge_196 rfl rfl ?_
  have k134_32 := (congrFun eu32 134).trans (hup_n' (by decide) (k134_31))
  refine gfX10_47 C dX10_bridge_197 k134_32 rfl ?_
  refine x_iconst (v := (4 : Int32)) C dX10_bridge_200 (by decide) ?_
  refine x_iconst (v := (-1 : Int32)) C dX10_bridge_201 (by decide) ?_
  have k146_32 := (congrFun eu32 146).trans (hup_s _ _ _)
  refine x_iastk C 4 k146_32 (vp_in_lit (by decide) (by decide)) (by decide) dX10_bridge_202 ?_
  obtain ⟨u33, eu33⟩ : ∃ w : HpT, w = (hup u32 146 (aI G 25 (upd (upd (upd (upd (upd (upd (upd (upd (upd (upd (upd (upd (upd (upd (upd (upd (upd (upd (upd (upd (upd (upd (upd (upd (upd (upd (upd (upd (fun _ => 0) 4 (-1 : Int32)) 6 (-1 : Int32)) 0 (0 : Int32)) 1 (0 : Int32)) 2 (0 : Int32)) 3 (0 : Int32)) 4 (0 : Int32)) 5 (0 : Int32)) 6 (0 : Int32)) 7 (0 : Int32)) 8 (0 : Int32)) 9 (0 : Int32)) 10 (0 : Int32)) 11 (0 : Int32)) 12 (0 : Int32)) 13 (0 : Int32)) 14 (0 : Int32)) 15 (0 : Int32)) 16 (0 : Int32)) 17 (0 : Int32)) 18 (0 : Int32)) 19 (0 : Int32)) 20 (0 : Int32)) 21 (0 : Int32)) 22 (0 : Int32)) 23 (0 : Int32)) 24 (0 : Int32)) 4 (-1 : Int32)))) := ⟨_, rfl⟩
  refine x_heap (u2 := u33) eu33.symm ?_
  refine x_aload_n C 3 dX10_bridge_203 rfl rfl ?_
  have k134_33 := (congrFun eu33 134).trans (hup_n' (by decide) (k134_32))
  refine gfX10_47 C dX10_bridge_204 k134_33 rfl ?_
  refine x_bipush (v := (6 : Int32)) C dX10_bridge_207 (by decide) ?_
  refine x_iconst (v := (-1 : Int32)) C dX10_bridge_209 (by decide) ?_
  have k146_33 := (congrFun eu33 146).trans (hup_s _ _ _)
  refine x_iastk C 6 k146_33 (vp_in_lit (by decide) (by decide)) (by decide) dX10_bridge_210 ?_
  obtain ⟨u34, eu34⟩ : ∃ w : HpT, w = (hup u33 146 (aI G 25 (upd (upd (upd (upd (upd (upd (upd (upd (upd (upd (upd (upd (upd (upd (upd (upd (upd (upd (upd (upd (upd (upd (upd (upd (upd (upd (upd (upd (upd (fun _ => 0) 4 (-1 : Int32)) 6 (-1 : Int32)) 0 (0 : Int32)) 1 (0 : Int32)) 2 (0 : Int32)) 3 (0 : Int32)) 4 (0 : Int32)) 5 (0 : Int32)) 6 (0 : Int32)) 7 (0 : Int32)) 8 (0 : Int32)) 9 (0 : Int32)) 10 (0 : Int32)) 11 (0 : Int32)) 12 (0 : Int32)) 13 (0 : Int32)) 14 (0 : Int32)) 15 (0 : Int32)) 16 (0 : Int32)) 17 (0 : Int32)) 18 (0 : Int32)) 19 (0 : Int32)) 20 (0 : Int32)) 21 (0 : Int32)) 22 (0 : Int32)) 23 (0 : Int32)) 24 (0 : Int32)) 4 (-1 : Int32)) 6 (-1 : Int32)))) := ⟨_, rfl⟩
  refine x_heap (u2 := u34) eu34.symm ?_
  refine x_aload_n C 3 dX10_bridge_211 rfl rfl ?_
  have k134_34 := (congrFun eu34 134).trans (hup_n' (by decide) (k134_33))
  refine gfX10_47 C dX10_bridge_212 k134_34 rfl ?_
  refine x_iconst (v := (3 : Int32)) C dX10_bridge_215 (by decide) ?_
  refine x_aload_n C 3 dX10_bridge_216 rfl rfl ?_
  refine gfX10_153 C dX10_bridge_217 k134_34 rfl ?_
  refine x_if_le_t C 227 dX10_bridge_220 (by decide) (by decide) ?_
  refine x_iconst (v := (0 : Int32)) C dX10_bridge_227 (by decide) ?_
  have k146_34 := (congrFun eu34 146).trans (hup_s _ _ _)
  refine x_iastk C 3 k146_34 (vp_in_lit (by decide) (by decide)) (by decide) dX10_bridge_228 ?_
  obtain ⟨u35, eu35⟩ : ∃ w : HpT, w = (hup u34 146 (aI G 25 (upd (upd (upd (upd (upd (upd (upd (upd (upd (upd (upd (upd (upd (upd (upd (upd (upd (upd (upd (upd (upd (upd (upd (upd (upd (upd (upd (upd (upd (upd (fun _ => 0) 4 (-1 : Int32)) 6 (-1 : Int32)) 0 (0 : Int32)) 1 (0 : Int32)) 2 (0 : Int32)) 3 (0 : Int32)) 4 (0 : Int32)) 5 (0 : Int32)) 6 (0 : Int32)) 7 (0 : Int32)) 8 (0 : Int32)) 9 (0 : Int32)) 10 (0 : Int32)) 11 (0 : Int32)) 12 (0 : Int32)) 13 (0 : Int32)) 14 (0 : Int32)) 15 (0 : Int32)) 16 (0 : Int32)) 17 (0 : Int32)) 18 (0 : Int32)) 19 (0 : Int32)) 20 (0 : Int32)) 21 (0 : Int32)) 22 (0 : Int32)) 23 (0 : Int32)) 24 (0 : Int32)) 4 (-1 : Int32)) 6 (-1 : Int32)) 3 (0 : Int32)))) := ⟨_, rfl⟩
  refine x_heap (u2 := u35) eu35.symm ?_
  refine x_aload_n C 3 dX10_bridge_229 rfl rfl ?_
  refine x_iconst (v := (0 : Int32)) C dX10_bridge_230 (by decide) ?_
  have k134_35 := (congrFun eu35 134).trans (hup_n' (by decide) (k134_34))
  obtain ⟨u36, eu36⟩ : ∃ w : HpT, w = (hup u35 134 (.inr (9, [.int (0 : Int32), .ref (z + 135), .int (0 : Int32), .int (0 : Int32), .int (0 : Int32), .int (-1 : Int32), .int (0 : Int32), .int (0 : Int32), .int (0 : Int32), .int (0 : Int32), .ref (z + 136), .ref (z + 137), .ref (z + 138), .ref (z + 139), .ref (z + 140), .int (0 : Int32), .int (0 : Int32), .int (0 : Int32), .int (0 : Int32), .ref (z + 141), .ref (z + 142), .ref (z + 143), .ref (z + 144), .ref (z + 145), .ref (z + 146), .int (0 : Int32), .int (0 : Int32), .ref (z + 147), .long (0 : Int64), .ref (z + 148), .int (0 : Int32), .int (0 : Int32), .int (0 : Int32), .ref (z + 149), .int (0 : Int32), .ref (z + 150), .ref (z + 151), .int (0 : Int32), .ref (z + 152), .ref (z + 153), .ref (z + 154), .ref (z + 155), .ref (z + 156)]))) := ⟨_, rfl⟩
  refine pfX10_159 C dX10_bridge_231 k134_35 (Nat.le_of_ble_eq_true rfl) rfl eu36.symm ?_
  refine x_aload_n C 3 dX10_bridge_234 rfl rfl ?_
  refine x_iconst (v := (0 : Int32)) C dX10_bridge_235 (by decide) ?_
  have k134_36 := (congrFun eu36 134).trans (hup_s _ _ _)
  obtain ⟨u37, eu37⟩ : ∃ w : HpT, w = (hup u36 134 (.inr (9, [.int (0 : Int32), .ref (z + 135), .int (0 : Int32), .int (0 : Int32), .int (0 : Int32), .int (-1 : Int32), .int (0 : Int32), .int (0 : Int32), .int (0 : Int32), .int (0 : Int32), .ref (z + 136), .ref (z + 137), .ref (z + 138), .ref (z + 139), .ref (z + 140), .int (0 : Int32), .int (0 : Int32), .int (0 : Int32), .int (0 : Int32), .ref (z + 141), .ref (z + 142), .ref (z + 143), .ref (z + 144), .ref (z + 145), .ref (z + 146), .int (0 : Int32), .int (0 : Int32), .ref (z + 147), .long (0 : Int64), .ref (z + 148), .int (0 : Int32), .int (0 : Int32), .int (0 : Int32), .ref (z + 149), .int (0 : Int32), .ref (z + 150), .ref (z + 151), .int (0 : Int32), .ref (z + 152), .ref (z + 153), .ref (z + 154), .ref (z + 155), .ref (z + 156)]))) := ⟨_, rfl⟩
  refine pfX10_162 C dX10_bridge_236 k134_36 (Nat.le_of_ble_eq_true rfl) rfl eu37.symm ?_
  refine x_aload_n C 3 dX10_bridge_239 rfl rfl ?_
  refine x_iconst (v := (0 : Int32)) C dX10_bridge_240 (by decide) ?_
  have k134_37 := (congrFun eu37 134).trans (hup_s _ _ _)
  obtain ⟨u38, eu38⟩ : ∃ w : HpT, w = (hup u37 134 (.inr (9, [.int (0 : Int32), .ref (z + 135), .int (0 : Int32), .int (0 : Int32), .int (0 : Int32), .int (-1 : Int32), .int (0 : Int32), .int (0 : Int32), .int (0 : Int32), .int (0 : Int32), .ref (z + 136), .ref (z + 137), .ref (z + 138), .ref (z + 139), .ref (z + 140), .int (0 : Int32), .int (0 : Int32), .int (0 : Int32), .int (0 : Int32), .ref (z + 141), .ref (z + 142), .ref (z + 143), .ref (z + 144), .ref (z + 145), .ref (z + 146), .int (0 : Int32), .int (0 : Int32), .ref (z + 147), .long (0 : Int64), .ref (z + 148), .int (0 : Int32), .int (0 : Int32), .int (0 : Int32), .ref (z + 149), .int (0 : Int32), .ref (z + 150), .ref (z + 151), .int (0 : Int32), .ref (z + 152), .ref (z + 153), .ref (z + 154), .ref (z + 155), .ref (z + 156)]))) := ⟨_, rfl⟩
  refine pfX10_165 C dX10_bridge_241 k134_37 (Nat.le_of_ble_eq_true rfl) rfl eu38.symm ?_
  refine x_aload_n C 3 dX10_bridge_244 rfl rfl ?_
  have k134_38 := (congrFun eu38 134).trans (hup_s _ _ _)
  refine gfX10_71 C dX10_bridge_245 k134_38 rfl ?_
  refine x_iconst (v := (0 : Int32)) C dX10_bridge_248 (by decide) ?_
  refine x_iconst (v := (0 : Int32)) C dX10_bridge_249 (by decide) ?_
  have k154_1 := (congrFun eu1 154).trans (hup_n' (by decide) (h154))
  have k154_2 := (congrFun eu2 154).trans (hup_n' (by decide) (k154_1))
  have k154_3 := (congrFun eu3 154).trans (hup_n' (by decide) (k154_2))
  have k154_4 := (congrFun eu4 154).trans (hup_n' (by decide) (k154_3))
  have k154_5 := (congrFun eu5 154).trans (hup_n' (by decide) (k154_4))
  have k154_6 := (congrFun eu6 154).trans (hup_n' (by decide) (k154_5))
  have k154_7 := (congrFun eu7 154).trans (hup_n' (by decide) (k154_6))
  have k154_8 := (congrFun eu8 154).trans (hup_n' (by decide) (k154_7))
  have k154_9 := (congrFun eu9 154).trans (hup_n' (by decide) (k154_8))
  have k154_10 := (congrFun eu10 154).trans (hup_n' (by decide) (k154_9))
  have k154_11 := (congrFun eu11 154).trans (hup_n' (by decide) (k154_10))
  have k154_12 := (congrFun eu12 154).trans (hup_n' (by decide) (k154_11))
  have k154_13 := (congrFun eu13 154).trans (hup_n' (by decide) (k154_12))
  have k154_14 := (congrFun eu14 154).trans (hup_n' (by decide) (k154_13))
  have k154_15 := (congrFun eu15 154).trans (hup_n' (by decide) (k154_14))
  have k154_16 := (congrFun eu16 154).trans (hup_n' (by decide) (k154_15))
  have k154_17 := (congrFun eu17 154).trans (hup_n' (by decide) (k154_16))
  have k154_18 := (congrFun eu18 154).trans (hup_n' (by decide) (k154_17))
  have k154_19 := (congrFun eu19 154).trans (hup_n' (by decide) (k154_18))
  have k154_20 := (congrFun eu20 154).trans (hup_n' (by decide) (k154_19))
  have k154_21 := (congrFun eu21 154).trans (hup_n' (by decide) (k154_20))
  have k154_22 := (congrFun eu22 154).trans (hup_n' (by decide) (k154_21))
  have k154_23 := (congrFun eu23 154).trans (hup_n' (by decide) (k154_22))
  have k154_24 := (congrFun eu24 154).trans (hup_n' (by decide) (k154_23))
  have k154_25 := (congrFun eu25 154).trans (hup_n' (by decide) (k154_24))
  have k154_26 := (congrFun eu26 154).trans (hup_n' (by decide) (k154_25))
  have k154_27 := (congrFun eu27 154).trans (hup_n' (by decide) (k154_26))
  have k154_28 := (congrFun eu28 154).trans (hup_n' (by decide) (k154_27))
  have k154_29 := (congrFun eu29 154).trans (hup_n' (by decide) (k154_28))
  have k154_30 := (congrFun eu30 154).trans (hup_n' (by decide) (k154_29))
  have k154_31 := (congrFun eu31 154).trans (hup_n' (by decide) (k154_30))
  have k154_32 := (congrFun eu32 154).trans (hup_n' (by decide) (k154_31))
  have k154_33 := (congrFun eu33 154).trans (hup_n' (by decide) (k154_32))
  have k154_34 := (congrFun eu34 154).trans (hup_n' (by decide) (k154_33))
  have k154_35 := (congrFun eu35 154).trans (hup_n' (by decide) (k154_34))
  have k154_36 := (congrFun eu36 154).trans (hup_n' (by decide) (k154_35))
  have k154_37 := (congrFun eu37 154).trans (hup_n' (by decide) (k154_36))
  have k154_38 := (congrFun eu38 154).trans (hup_n' (by decide) (k154_37))
  refine x_zastk C 0 k154_38 (vp_in_lit (by decide) (by decide)) (by decide) dX10_bridge_250 (by decide) ?_
  obtain ⟨u39, eu39⟩ : ∃ w : HpT, w = (hup u38 154 (aZ G 2 (upd (fun _ => 0) 0 (0 : Int32)))) := ⟨_, rfl⟩
  refine x_heap (u2 := u39) eu39.symm ?_
  refine x_aload_n C 3 dX10_bridge_251 rfl rfl ?_
  have k134_39 := (congrFun eu39 134).trans (hup_n' (by decide) (k134_38))
  refine gfX10_71 C dX10_bridge_252 k134_39 rfl ?_
  refine x_iconst (v := (1 : Int32)) C dX10_bridge_255 (by decide) ?_
  refine x_iconst (v := (0 : Int32)) C dX10_bridge_256 (by decide) ?_
  have k154_39 := (congrFun eu39 154).trans (hup_s _ _ _)
  refine x_zastk C 1 k154_39 (vp_in_lit (by decide) (by decide)) (by decide) dX10_bridge_257 (by decide) ?_
  obtain ⟨u40, eu40⟩ : ∃ w : HpT, w = (hup u39 154 (aZ G 2 (upd (upd (fun _ => 0) 0 (0 : Int32)) 1 (0 : Int32)))) := ⟨_, rfl⟩
  refine x_heap (u2 := u40) eu40.symm ?_
  refine x_aload_n C 3 dX10_bridge_258 rfl rfl ?_
  have k134_40 := (congrFun eu40 134).trans (hup_n' (by decide) (k134_39))
  refine gfX10_156 C dX10_bridge_259 k134_40 rfl ?_
  exact x_iret C hr hlk (Nat.le_of_ble_eq_true rfl) (Nat.le_of_ble_eq_true rfl) dX10_bridge_262 rfl (by rw [eu40, eu39, eu38, eu37, eu36, eu35, eu34, eu33, eu32, eu31, eu30, eu29, eu28, eu27, eu26, eu25, eu24, eu23, eu22, eu21, eu20, eu19, eu18, eu17, eu16, eu15, eu14, eu13, eu12, eu11, eu10, eu9, eu8, eu7, eu6, eu5, eu4, eu3, eu2, eu1]; simp only [hup_hup, hup_sk, ne_eq, Nat.reduceEqDiff, not_false_eq_true]) rfl
set_option maxRecDepth 20000 in
theorem p_X9_fault_0 {G : GT} {l : Launch} {z n : Nat} (u : HpT) (h0 : u 0 = some (.inr (8, [.ref (z + 1), .ref (z + 3), .ref (z + 6), .ref (z + 98), .ref (z + 99), .ref (z + 101), .ref (z + 106), .ref (z + 109), .ref (z + 112), .ref (z + 119), .int (0 : Int32), .int (-1 : Int32)]))) : Mt G l z yX9_fault cX9_fault 1 (some .int) { frames := 0, cells := 0, slots := 0, locals := 0 } [.ref (z + 0)] u n (some (.int (-1 : Int32))) u n := by
  refine mt_of (by decide +kernel) (Nat.le_of_ble_eq_true rfl) ?_
  intro p e s m below meth c C hr hlk hnm
  refine x_aload_n C 0 dX9_fault_0 rfl rfl ?_
  refine gfX9_76 C dX9_fault_1 h0 rfl ?_
  exact x_iret C hr hlk (Nat.le_of_ble_eq_true rfl) (Nat.le_of_ble_eq_true rfl) dX9_fault_4 rfl rfl rfl
set_option maxRecDepth 20000 in
theorem p_X10_fault_0 {G : GT} {l : Launch} {z n : Nat} (u : HpT) (h134 : u 134 = some (.inr (9, [.int (0 : Int32), .ref (z + 135), .int (0 : Int32), .int (0 : Int32), .int (0 : Int32), .int (-1 : Int32), .int (0 : Int32), .int (0 : Int32), .int (0 : Int32), .int (0 : Int32), .ref (z + 136), .ref (z + 137), .ref (z + 138), .ref (z + 139), .ref (z + 140), .int (0 : Int32), .int (0 : Int32), .int (0 : Int32), .int (0 : Int32), .ref (z + 141), .ref (z + 142), .ref (z + 143), .ref (z + 144), .ref (z + 145), .ref (z + 146), .int (0 : Int32), .int (0 : Int32), .ref (z + 147), .long (0 : Int64), .ref (z + 148), .int (0 : Int32), .int (0 : Int32), .int (0 : Int32), .ref (z + 149), .int (0 : Int32), .ref (z + 150), .ref (z + 151), .int (0 : Int32), .ref (z + 152), .ref (z + 153), .ref (z + 154), .ref (z + 155), .ref (z + 156)]))) : Mt G l z yX10_fault cX10_fault 1 (some .int) { frames := 0, cells := 0, slots := 0, locals := 0 } [.ref (z + 134)] u n (some (.int (-1 : Int32))) u n := by
  refine mt_of (by decide +kernel) (Nat.le_of_ble_eq_true rfl) ?_
  intro p e s m below meth c C hr hlk hnm
  refine x_aload_n C 0 dX10_fault_0 rfl rfl ?_
  refine gfX10_13 C dX10_fault_1 h134 rfl ?_
  exact x_iret C hr hlk (Nat.le_of_ble_eq_true rfl) (Nat.le_of_ble_eq_true rfl) dX10_fault_4 rfl rfl rfl
set_option maxRecDepth 20000 in
theorem p_X9_toldOfEvening_0 {G : GT} {l : Launch} {z n : Nat} (u : HpT) (va : Int32) (hl_va : -2147483648 ≤ va.toInt) (hh_va : va.toInt ≤ -1) : Mt G l z yX9_toldOfEvening cX9_toldOfEvening 2 (some .int) { frames := 0, cells := 0, slots := 0, locals := 0 } [.ref (z + 0), .int va] u n (some (.int (-1000000002 : Int32))) u n := by
  refine mt_of (by decide +kernel) (Nat.le_of_ble_eq_true rfl) ?_
  intro p e s m below meth c C hr hlk hnm
  refine x_iload_n C 1 dX9_toldOfEvening_0 rfl rfl ?_
  refine x_tableOut C 136 dX9_toldOfEvening_1 (by omega) (by decide) ?_
  refine x_ldc C kcX9_80 dX9_toldOfEvening_136 ?_
  exact x_iret C hr hlk (Nat.le_of_ble_eq_true rfl) (Nat.le_of_ble_eq_true rfl) dX9_toldOfEvening_138 rfl rfl rfl
set_option maxRecDepth 20000 in
theorem p_X9_told_0 {G : GT} {l : Launch} {z n : Nat} (u : HpT) (va : Int32) (hl_va : -2147483648 ≤ va.toInt) (hh_va : va.toInt ≤ -1) (h0 : u 0 = some (.inr (8, [.ref (z + 1), .ref (z + 3), .ref (z + 6), .ref (z + 98), .ref (z + 99), .ref (z + 101), .ref (z + 106), .ref (z + 109), .ref (z + 112), .ref (z + 119), .int (0 : Int32), .int (-1 : Int32)]))) : Mt G l z yX9_told cX9_told 2 (some .int) { frames := 1, cells := 0, slots := 0, locals := 21 } [.ref (z + 0), .int va] u n (some (.int (-1000000002 : Int32))) u n := by
  refine mt_of (by decide +kernel) (Nat.le_of_ble_eq_true rfl) ?_
  intro p e s m below meth c C hr hlk hnm
  refine x_iload_n C 1 dX9_told_0 rfl rfl ?_
  refine x_tableOut C 203 dX9_told_1 (by omega) (by decide) ?_
  refine x_aload_n C 0 dX9_told_203 rfl rfl ?_
  refine x_iload_n C 1 dX9_told_204 rfl rfl ?_
  refine x_callV C cl_X9_toldOfEvening kmX9_145 (ci := 8) (b := 0) (As := [.int va]) (rest := []) rfl h0 (p_X9_toldOfEvening_0 u va hl_va hh_va) rfl rfl (Nat.le_of_ble_eq_true rfl) ⟨Nat.le_of_ble_eq_true rfl, Nat.le_of_ble_eq_true rfl⟩ ⟨Nat.le_of_ble_eq_true rfl, Nat.le_of_ble_eq_true rfl⟩ dX9_told_205 ?_
  refine x_norm (st2 := [.int (-1000000002 : Int32)]) (kc2 := 0) (ks2 := 0) rfl rfl rfl rfl rfl ?_
  exact x_iret C hr hlk (Nat.le_of_ble_eq_true rfl) (Nat.le_of_ble_eq_true rfl) dX9_told_208 rfl rfl rfl
set_option maxRecDepth 20000 in
theorem p_X10_told_0 {G : GT} {l : Launch} {z n : Nat} (u : HpT) (va : Int32) (hl_va : -2147483648 ≤ va.toInt) (hh_va : va.toInt ≤ -1) : Mt G l z yX10_told cX10_told 2 (some .int) { frames := 0, cells := 0, slots := 0, locals := 0 } [.ref (z + 134), .int va] u n (some (.int (-1000000002 : Int32))) u n := by
  refine mt_of (by decide +kernel) (Nat.le_of_ble_eq_true rfl) ?_
  intro p e s m below meth c C hr hlk hnm
  refine x_iload_n C 1 dX10_told_0 rfl rfl ?_
  refine x_tableOut C 223 dX10_told_1 (by omega) (by decide) ?_
  refine x_ldc C kcX10_86 dX10_told_223 ?_
  exact x_iret C hr hlk (Nat.le_of_ble_eq_true rfl) (Nat.le_of_ble_eq_true rfl) dX10_told_225 rfl rfl rfl
set_option maxRecDepth 20000 in
theorem p_X9_told_1 {G : GT} {l : Launch} {z n : Nat} (u : HpT) (h0 : u 0 = some (.inr (8, [.ref (z + 1), .ref (z + 3), .ref (z + 6), .ref (z + 98), .ref (z + 99), .ref (z + 101), .ref (z + 106), .ref (z + 109), .ref (z + 112), .ref (z + 119), .int (0 : Int32), .int (-1 : Int32)]))) (h112 : u 112 = some (.inr (0, [.int (0 : Int32), .int (0 : Int32), .int (0 : Int32), .int (0 : Int32), .ref (z + 113), .ref (z + 114), .ref (z + 115), .ref (z + 116), .ref (z + 117), .ref (z + 118)]))) : Mt G l z yX9_told cX9_told 2 (some .int) { frames := 0, cells := 0, slots := 0, locals := 0 } [.ref (z + 0), .int (0 : Int32)] u n (some (.int (0 : Int32))) u n := by
  refine mt_of (by decide +kernel) (Nat.le_of_ble_eq_true rfl) ?_
  intro p e s m below meth c C hr hlk hnm
  refine x_iload_n C 1 dX9_told_0 rfl rfl ?_
  refine x_tableIn C 100 dX9_told_1 (by decide) (by decide) rfl (by decide) ?_
  refine x_aload_n C 0 dX9_told_100 rfl rfl ?_
  refine gfX9_65 C dX9_told_101 h0 rfl ?_
  refine gfX9_117 C dX9_told_104 h112 rfl ?_
  exact x_iret C hr hlk (Nat.le_of_ble_eq_true rfl) (Nat.le_of_ble_eq_true rfl) dX9_told_107 rfl rfl rfl
set_option maxRecDepth 20000 in
theorem p_X10_told_1 {G : GT} {l : Launch} {z n : Nat} (u : HpT) (h134 : u 134 = some (.inr (9, [.int (0 : Int32), .ref (z + 135), .int (0 : Int32), .int (0 : Int32), .int (0 : Int32), .int (-1 : Int32), .int (0 : Int32), .int (0 : Int32), .int (0 : Int32), .int (0 : Int32), .ref (z + 136), .ref (z + 137), .ref (z + 138), .ref (z + 139), .ref (z + 140), .int (0 : Int32), .int (0 : Int32), .int (0 : Int32), .int (0 : Int32), .ref (z + 141), .ref (z + 142), .ref (z + 143), .ref (z + 144), .ref (z + 145), .ref (z + 146), .int (0 : Int32), .int (0 : Int32), .ref (z + 147), .long (0 : Int64), .ref (z + 148), .int (0 : Int32), .int (0 : Int32), .int (0 : Int32), .ref (z + 149), .int (0 : Int32), .ref (z + 150), .ref (z + 151), .int (0 : Int32), .ref (z + 152), .ref (z + 153), .ref (z + 154), .ref (z + 155), .ref (z + 156)]))) : Mt G l z yX10_told cX10_told 2 (some .int) { frames := 0, cells := 0, slots := 0, locals := 0 } [.ref (z + 134), .int (0 : Int32)] u n (some (.int (0 : Int32))) u n := by
  refine mt_of (by decide +kernel) (Nat.le_of_ble_eq_true rfl) ?_
  intro p e s m below meth c C hr hlk hnm
  refine x_iload_n C 1 dX10_told_0 rfl rfl ?_
  refine x_tableIn C 100 dX10_told_1 (by decide) (by decide) rfl (by decide) ?_
  refine x_aload_n C 0 dX10_told_100 rfl rfl ?_
  refine gfX10_147 C dX10_told_101 h134 rfl ?_
  exact x_iret C hr hlk (Nat.le_of_ble_eq_true rfl) (Nat.le_of_ble_eq_true rfl) dX10_told_104 rfl rfl rfl
set_option maxRecDepth 20000 in
theorem p_X9_told_2 {G : GT} {l : Launch} {z n : Nat} (u : HpT) (h0 : u 0 = some (.inr (8, [.ref (z + 1), .ref (z + 3), .ref (z + 6), .ref (z + 98), .ref (z + 99), .ref (z + 101), .ref (z + 106), .ref (z + 109), .ref (z + 112), .ref (z + 119), .int (0 : Int32), .int (-1 : Int32)]))) (h112 : u 112 = some (.inr (0, [.int (0 : Int32), .int (0 : Int32), .int (0 : Int32), .int (0 : Int32), .ref (z + 113), .ref (z + 114), .ref (z + 115), .ref (z + 116), .ref (z + 117), .ref (z + 118)]))) : Mt G l z yX9_told cX9_told 2 (some .int) { frames := 0, cells := 0, slots := 0, locals := 0 } [.ref (z + 0), .int (1 : Int32)] u n (some (.int (0 : Int32))) u n := by
  refine mt_of (by decide +kernel) (Nat.le_of_ble_eq_true rfl) ?_
  intro p e s m below meth c C hr hlk hnm
  refine x_iload_n C 1 dX9_told_0 rfl rfl ?_
  refine x_tableIn C 108 dX9_told_1 (by decide) (by decide) rfl (by decide) ?_
  refine x_aload_n C 0 dX9_told_108 rfl rfl ?_
  refine gfX9_65 C dX9_told_109 h0 rfl ?_
  refine gfX9_120 C dX9_told_112 h112 rfl ?_
  exact x_iret C hr hlk (Nat.le_of_ble_eq_true rfl) (Nat.le_of_ble_eq_true rfl) dX9_told_115 rfl rfl rfl
set_option maxRecDepth 20000 in
theorem p_X10_told_2 {G : GT} {l : Launch} {z n : Nat} (u : HpT) (h134 : u 134 = some (.inr (9, [.int (0 : Int32), .ref (z + 135), .int (0 : Int32), .int (0 : Int32), .int (0 : Int32), .int (-1 : Int32), .int (0 : Int32), .int (0 : Int32), .int (0 : Int32), .int (0 : Int32), .ref (z + 136), .ref (z + 137), .ref (z + 138), .ref (z + 139), .ref (z + 140), .int (0 : Int32), .int (0 : Int32), .int (0 : Int32), .int (0 : Int32), .ref (z + 141), .ref (z + 142), .ref (z + 143), .ref (z + 144), .ref (z + 145), .ref (z + 146), .int (0 : Int32), .int (0 : Int32), .ref (z + 147), .long (0 : Int64), .ref (z + 148), .int (0 : Int32), .int (0 : Int32), .int (0 : Int32), .ref (z + 149), .int (0 : Int32), .ref (z + 150), .ref (z + 151), .int (0 : Int32), .ref (z + 152), .ref (z + 153), .ref (z + 154), .ref (z + 155), .ref (z + 156)]))) : Mt G l z yX10_told cX10_told 2 (some .int) { frames := 0, cells := 0, slots := 0, locals := 0 } [.ref (z + 134), .int (1 : Int32)] u n (some (.int (0 : Int32))) u n := by
  refine mt_of (by decide +kernel) (Nat.le_of_ble_eq_true rfl) ?_
  intro p e s m below meth c C hr hlk hnm
  refine x_iload_n C 1 dX10_told_0 rfl rfl ?_
  refine x_tableIn C 105 dX10_told_1 (by decide) (by decide) rfl (by decide) ?_
  refine x_aload_n C 0 dX10_told_105 rfl rfl ?_
  refine gfX10_150 C dX10_told_106 h134 rfl ?_
  exact x_iret C hr hlk (Nat.le_of_ble_eq_true rfl) (Nat.le_of_ble_eq_true rfl) dX10_told_109 rfl rfl rfl
set_option maxRecDepth 20000 in
theorem p_X9_told_3 {G : GT} {l : Launch} {z n : Nat} (u : HpT) (h0 : u 0 = some (.inr (8, [.ref (z + 1), .ref (z + 3), .ref (z + 6), .ref (z + 98), .ref (z + 99), .ref (z + 101), .ref (z + 106), .ref (z + 109), .ref (z + 112), .ref (z + 119), .int (0 : Int32), .int (-1 : Int32)]))) (h112 : u 112 = some (.inr (0, [.int (0 : Int32), .int (0 : Int32), .int (0 : Int32), .int (0 : Int32), .ref (z + 113), .ref (z + 114), .ref (z + 115), .ref (z + 116), .ref (z + 117), .ref (z + 118)]))) : Mt G l z yX9_told cX9_told 2 (some .int) { frames := 0, cells := 0, slots := 0, locals := 0 } [.ref (z + 0), .int (2 : Int32)] u n (some (.int (0 : Int32))) u n := by
  refine mt_of (by decide +kernel) (Nat.le_of_ble_eq_true rfl) ?_
  intro p e s m below meth c C hr hlk hnm
  refine x_iload_n C 1 dX9_told_0 rfl rfl ?_
  refine x_tableIn C 116 dX9_told_1 (by decide) (by decide) rfl (by decide) ?_
  refine x_aload_n C 0 dX9_told_116 rfl rfl ?_
  refine gfX9_65 C dX9_told_117 h0 rfl ?_
  refine gfX9_123 C dX9_told_120 h112 rfl ?_
  exact x_iret C hr hlk (Nat.le_of_ble_eq_true rfl) (Nat.le_of_ble_eq_true rfl) dX9_told_123 rfl rfl rfl
set_option maxRecDepth 20000 in
theorem p_X10_told_3 {G : GT} {l : Launch} {z n : Nat} (u : HpT) (h134 : u 134 = some (.inr (9, [.int (0 : Int32), .ref (z + 135), .int (0 : Int32), .int (0 : Int32), .int (0 : Int32), .int (-1 : Int32), .int (0 : Int32), .int (0 : Int32), .int (0 : Int32), .int (0 : Int32), .ref (z + 136), .ref (z + 137), .ref (z + 138), .ref (z + 139), .ref (z + 140), .int (0 : Int32), .int (0 : Int32), .int (0 : Int32), .int (0 : Int32), .ref (z + 141), .ref (z + 142), .ref (z + 143), .ref (z + 144), .ref (z + 145), .ref (z + 146), .int (0 : Int32), .int (0 : Int32), .ref (z + 147), .long (0 : Int64), .ref (z + 148), .int (0 : Int32), .int (0 : Int32), .int (0 : Int32), .ref (z + 149), .int (0 : Int32), .ref (z + 150), .ref (z + 151), .int (0 : Int32), .ref (z + 152), .ref (z + 153), .ref (z + 154), .ref (z + 155), .ref (z + 156)]))) : Mt G l z yX10_told cX10_told 2 (some .int) { frames := 0, cells := 0, slots := 0, locals := 0 } [.ref (z + 134), .int (2 : Int32)] u n (some (.int (0 : Int32))) u n := by
  refine mt_of (by decide +kernel) (Nat.le_of_ble_eq_true rfl) ?_
  intro p e s m below meth c C hr hlk hnm
  refine x_iload_n C 1 dX10_told_0 rfl rfl ?_
  refine x_tableIn C 110 dX10_told_1 (by decide) (by decide) rfl (by decide) ?_
  refine x_aload_n C 0 dX10_told_110 rfl rfl ?_
  refine gfX10_153 C dX10_told_111 h134 rfl ?_
  exact x_iret C hr hlk (Nat.le_of_ble_eq_true rfl) (Nat.le_of_ble_eq_true rfl) dX10_told_114 rfl rfl rfl
set_option maxRecDepth 20000 in
theorem p_X9_told_4 {G : GT} {l : Launch} {z n : Nat} (u : HpT) (h0 : u 0 = some (.inr (8, [.ref (z + 1), .ref (z + 3), .ref (z + 6), .ref (z + 98), .ref (z + 99), .ref (z + 101), .ref (z + 106), .ref (z + 109), .ref (z + 112), .ref (z + 119), .int (0 : Int32), .int (-1 : Int32)]))) (h112 : u 112 = some (.inr (0, [.int (0 : Int32), .int (0 : Int32), .int (0 : Int32), .int (0 : Int32), .ref (z + 113), .ref (z + 114), .ref (z + 115), .ref (z + 116), .ref (z + 117), .ref (z + 118)]))) : Mt G l z yX9_told cX9_told 2 (some .int) { frames := 0, cells := 0, slots := 0, locals := 0 } [.ref (z + 0), .int (3 : Int32)] u n (some (.int (0 : Int32))) u n := by
  refine mt_of (by decide +kernel) (Nat.le_of_ble_eq_true rfl) ?_
  intro p e s m below meth c C hr hlk hnm
  refine x_iload_n C 1 dX9_told_0 rfl rfl ?_
  refine x_tableIn C 124 dX9_told_1 (by decide) (by decide) rfl (by decide) ?_
  refine x_aload_n C 0 dX9_told_124 rfl rfl ?_
  refine gfX9_65 C dX9_told_125 h0 rfl ?_
  refine gfX9_103 C dX9_told_128 h112 rfl ?_
  exact x_iret C hr hlk (Nat.le_of_ble_eq_true rfl) (Nat.le_of_ble_eq_true rfl) dX9_told_131 rfl rfl rfl
set_option maxRecDepth 20000 in
theorem p_X10_told_4 {G : GT} {l : Launch} {z n : Nat} (u : HpT) (h134 : u 134 = some (.inr (9, [.int (0 : Int32), .ref (z + 135), .int (0 : Int32), .int (0 : Int32), .int (0 : Int32), .int (-1 : Int32), .int (0 : Int32), .int (0 : Int32), .int (0 : Int32), .int (0 : Int32), .ref (z + 136), .ref (z + 137), .ref (z + 138), .ref (z + 139), .ref (z + 140), .int (0 : Int32), .int (0 : Int32), .int (0 : Int32), .int (0 : Int32), .ref (z + 141), .ref (z + 142), .ref (z + 143), .ref (z + 144), .ref (z + 145), .ref (z + 146), .int (0 : Int32), .int (0 : Int32), .ref (z + 147), .long (0 : Int64), .ref (z + 148), .int (0 : Int32), .int (0 : Int32), .int (0 : Int32), .ref (z + 149), .int (0 : Int32), .ref (z + 150), .ref (z + 151), .int (0 : Int32), .ref (z + 152), .ref (z + 153), .ref (z + 154), .ref (z + 155), .ref (z + 156)]))) : Mt G l z yX10_told cX10_told 2 (some .int) { frames := 0, cells := 0, slots := 0, locals := 0 } [.ref (z + 134), .int (3 : Int32)] u n (some (.int (0 : Int32))) u n := by
  refine mt_of (by decide +kernel) (Nat.le_of_ble_eq_true rfl) ?_
  intro p e s m below meth c C hr hlk hnm
  refine x_iload_n C 1 dX10_told_0 rfl rfl ?_
  refine x_tableIn C 115 dX10_told_1 (by decide) (by decide) rfl (by decide) ?_
  refine x_aload_n C 0 dX10_told_115 rfl rfl ?_
  refine gfX10_156 C dX10_told_116 h134 rfl ?_
  exact x_iret C hr hlk (Nat.le_of_ble_eq_true rfl) (Nat.le_of_ble_eq_true rfl) dX10_told_119 rfl rfl rfl
set_option maxRecDepth 20000 in
theorem p_X9_told_5 {G : GT} {l : Launch} {z n : Nat} (u : HpT) (h0 : u 0 = some (.inr (8, [.ref (z + 1), .ref (z + 3), .ref (z + 6), .ref (z + 98), .ref (z + 99), .ref (z + 101), .ref (z + 106), .ref (z + 109), .ref (z + 112), .ref (z + 119), .int (0 : Int32), .int (-1 : Int32)]))) (h1 : u 1 = some (.inr (6, [.ref (z + 2), .int (0 : Int32), .int (0 : Int32), .int (0 : Int32), .int (-1 : Int32)]))) : Mt G l z yX9_told cX9_told 2 (some .int) { frames := 0, cells := 0, slots := 0, locals := 0 } [.ref (z + 0), .int (4 : Int32)] u n (some (.int (0 : Int32))) u n := by
  refine mt_of (by decide +kernel) (Nat.le_of_ble_eq_true rfl) ?_
  intro p e s m below meth c C hr hlk hnm
  refine x_iload_n C 1 dX9_told_0 rfl rfl ?_
  refine x_tableIn C 132 dX9_told_1 (by decide) (by decide) rfl (by decide) ?_
  refine x_aload_n C 0 dX9_told_132 rfl rfl ?_
  refine gfX9_10 C dX9_told_133 h0 rfl ?_
  refine gfX9_85 C dX9_told_136 h1 rfl ?_
  exact x_iret C hr hlk (Nat.le_of_ble_eq_true rfl) (Nat.le_of_ble_eq_true rfl) dX9_told_139 rfl rfl rfl
set_option maxRecDepth 20000 in
theorem p_X10_told_5 {G : GT} {l : Launch} {z n : Nat} (u : HpT) (h134 : u 134 = some (.inr (9, [.int (0 : Int32), .ref (z + 135), .int (0 : Int32), .int (0 : Int32), .int (0 : Int32), .int (-1 : Int32), .int (0 : Int32), .int (0 : Int32), .int (0 : Int32), .int (0 : Int32), .ref (z + 136), .ref (z + 137), .ref (z + 138), .ref (z + 139), .ref (z + 140), .int (0 : Int32), .int (0 : Int32), .int (0 : Int32), .int (0 : Int32), .ref (z + 141), .ref (z + 142), .ref (z + 143), .ref (z + 144), .ref (z + 145), .ref (z + 146), .int (0 : Int32), .int (0 : Int32), .ref (z + 147), .long (0 : Int64), .ref (z + 148), .int (0 : Int32), .int (0 : Int32), .int (0 : Int32), .ref (z + 149), .int (0 : Int32), .ref (z + 150), .ref (z + 151), .int (0 : Int32), .ref (z + 152), .ref (z + 153), .ref (z + 154), .ref (z + 155), .ref (z + 156)]))) : Mt G l z yX10_told cX10_told 2 (some .int) { frames := 0, cells := 0, slots := 0, locals := 0 } [.ref (z + 134), .int (4 : Int32)] u n (some (.int (0 : Int32))) u n := by
  refine mt_of (by decide +kernel) (Nat.le_of_ble_eq_true rfl) ?_
  intro p e s m below meth c C hr hlk hnm
  refine x_iload_n C 1 dX10_told_0 rfl rfl ?_
  refine x_tableIn C 120 dX10_told_1 (by decide) (by decide) rfl (by decide) ?_
  refine x_aload_n C 0 dX10_told_120 rfl rfl ?_
  refine gfX10_87 C dX10_told_121 h134 rfl ?_
  exact x_iret C hr hlk (Nat.le_of_ble_eq_true rfl) (Nat.le_of_ble_eq_true rfl) dX10_told_124 rfl rfl rfl
set_option maxRecDepth 20000 in
theorem p_X9_toldOfEvening_1 {G : GT} {l : Launch} {z n : Nat} (u : HpT) (h0 : u 0 = some (.inr (8, [.ref (z + 1), .ref (z + 3), .ref (z + 6), .ref (z + 98), .ref (z + 99), .ref (z + 101), .ref (z + 106), .ref (z + 109), .ref (z + 112), .ref (z + 119), .int (0 : Int32), .int (-1 : Int32)]))) (h3 : u 3 = some (.inr (2, [.int (0 : Int32), .int (0 : Int32), .int (0 : Int32), .int (0 : Int32), .int (-1 : Int32), .int (0 : Int32), .int (-1 : Int32), .int (0 : Int32), .int (0 : Int32), .int (0 : Int32), .ref (z + 4), .ref (z + 5)]))) : Mt G l z yX9_toldOfEvening cX9_toldOfEvening 2 (some .int) { frames := 0, cells := 0, slots := 0, locals := 0 } [.ref (z + 0), .int (5 : Int32)] u n (some (.int (0 : Int32))) u n := by
  refine mt_of (by decide +kernel) (Nat.le_of_ble_eq_true rfl) ?_
  intro p e s m below meth c C hr hlk hnm
  refine x_iload_n C 1 dX9_toldOfEvening_0 rfl rfl ?_
  refine x_tableIn C 56 dX9_toldOfEvening_1 (by decide) (by decide) rfl (by decide) ?_
  refine x_aload_n C 0 dX9_toldOfEvening_56 rfl rfl ?_
  refine gfX9_19 C dX9_toldOfEvening_57 h0 rfl ?_
  refine gfX9_149 C dX9_toldOfEvening_60 h3 rfl ?_
  exact x_iret C hr hlk (Nat.le_of_ble_eq_true rfl) (Nat.le_of_ble_eq_true rfl) dX9_toldOfEvening_63 rfl rfl rfl
set_option maxRecDepth 20000 in
theorem p_X9_told_6 {G : GT} {l : Launch} {z n : Nat} (u : HpT) (h0 : u 0 = some (.inr (8, [.ref (z + 1), .ref (z + 3), .ref (z + 6), .ref (z + 98), .ref (z + 99), .ref (z + 101), .ref (z + 106), .ref (z + 109), .ref (z + 112), .ref (z + 119), .int (0 : Int32), .int (-1 : Int32)]))) (h3 : u 3 = some (.inr (2, [.int (0 : Int32), .int (0 : Int32), .int (0 : Int32), .int (0 : Int32), .int (-1 : Int32), .int (0 : Int32), .int (-1 : Int32), .int (0 : Int32), .int (0 : Int32), .int (0 : Int32), .ref (z + 4), .ref (z + 5)]))) : Mt G l z yX9_told cX9_told 2 (some .int) { frames := 1, cells := 0, slots := 0, locals := 21 } [.ref (z + 0), .int (5 : Int32)] u n (some (.int (0 : Int32))) u n := by
  refine mt_of (by decide +kernel) (Nat.le_of_ble_eq_true rfl) ?_
  intro p e s m below meth c C hr hlk hnm
  refine x_iload_n C 1 dX9_told_0 rfl rfl ?_
  refine x_tableIn C 203 dX9_told_1 (by decide) (by decide) rfl (by decide) ?_
  refine x_aload_n C 0 dX9_told_203 rfl rfl ?_
  refine x_iload_n C 1 dX9_told_204 rfl rfl ?_
  refine x_callV C cl_X9_toldOfEvening kmX9_145 (ci := 8) (b := 0) (As := [.int (5 : Int32)]) (rest := []) rfl h0 (p_X9_toldOfEvening_1 u h0 h3) rfl rfl (Nat.le_of_ble_eq_true rfl) ⟨Nat.le_of_ble_eq_true rfl, Nat.le_of_ble_eq_true rfl⟩ ⟨Nat.le_of_ble_eq_true rfl, Nat.le_of_ble_eq_true rfl⟩ dX9_told_205 ?_
  refine x_norm (st2 := [.int (0 : Int32)]) (kc2 := 0) (ks2 := 0) rfl rfl rfl rfl rfl ?_
  exact x_iret C hr hlk (Nat.le_of_ble_eq_true rfl) (Nat.le_of_ble_eq_true rfl) dX9_told_208 rfl rfl rfl
set_option maxRecDepth 20000 in
theorem p_X10_told_6 {G : GT} {l : Launch} {z n : Nat} (u : HpT) (h134 : u 134 = some (.inr (9, [.int (0 : Int32), .ref (z + 135), .int (0 : Int32), .int (0 : Int32), .int (0 : Int32), .int (-1 : Int32), .int (0 : Int32), .int (0 : Int32), .int (0 : Int32), .int (0 : Int32), .ref (z + 136), .ref (z + 137), .ref (z + 138), .ref (z + 139), .ref (z + 140), .int (0 : Int32), .int (0 : Int32), .int (0 : Int32), .int (0 : Int32), .ref (z + 141), .ref (z + 142), .ref (z + 143), .ref (z + 144), .ref (z + 145), .ref (z + 146), .int (0 : Int32), .int (0 : Int32), .ref (z + 147), .long (0 : Int64), .ref (z + 148), .int (0 : Int32), .int (0 : Int32), .int (0 : Int32), .ref (z + 149), .int (0 : Int32), .ref (z + 150), .ref (z + 151), .int (0 : Int32), .ref (z + 152), .ref (z + 153), .ref (z + 154), .ref (z + 155), .ref (z + 156)]))) (h146 : u 146 = some (aI G 25 (upd (upd (fun _ => 0) 4 (-1 : Int32)) 6 (-1 : Int32)))) : Mt G l z yX10_told cX10_told 2 (some .int) { frames := 0, cells := 0, slots := 0, locals := 0 } [.ref (z + 134), .int (5 : Int32)] u n (some (.int (0 : Int32))) u n := by
  refine mt_of (by decide +kernel) (Nat.le_of_ble_eq_true rfl) ?_
  intro p e s m below meth c C hr hlk hnm
  refine x_iload_n C 1 dX10_told_0 rfl rfl ?_
  refine x_tableIn C 125 dX10_told_1 (by decide) (by decide) rfl (by decide) ?_
  refine x_aload_n C 0 dX10_told_125 rfl rfl ?_
  refine gfX10_47 C dX10_told_126 h134 rfl ?_
  refine x_iconst (v := (0 : Int32)) C dX10_told_129 (by decide) ?_
  refine x_ialdk C 0 h146 (vp_in_lit (by decide) (by decide)) (by decide) dX10_told_130 ?_
  refine x_eqi (w := (0 : Int32)) (by decide) ?_
  exact x_iret C hr hlk (Nat.le_of_ble_eq_true rfl) (Nat.le_of_ble_eq_true rfl) dX10_told_131 rfl rfl rfl
set_option maxRecDepth 20000 in
theorem p_X9_toldOfEvening_2 {G : GT} {l : Launch} {z n : Nat} (u : HpT) (h0 : u 0 = some (.inr (8, [.ref (z + 1), .ref (z + 3), .ref (z + 6), .ref (z + 98), .ref (z + 99), .ref (z + 101), .ref (z + 106), .ref (z + 109), .ref (z + 112), .ref (z + 119), .int (0 : Int32), .int (-1 : Int32)]))) (h3 : u 3 = some (.inr (2, [.int (0 : Int32), .int (0 : Int32), .int (0 : Int32), .int (0 : Int32), .int (-1 : Int32), .int (0 : Int32), .int (-1 : Int32), .int (0 : Int32), .int (0 : Int32), .int (0 : Int32), .ref (z + 4), .ref (z + 5)]))) : Mt G l z yX9_toldOfEvening cX9_toldOfEvening 2 (some .int) { frames := 0, cells := 0, slots := 0, locals := 0 } [.ref (z + 0), .int (6 : Int32)] u n (some (.int (0 : Int32))) u n := by
  refine mt_of (by decide +kernel) (Nat.le_of_ble_eq_true rfl) ?_
  intro p e s m below meth c C hr hlk hnm
  refine x_iload_n C 1 dX9_toldOfEvening_0 rfl rfl ?_
  refine x_tableIn C 64 dX9_toldOfEvening_1 (by decide) (by decide) rfl (by decide) ?_
  refine x_aload_n C 0 dX9_toldOfEvening_64 rfl rfl ?_
  refine gfX9_19 C dX9_toldOfEvening_65 h0 rfl ?_
  refine gfX9_152 C dX9_toldOfEvening_68 h3 rfl ?_
  exact x_iret C hr hlk (Nat.le_of_ble_eq_true rfl) (Nat.le_of_ble_eq_true rfl) dX9_toldOfEvening_71 rfl rfl rfl
set_option maxRecDepth 20000 in
theorem p_X9_told_7 {G : GT} {l : Launch} {z n : Nat} (u : HpT) (h0 : u 0 = some (.inr (8, [.ref (z + 1), .ref (z + 3), .ref (z + 6), .ref (z + 98), .ref (z + 99), .ref (z + 101), .ref (z + 106), .ref (z + 109), .ref (z + 112), .ref (z + 119), .int (0 : Int32), .int (-1 : Int32)]))) (h3 : u 3 = some (.inr (2, [.int (0 : Int32), .int (0 : Int32), .int (0 : Int32), .int (0 : Int32), .int (-1 : Int32), .int (0 : Int32), .int (-1 : Int32), .int (0 : Int32), .int (0 : Int32), .int (0 : Int32), .ref (z + 4), .ref (z + 5)]))) : Mt G l z yX9_told cX9_told 2 (some .int) { frames := 1, cells := 0, slots := 0, locals := 21 } [.ref (z + 0), .int (6 : Int32)] u n (some (.int (0 : Int32))) u n := by
  refine mt_of (by decide +kernel) (Nat.le_of_ble_eq_true rfl) ?_
  intro p e s m below meth c C hr hlk hnm
  refine x_iload_n C 1 dX9_told_0 rfl rfl ?_
  refine x_tableIn C 203 dX9_told_1 (by decide) (by decide) rfl (by decide) ?_
  refine x_aload_n C 0 dX9_told_203 rfl rfl ?_
  refine x_iload_n C 1 dX9_told_204 rfl rfl ?_
  refine x_callV C cl_X9_toldOfEvening kmX9_145 (ci := 8) (b := 0) (As := [.int (6 : Int32)]) (rest := []) rfl h0 (p_X9_toldOfEvening_2 u h0 h3) rfl rfl (Nat.le_of_ble_eq_true rfl) ⟨Nat.le_of_ble_eq_true rfl, Nat.le_of_ble_eq_true rfl⟩ ⟨Nat.le_of_ble_eq_true rfl, Nat.le_of_ble_eq_true rfl⟩ dX9_told_205 ?_
  refine x_norm (st2 := [.int (0 : Int32)]) (kc2 := 0) (ks2 := 0) rfl rfl rfl rfl rfl ?_
  exact x_iret C hr hlk (Nat.le_of_ble_eq_true rfl) (Nat.le_of_ble_eq_true rfl) dX9_told_208 rfl rfl rfl
set_option maxRecDepth 20000 in
theorem p_X10_told_7 {G : GT} {l : Launch} {z n : Nat} (u : HpT) (h134 : u 134 = some (.inr (9, [.int (0 : Int32), .ref (z + 135), .int (0 : Int32), .int (0 : Int32), .int (0 : Int32), .int (-1 : Int32), .int (0 : Int32), .int (0 : Int32), .int (0 : Int32), .int (0 : Int32), .ref (z + 136), .ref (z + 137), .ref (z + 138), .ref (z + 139), .ref (z + 140), .int (0 : Int32), .int (0 : Int32), .int (0 : Int32), .int (0 : Int32), .ref (z + 141), .ref (z + 142), .ref (z + 143), .ref (z + 144), .ref (z + 145), .ref (z + 146), .int (0 : Int32), .int (0 : Int32), .ref (z + 147), .long (0 : Int64), .ref (z + 148), .int (0 : Int32), .int (0 : Int32), .int (0 : Int32), .ref (z + 149), .int (0 : Int32), .ref (z + 150), .ref (z + 151), .int (0 : Int32), .ref (z + 152), .ref (z + 153), .ref (z + 154), .ref (z + 155), .ref (z + 156)]))) (h146 : u 146 = some (aI G 25 (upd (upd (fun _ => 0) 4 (-1 : Int32)) 6 (-1 : Int32)))) : Mt G l z yX10_told cX10_told 2 (some .int) { frames := 0, cells := 0, slots := 0, locals := 0 } [.ref (z + 134), .int (6 : Int32)] u n (some (.int (0 : Int32))) u n := by
  refine mt_of (by decide +kernel) (Nat.le_of_ble_eq_true rfl) ?_
  intro p e s m below meth c C hr hlk hnm
  refine x_iload_n C 1 dX10_told_0 rfl rfl ?_
  refine x_tableIn C 132 dX10_told_1 (by decide) (by decide) rfl (by decide) ?_
  refine x_aload_n C 0 dX10_told_132 rfl rfl ?_
  refine gfX10_47 C dX10_told_133 h134 rfl ?_
  refine x_iconst (v := (1 : Int32)) C dX10_told_136 (by decide) ?_
  refine x_ialdk C 1 h146 (vp_in_lit (by decide) (by decide)) (by decide) dX10_told_137 ?_
  refine x_eqi (w := (0 : Int32)) (by decide) ?_
  exact x_iret C hr hlk (Nat.le_of_ble_eq_true rfl) (Nat.le_of_ble_eq_true rfl) dX10_told_138 rfl rfl rfl
set_option maxRecDepth 20000 in
theorem p_X9_toldOfEvening_3 {G : GT} {l : Launch} {z n : Nat} (u : HpT) (h0 : u 0 = some (.inr (8, [.ref (z + 1), .ref (z + 3), .ref (z + 6), .ref (z + 98), .ref (z + 99), .ref (z + 101), .ref (z + 106), .ref (z + 109), .ref (z + 112), .ref (z + 119), .int (0 : Int32), .int (-1 : Int32)]))) (h3 : u 3 = some (.inr (2, [.int (0 : Int32), .int (0 : Int32), .int (0 : Int32), .int (0 : Int32), .int (-1 : Int32), .int (0 : Int32), .int (-1 : Int32), .int (0 : Int32), .int (0 : Int32), .int (0 : Int32), .ref (z + 4), .ref (z + 5)]))) : Mt G l z yX9_toldOfEvening cX9_toldOfEvening 2 (some .int) { frames := 0, cells := 0, slots := 0, locals := 0 } [.ref (z + 0), .int (7 : Int32)] u n (some (.int (0 : Int32))) u n := by
  refine mt_of (by decide +kernel) (Nat.le_of_ble_eq_true rfl) ?_
  intro p e s m below meth c C hr hlk hnm
  refine x_iload_n C 1 dX9_toldOfEvening_0 rfl rfl ?_
  refine x_tableIn C 72 dX9_toldOfEvening_1 (by decide) (by decide) rfl (by decide) ?_
  refine x_aload_n C 0 dX9_toldOfEvening_72 rfl rfl ?_
  refine gfX9_19 C dX9_toldOfEvening_73 h0 rfl ?_
  refine gfX9_155 C dX9_toldOfEvening_76 h3 rfl ?_
  exact x_iret C hr hlk (Nat.le_of_ble_eq_true rfl) (Nat.le_of_ble_eq_true rfl) dX9_toldOfEvening_79 rfl rfl rfl
set_option maxRecDepth 20000 in
theorem p_X9_told_8 {G : GT} {l : Launch} {z n : Nat} (u : HpT) (h0 : u 0 = some (.inr (8, [.ref (z + 1), .ref (z + 3), .ref (z + 6), .ref (z + 98), .ref (z + 99), .ref (z + 101), .ref (z + 106), .ref (z + 109), .ref (z + 112), .ref (z + 119), .int (0 : Int32), .int (-1 : Int32)]))) (h3 : u 3 = some (.inr (2, [.int (0 : Int32), .int (0 : Int32), .int (0 : Int32), .int (0 : Int32), .int (-1 : Int32), .int (0 : Int32), .int (-1 : Int32), .int (0 : Int32), .int (0 : Int32), .int (0 : Int32), .ref (z + 4), .ref (z + 5)]))) : Mt G l z yX9_told cX9_told 2 (some .int) { frames := 1, cells := 0, slots := 0, locals := 21 } [.ref (z + 0), .int (7 : Int32)] u n (some (.int (0 : Int32))) u n := by
  refine mt_of (by decide +kernel) (Nat.le_of_ble_eq_true rfl) ?_
  intro p e s m below meth c C hr hlk hnm
  refine x_iload_n C 1 dX9_told_0 rfl rfl ?_
  refine x_tableIn C 203 dX9_told_1 (by decide) (by decide) rfl (by decide) ?_
  refine x_aload_n C 0 dX9_told_203 rfl rfl ?_
  refine x_iload_n C 1 dX9_told_204 rfl rfl ?_
  refine x_callV C cl_X9_toldOfEvening kmX9_145 (ci := 8) (b := 0) (As := [.int (7 : Int32)]) (rest := []) rfl h0 (p_X9_toldOfEvening_3 u h0 h3) rfl rfl (Nat.le_of_ble_eq_true rfl) ⟨Nat.le_of_ble_eq_true rfl, Nat.le_of_ble_eq_true rfl⟩ ⟨Nat.le_of_ble_eq_true rfl, Nat.le_of_ble_eq_true rfl⟩ dX9_told_205 ?_
  refine x_norm (st2 := [.int (0 : Int32)]) (kc2 := 0) (ks2 := 0) rfl rfl rfl rfl rfl ?_
  exact x_iret C hr hlk (Nat.le_of_ble_eq_true rfl) (Nat.le_of_ble_eq_true rfl) dX9_told_208 rfl rfl rfl
set_option maxRecDepth 20000 in
theorem p_X10_told_8 {G : GT} {l : Launch} {z n : Nat} (u : HpT) (h134 : u 134 = some (.inr (9, [.int (0 : Int32), .ref (z + 135), .int (0 : Int32), .int (0 : Int32), .int (0 : Int32), .int (-1 : Int32), .int (0 : Int32), .int (0 : Int32), .int (0 : Int32), .int (0 : Int32), .ref (z + 136), .ref (z + 137), .ref (z + 138), .ref (z + 139), .ref (z + 140), .int (0 : Int32), .int (0 : Int32), .int (0 : Int32), .int (0 : Int32), .ref (z + 141), .ref (z + 142), .ref (z + 143), .ref (z + 144), .ref (z + 145), .ref (z + 146), .int (0 : Int32), .int (0 : Int32), .ref (z + 147), .long (0 : Int64), .ref (z + 148), .int (0 : Int32), .int (0 : Int32), .int (0 : Int32), .ref (z + 149), .int (0 : Int32), .ref (z + 150), .ref (z + 151), .int (0 : Int32), .ref (z + 152), .ref (z + 153), .ref (z + 154), .ref (z + 155), .ref (z + 156)]))) (h146 : u 146 = some (aI G 25 (upd (upd (fun _ => 0) 4 (-1 : Int32)) 6 (-1 : Int32)))) : Mt G l z yX10_told cX10_told 2 (some .int) { frames := 0, cells := 0, slots := 0, locals := 0 } [.ref (z + 134), .int (7 : Int32)] u n (some (.int (0 : Int32))) u n := by
  refine mt_of (by decide +kernel) (Nat.le_of_ble_eq_true rfl) ?_
  intro p e s m below meth c C hr hlk hnm
  refine x_iload_n C 1 dX10_told_0 rfl rfl ?_
  refine x_tableIn C 139 dX10_told_1 (by decide) (by decide) rfl (by decide) ?_
  refine x_aload_n C 0 dX10_told_139 rfl rfl ?_
  refine gfX10_47 C dX10_told_140 h134 rfl ?_
  refine x_iconst (v := (2 : Int32)) C dX10_told_143 (by decide) ?_
  refine x_ialdk C 2 h146 (vp_in_lit (by decide) (by decide)) (by decide) dX10_told_144 ?_
  refine x_eqi (w := (0 : Int32)) (by decide) ?_
  exact x_iret C hr hlk (Nat.le_of_ble_eq_true rfl) (Nat.le_of_ble_eq_true rfl) dX10_told_145 rfl rfl rfl
set_option maxRecDepth 20000 in
theorem p_X9_toldOfEvening_4 {G : GT} {l : Launch} {z n : Nat} (u : HpT) (h0 : u 0 = some (.inr (8, [.ref (z + 1), .ref (z + 3), .ref (z + 6), .ref (z + 98), .ref (z + 99), .ref (z + 101), .ref (z + 106), .ref (z + 109), .ref (z + 112), .ref (z + 119), .int (0 : Int32), .int (-1 : Int32)]))) (h3 : u 3 = some (.inr (2, [.int (0 : Int32), .int (0 : Int32), .int (0 : Int32), .int (0 : Int32), .int (-1 : Int32), .int (0 : Int32), .int (-1 : Int32), .int (0 : Int32), .int (0 : Int32), .int (0 : Int32), .ref (z + 4), .ref (z + 5)]))) : Mt G l z yX9_toldOfEvening cX9_toldOfEvening 2 (some .int) { frames := 0, cells := 0, slots := 0, locals := 0 } [.ref (z + 0), .int (8 : Int32)] u n (some (.int (0 : Int32))) u n := by
  refine mt_of (by decide +kernel) (Nat.le_of_ble_eq_true rfl) ?_
  intro p e s m below meth c C hr hlk hnm
  refine x_iload_n C 1 dX9_toldOfEvening_0 rfl rfl ?_
  refine x_tableIn C 80 dX9_toldOfEvening_1 (by decide) (by decide) rfl (by decide) ?_
  refine x_aload_n C 0 dX9_toldOfEvening_80 rfl rfl ?_
  refine gfX9_19 C dX9_toldOfEvening_81 h0 rfl ?_
  refine gfX9_134 C dX9_toldOfEvening_84 h3 rfl ?_
  exact x_iret C hr hlk (Nat.le_of_ble_eq_true rfl) (Nat.le_of_ble_eq_true rfl) dX9_toldOfEvening_87 rfl rfl rfl
set_option maxRecDepth 20000 in
theorem p_X9_told_9 {G : GT} {l : Launch} {z n : Nat} (u : HpT) (h0 : u 0 = some (.inr (8, [.ref (z + 1), .ref (z + 3), .ref (z + 6), .ref (z + 98), .ref (z + 99), .ref (z + 101), .ref (z + 106), .ref (z + 109), .ref (z + 112), .ref (z + 119), .int (0 : Int32), .int (-1 : Int32)]))) (h3 : u 3 = some (.inr (2, [.int (0 : Int32), .int (0 : Int32), .int (0 : Int32), .int (0 : Int32), .int (-1 : Int32), .int (0 : Int32), .int (-1 : Int32), .int (0 : Int32), .int (0 : Int32), .int (0 : Int32), .ref (z + 4), .ref (z + 5)]))) : Mt G l z yX9_told cX9_told 2 (some .int) { frames := 1, cells := 0, slots := 0, locals := 21 } [.ref (z + 0), .int (8 : Int32)] u n (some (.int (0 : Int32))) u n := by
  refine mt_of (by decide +kernel) (Nat.le_of_ble_eq_true rfl) ?_
  intro p e s m below meth c C hr hlk hnm
  refine x_iload_n C 1 dX9_told_0 rfl rfl ?_
  refine x_tableIn C 203 dX9_told_1 (by decide) (by decide) rfl (by decide) ?_
  refine x_aload_n C 0 dX9_told_203 rfl rfl ?_
  refine x_iload_n C 1 dX9_told_204 rfl rfl ?_
  refine x_callV C cl_X9_toldOfEvening kmX9_145 (ci := 8) (b := 0) (As := [.int (8 : Int32)]) (rest := []) rfl h0 (p_X9_toldOfEvening_4 u h0 h3) rfl rfl (Nat.le_of_ble_eq_true rfl) ⟨Nat.le_of_ble_eq_true rfl, Nat.le_of_ble_eq_true rfl⟩ ⟨Nat.le_of_ble_eq_true rfl, Nat.le_of_ble_eq_true rfl⟩ dX9_told_205 ?_
  refine x_norm (st2 := [.int (0 : Int32)]) (kc2 := 0) (ks2 := 0) rfl rfl rfl rfl rfl ?_
  exact x_iret C hr hlk (Nat.le_of_ble_eq_true rfl) (Nat.le_of_ble_eq_true rfl) dX9_told_208 rfl rfl rfl
set_option maxRecDepth 20000 in
theorem p_X10_told_9 {G : GT} {l : Launch} {z n : Nat} (u : HpT) (h134 : u 134 = some (.inr (9, [.int (0 : Int32), .ref (z + 135), .int (0 : Int32), .int (0 : Int32), .int (0 : Int32), .int (-1 : Int32), .int (0 : Int32), .int (0 : Int32), .int (0 : Int32), .int (0 : Int32), .ref (z + 136), .ref (z + 137), .ref (z + 138), .ref (z + 139), .ref (z + 140), .int (0 : Int32), .int (0 : Int32), .int (0 : Int32), .int (0 : Int32), .ref (z + 141), .ref (z + 142), .ref (z + 143), .ref (z + 144), .ref (z + 145), .ref (z + 146), .int (0 : Int32), .int (0 : Int32), .ref (z + 147), .long (0 : Int64), .ref (z + 148), .int (0 : Int32), .int (0 : Int32), .int (0 : Int32), .ref (z + 149), .int (0 : Int32), .ref (z + 150), .ref (z + 151), .int (0 : Int32), .ref (z + 152), .ref (z + 153), .ref (z + 154), .ref (z + 155), .ref (z + 156)]))) (h146 : u 146 = some (aI G 25 (upd (upd (fun _ => 0) 4 (-1 : Int32)) 6 (-1 : Int32)))) : Mt G l z yX10_told cX10_told 2 (some .int) { frames := 0, cells := 0, slots := 0, locals := 0 } [.ref (z + 134), .int (8 : Int32)] u n (some (.int (0 : Int32))) u n := by
  refine mt_of (by decide +kernel) (Nat.le_of_ble_eq_true rfl) ?_
  intro p e s m below meth c C hr hlk hnm
  refine x_iload_n C 1 dX10_told_0 rfl rfl ?_
  refine x_tableIn C 146 dX10_told_1 (by decide) (by decide) rfl (by decide) ?_
  refine x_aload_n C 0 dX10_told_146 rfl rfl ?_
  refine gfX10_47 C dX10_told_147 h134 rfl ?_
  refine x_iconst (v := (3 : Int32)) C dX10_told_150 (by decide) ?_
  refine x_ialdk C 3 h146 (vp_in_lit (by decide) (by decide)) (by decide) dX10_told_151 ?_
  refine x_eqi (w := (0 : Int32)) (by decide) ?_
  exact x_iret C hr hlk (Nat.le_of_ble_eq_true rfl) (Nat.le_of_ble_eq_true rfl) dX10_told_152 rfl rfl rfl
set_option maxRecDepth 20000 in
theorem p_X9_toldOfEvening_5 {G : GT} {l : Launch} {z n : Nat} (u : HpT) (h0 : u 0 = some (.inr (8, [.ref (z + 1), .ref (z + 3), .ref (z + 6), .ref (z + 98), .ref (z + 99), .ref (z + 101), .ref (z + 106), .ref (z + 109), .ref (z + 112), .ref (z + 119), .int (0 : Int32), .int (-1 : Int32)]))) (h3 : u 3 = some (.inr (2, [.int (0 : Int32), .int (0 : Int32), .int (0 : Int32), .int (0 : Int32), .int (-1 : Int32), .int (0 : Int32), .int (-1 : Int32), .int (0 : Int32), .int (0 : Int32), .int (0 : Int32), .ref (z + 4), .ref (z + 5)]))) : Mt G l z yX9_toldOfEvening cX9_toldOfEvening 2 (some .int) { frames := 0, cells := 0, slots := 0, locals := 0 } [.ref (z + 0), .int (9 : Int32)] u n (some (.int (-1 : Int32))) u n := by
  refine mt_of (by decide +kernel) (Nat.le_of_ble_eq_true rfl) ?_
  intro p e s m below meth c C hr hlk hnm
  refine x_iload_n C 1 dX9_toldOfEvening_0 rfl rfl ?_
  refine x_tableIn C 88 dX9_toldOfEvening_1 (by decide) (by decide) rfl (by decide) ?_
  refine x_aload_n C 0 dX9_toldOfEvening_88 rfl rfl ?_
  refine gfX9_19 C dX9_toldOfEvening_89 h0 rfl ?_
  refine gfX9_158 C dX9_toldOfEvening_92 h3 rfl ?_
  exact x_iret C hr hlk (Nat.le_of_ble_eq_true rfl) (Nat.le_of_ble_eq_true rfl) dX9_toldOfEvening_95 rfl rfl rfl
set_option maxRecDepth 20000 in
theorem p_X9_told_10 {G : GT} {l : Launch} {z n : Nat} (u : HpT) (h0 : u 0 = some (.inr (8, [.ref (z + 1), .ref (z + 3), .ref (z + 6), .ref (z + 98), .ref (z + 99), .ref (z + 101), .ref (z + 106), .ref (z + 109), .ref (z + 112), .ref (z + 119), .int (0 : Int32), .int (-1 : Int32)]))) (h3 : u 3 = some (.inr (2, [.int (0 : Int32), .int (0 : Int32), .int (0 : Int32), .int (0 : Int32), .int (-1 : Int32), .int (0 : Int32), .int (-1 : Int32), .int (0 : Int32), .int (0 : Int32), .int (0 : Int32), .ref (z + 4), .ref (z + 5)]))) : Mt G l z yX9_told cX9_told 2 (some .int) { frames := 1, cells := 0, slots := 0, locals := 21 } [.ref (z + 0), .int (9 : Int32)] u n (some (.int (-1 : Int32))) u n := by
  refine mt_of (by decide +kernel) (Nat.le_of_ble_eq_true rfl) ?_
  intro p e s m below meth c C hr hlk hnm
  refine x_iload_n C 1 dX9_told_0 rfl rfl ?_
  refine x_tableIn C 203 dX9_told_1 (by decide) (by decide) rfl (by decide) ?_
  refine x_aload_n C 0 dX9_told_203 rfl rfl ?_
  refine x_iload_n C 1 dX9_told_204 rfl rfl ?_
  refine x_callV C cl_X9_toldOfEvening kmX9_145 (ci := 8) (b := 0) (As := [.int (9 : Int32)]) (rest := []) rfl h0 (p_X9_toldOfEvening_5 u h0 h3) rfl rfl (Nat.le_of_ble_eq_true rfl) ⟨Nat.le_of_ble_eq_true rfl, Nat.le_of_ble_eq_true rfl⟩ ⟨Nat.le_of_ble_eq_true rfl, Nat.le_of_ble_eq_true rfl⟩ dX9_told_205 ?_
  refine x_norm (st2 := [.int (-1 : Int32)]) (kc2 := 0) (ks2 := 0) rfl rfl rfl rfl rfl ?_
  exact x_iret C hr hlk (Nat.le_of_ble_eq_true rfl) (Nat.le_of_ble_eq_true rfl) dX9_told_208 rfl rfl rfl
set_option maxRecDepth 20000 in
theorem p_X10_told_10 {G : GT} {l : Launch} {z n : Nat} (u : HpT) (h134 : u 134 = some (.inr (9, [.int (0 : Int32), .ref (z + 135), .int (0 : Int32), .int (0 : Int32), .int (0 : Int32), .int (-1 : Int32), .int (0 : Int32), .int (0 : Int32), .int (0 : Int32), .int (0 : Int32), .ref (z + 136), .ref (z + 137), .ref (z + 138), .ref (z + 139), .ref (z + 140), .int (0 : Int32), .int (0 : Int32), .int (0 : Int32), .int (0 : Int32), .ref (z + 141), .ref (z + 142), .ref (z + 143), .ref (z + 144), .ref (z + 145), .ref (z + 146), .int (0 : Int32), .int (0 : Int32), .ref (z + 147), .long (0 : Int64), .ref (z + 148), .int (0 : Int32), .int (0 : Int32), .int (0 : Int32), .ref (z + 149), .int (0 : Int32), .ref (z + 150), .ref (z + 151), .int (0 : Int32), .ref (z + 152), .ref (z + 153), .ref (z + 154), .ref (z + 155), .ref (z + 156)]))) (h146 : u 146 = some (aI G 25 (upd (upd (fun _ => 0) 4 (-1 : Int32)) 6 (-1 : Int32)))) : Mt G l z yX10_told cX10_told 2 (some .int) { frames := 0, cells := 0, slots := 0, locals := 0 } [.ref (z + 134), .int (9 : Int32)] u n (some (.int (-1 : Int32))) u n := by
  refine mt_of (by decide +kernel) (Nat.le_of_ble_eq_true rfl) ?_
  intro p e s m below meth c C hr hlk hnm
  refine x_iload_n C 1 dX10_told_0 rfl rfl ?_
  refine x_tableIn C 153 dX10_told_1 (by decide) (by decide) rfl (by decide) ?_
  refine x_aload_n C 0 dX10_told_153 rfl rfl ?_
  refine gfX10_47 C dX10_told_154 h134 rfl ?_
  refine x_iconst (v := (4 : Int32)) C dX10_told_157 (by decide) ?_
  refine x_ialdk C 4 h146 (vp_in_lit (by decide) (by decide)) (by decide) dX10_told_158 ?_
  refine x_eqi (w := (-1 : Int32)) (by decide) ?_
  exact x_iret C hr hlk (Nat.le_of_ble_eq_true rfl) (Nat.le_of_ble_eq_true rfl) dX10_told_159 rfl rfl rfl
set_option maxRecDepth 20000 in
theorem p_X9_toldOfEvening_6 {G : GT} {l : Launch} {z n : Nat} (u : HpT) (h0 : u 0 = some (.inr (8, [.ref (z + 1), .ref (z + 3), .ref (z + 6), .ref (z + 98), .ref (z + 99), .ref (z + 101), .ref (z + 106), .ref (z + 109), .ref (z + 112), .ref (z + 119), .int (0 : Int32), .int (-1 : Int32)]))) (h3 : u 3 = some (.inr (2, [.int (0 : Int32), .int (0 : Int32), .int (0 : Int32), .int (0 : Int32), .int (-1 : Int32), .int (0 : Int32), .int (-1 : Int32), .int (0 : Int32), .int (0 : Int32), .int (0 : Int32), .ref (z + 4), .ref (z + 5)]))) : Mt G l z yX9_toldOfEvening cX9_toldOfEvening 2 (some .int) { frames := 0, cells := 0, slots := 0, locals := 0 } [.ref (z + 0), .int (10 : Int32)] u n (some (.int (0 : Int32))) u n := by
  refine mt_of (by decide +kernel) (Nat.le_of_ble_eq_true rfl) ?_
  intro p e s m below meth c C hr hlk hnm
  refine x_iload_n C 1 dX9_toldOfEvening_0 rfl rfl ?_
  refine x_tableIn C 96 dX9_toldOfEvening_1 (by decide) (by decide) rfl (by decide) ?_
  refine x_aload_n C 0 dX9_toldOfEvening_96 rfl rfl ?_
  refine gfX9_19 C dX9_toldOfEvening_97 h0 rfl ?_
  refine gfX9_161 C dX9_toldOfEvening_100 h3 rfl ?_
  exact x_iret C hr hlk (Nat.le_of_ble_eq_true rfl) (Nat.le_of_ble_eq_true rfl) dX9_toldOfEvening_103 rfl rfl rfl
set_option maxRecDepth 20000 in
theorem p_X9_told_11 {G : GT} {l : Launch} {z n : Nat} (u : HpT) (h0 : u 0 = some (.inr (8, [.ref (z + 1), .ref (z + 3), .ref (z + 6), .ref (z + 98), .ref (z + 99), .ref (z + 101), .ref (z + 106), .ref (z + 109), .ref (z + 112), .ref (z + 119), .int (0 : Int32), .int (-1 : Int32)]))) (h3 : u 3 = some (.inr (2, [.int (0 : Int32), .int (0 : Int32), .int (0 : Int32), .int (0 : Int32), .int (-1 : Int32), .int (0 : Int32), .int (-1 : Int32), .int (0 : Int32), .int (0 : Int32), .int (0 : Int32), .ref (z + 4), .ref (z + 5)]))) : Mt G l z yX9_told cX9_told 2 (some .int) { frames := 1, cells := 0, slots := 0, locals := 21 } [.ref (z + 0), .int (10 : Int32)] u n (some (.int (0 : Int32))) u n := by
  refine mt_of (by decide +kernel) (Nat.le_of_ble_eq_true rfl) ?_
  intro p e s m below meth c C hr hlk hnm
  refine x_iload_n C 1 dX9_told_0 rfl rfl ?_
  refine x_tableIn C 203 dX9_told_1 (by decide) (by decide) rfl (by decide) ?_
  refine x_aload_n C 0 dX9_told_203 rfl rfl ?_
  refine x_iload_n C 1 dX9_told_204 rfl rfl ?_
  refine x_callV C cl_X9_toldOfEvening kmX9_145 (ci := 8) (b := 0) (As := [.int (10 : Int32)]) (rest := []) rfl h0 (p_X9_toldOfEvening_6 u h0 h3) rfl rfl (Nat.le_of_ble_eq_true rfl) ⟨Nat.le_of_ble_eq_true rfl, Nat.le_of_ble_eq_true rfl⟩ ⟨Nat.le_of_ble_eq_true rfl, Nat.le_of_ble_eq_true rfl⟩ dX9_told_205 ?_
  refine x_norm (st2 := [.int (0 : Int32)]) (kc2 := 0) (ks2 := 0) rfl rfl rfl rfl rfl ?_
  exact x_iret C hr hlk (Nat.le_of_ble_eq_true rfl) (Nat.le_of_ble_eq_true rfl) dX9_told_208 rfl rfl rfl
set_option maxRecDepth 20000 in
theorem p_X10_told_11 {G : GT} {l : Launch} {z n : Nat} (u : HpT) (h134 : u 134 = some (.inr (9, [.int (0 : Int32), .ref (z + 135), .int (0 : Int32), .int (0 : Int32), .int (0 : Int32), .int (-1 : Int32), .int (0 : Int32), .int (0 : Int32), .int (0 : Int32), .int (0 : Int32), .ref (z + 136), .ref (z + 137), .ref (z + 138), .ref (z + 139), .ref (z + 140), .int (0 : Int32), .int (0 : Int32), .int (0 : Int32), .int (0 : Int32), .ref (z + 141), .ref (z + 142), .ref (z + 143), .ref (z + 144), .ref (z + 145), .ref (z + 146), .int (0 : Int32), .int (0 : Int32), .ref (z + 147), .long (0 : Int64), .ref (z + 148), .int (0 : Int32), .int (0 : Int32), .int (0 : Int32), .ref (z + 149), .int (0 : Int32), .ref (z + 150), .ref (z + 151), .int (0 : Int32), .ref (z + 152), .ref (z + 153), .ref (z + 154), .ref (z + 155), .ref (z + 156)]))) (h146 : u 146 = some (aI G 25 (upd (upd (fun _ => 0) 4 (-1 : Int32)) 6 (-1 : Int32)))) : Mt G l z yX10_told cX10_told 2 (some .int) { frames := 0, cells := 0, slots := 0, locals := 0 } [.ref (z + 134), .int (10 : Int32)] u n (some (.int (0 : Int32))) u n := by
  refine mt_of (by decide +kernel) (Nat.le_of_ble_eq_true rfl) ?_
  intro p e s m below meth c C hr hlk hnm
  refine x_iload_n C 1 dX10_told_0 rfl rfl ?_
  refine x_tableIn C 160 dX10_told_1 (by decide) (by decide) rfl (by decide) ?_
  refine x_aload_n C 0 dX10_told_160 rfl rfl ?_
  refine gfX10_47 C dX10_told_161 h134 rfl ?_
  refine x_iconst (v := (5 : Int32)) C dX10_told_164 (by decide) ?_
  refine x_ialdk C 5 h146 (vp_in_lit (by decide) (by decide)) (by decide) dX10_told_165 ?_
  refine x_eqi (w := (0 : Int32)) (by decide) ?_
  exact x_iret C hr hlk (Nat.le_of_ble_eq_true rfl) (Nat.le_of_ble_eq_true rfl) dX10_told_166 rfl rfl rfl
set_option maxRecDepth 20000 in
theorem p_X9_toldOfEvening_7 {G : GT} {l : Launch} {z n : Nat} (u : HpT) (h0 : u 0 = some (.inr (8, [.ref (z + 1), .ref (z + 3), .ref (z + 6), .ref (z + 98), .ref (z + 99), .ref (z + 101), .ref (z + 106), .ref (z + 109), .ref (z + 112), .ref (z + 119), .int (0 : Int32), .int (-1 : Int32)]))) (h3 : u 3 = some (.inr (2, [.int (0 : Int32), .int (0 : Int32), .int (0 : Int32), .int (0 : Int32), .int (-1 : Int32), .int (0 : Int32), .int (-1 : Int32), .int (0 : Int32), .int (0 : Int32), .int (0 : Int32), .ref (z + 4), .ref (z + 5)]))) : Mt G l z yX9_toldOfEvening cX9_toldOfEvening 2 (some .int) { frames := 0, cells := 0, slots := 0, locals := 0 } [.ref (z + 0), .int (11 : Int32)] u n (some (.int (-1 : Int32))) u n := by
  refine mt_of (by decide +kernel) (Nat.le_of_ble_eq_true rfl) ?_
  intro p e s m below meth c C hr hlk hnm
  refine x_iload_n C 1 dX9_toldOfEvening_0 rfl rfl ?_
  refine x_tableIn C 104 dX9_toldOfEvening_1 (by decide) (by decide) rfl (by decide) ?_
  refine x_aload_n C 0 dX9_toldOfEvening_104 rfl rfl ?_
  refine gfX9_19 C dX9_toldOfEvening_105 h0 rfl ?_
  refine gfX9_164 C dX9_toldOfEvening_108 h3 rfl ?_
  exact x_iret C hr hlk (Nat.le_of_ble_eq_true rfl) (Nat.le_of_ble_eq_true rfl) dX9_toldOfEvening_111 rfl rfl rfl
set_option maxRecDepth 20000 in
theorem p_X9_told_12 {G : GT} {l : Launch} {z n : Nat} (u : HpT) (h0 : u 0 = some (.inr (8, [.ref (z + 1), .ref (z + 3), .ref (z + 6), .ref (z + 98), .ref (z + 99), .ref (z + 101), .ref (z + 106), .ref (z + 109), .ref (z + 112), .ref (z + 119), .int (0 : Int32), .int (-1 : Int32)]))) (h3 : u 3 = some (.inr (2, [.int (0 : Int32), .int (0 : Int32), .int (0 : Int32), .int (0 : Int32), .int (-1 : Int32), .int (0 : Int32), .int (-1 : Int32), .int (0 : Int32), .int (0 : Int32), .int (0 : Int32), .ref (z + 4), .ref (z + 5)]))) : Mt G l z yX9_told cX9_told 2 (some .int) { frames := 1, cells := 0, slots := 0, locals := 21 } [.ref (z + 0), .int (11 : Int32)] u n (some (.int (-1 : Int32))) u n := by
  refine mt_of (by decide +kernel) (Nat.le_of_ble_eq_true rfl) ?_
  intro p e s m below meth c C hr hlk hnm
  refine x_iload_n C 1 dX9_told_0 rfl rfl ?_
  refine x_tableIn C 203 dX9_told_1 (by decide) (by decide) rfl (by decide) ?_
  refine x_aload_n C 0 dX9_told_203 rfl rfl ?_
  refine x_iload_n C 1 dX9_told_204 rfl rfl ?_
  refine x_callV C cl_X9_toldOfEvening kmX9_145 (ci := 8) (b := 0) (As := [.int (11 : Int32)]) (rest := []) rfl h0 (p_X9_toldOfEvening_7 u h0 h3) rfl rfl (Nat.le_of_ble_eq_true rfl) ⟨Nat.le_of_ble_eq_true rfl, Nat.le_of_ble_eq_true rfl⟩ ⟨Nat.le_of_ble_eq_true rfl, Nat.le_of_ble_eq_true rfl⟩ dX9_told_205 ?_
  refine x_norm (st2 := [.int (-1 : Int32)]) (kc2 := 0) (ks2 := 0) rfl rfl rfl rfl rfl ?_
  exact x_iret C hr hlk (Nat.le_of_ble_eq_true rfl) (Nat.le_of_ble_eq_true rfl) dX9_told_208 rfl rfl rfl
set_option maxRecDepth 20000 in
theorem p_X10_told_12 {G : GT} {l : Launch} {z n : Nat} (u : HpT) (h134 : u 134 = some (.inr (9, [.int (0 : Int32), .ref (z + 135), .int (0 : Int32), .int (0 : Int32), .int (0 : Int32), .int (-1 : Int32), .int (0 : Int32), .int (0 : Int32), .int (0 : Int32), .int (0 : Int32), .ref (z + 136), .ref (z + 137), .ref (z + 138), .ref (z + 139), .ref (z + 140), .int (0 : Int32), .int (0 : Int32), .int (0 : Int32), .int (0 : Int32), .ref (z + 141), .ref (z + 142), .ref (z + 143), .ref (z + 144), .ref (z + 145), .ref (z + 146), .int (0 : Int32), .int (0 : Int32), .ref (z + 147), .long (0 : Int64), .ref (z + 148), .int (0 : Int32), .int (0 : Int32), .int (0 : Int32), .ref (z + 149), .int (0 : Int32), .ref (z + 150), .ref (z + 151), .int (0 : Int32), .ref (z + 152), .ref (z + 153), .ref (z + 154), .ref (z + 155), .ref (z + 156)]))) (h146 : u 146 = some (aI G 25 (upd (upd (fun _ => 0) 4 (-1 : Int32)) 6 (-1 : Int32)))) : Mt G l z yX10_told cX10_told 2 (some .int) { frames := 0, cells := 0, slots := 0, locals := 0 } [.ref (z + 134), .int (11 : Int32)] u n (some (.int (-1 : Int32))) u n := by
  refine mt_of (by decide +kernel) (Nat.le_of_ble_eq_true rfl) ?_
  intro p e s m below meth c C hr hlk hnm
  refine x_iload_n C 1 dX10_told_0 rfl rfl ?_
  refine x_tableIn C 167 dX10_told_1 (by decide) (by decide) rfl (by decide) ?_
  refine x_aload_n C 0 dX10_told_167 rfl rfl ?_
  refine gfX10_47 C dX10_told_168 h134 rfl ?_
  refine x_bipush (v := (6 : Int32)) C dX10_told_171 (by decide) ?_
  refine x_ialdk C 6 h146 (vp_in_lit (by decide) (by decide)) (by decide) dX10_told_173 ?_
  refine x_eqi (w := (-1 : Int32)) (by decide) ?_
  exact x_iret C hr hlk (Nat.le_of_ble_eq_true rfl) (Nat.le_of_ble_eq_true rfl) dX10_told_174 rfl rfl rfl
set_option maxRecDepth 20000 in
theorem p_X9_toldOfEvening_8 {G : GT} {l : Launch} {z n : Nat} (u : HpT) (h0 : u 0 = some (.inr (8, [.ref (z + 1), .ref (z + 3), .ref (z + 6), .ref (z + 98), .ref (z + 99), .ref (z + 101), .ref (z + 106), .ref (z + 109), .ref (z + 112), .ref (z + 119), .int (0 : Int32), .int (-1 : Int32)]))) (h3 : u 3 = some (.inr (2, [.int (0 : Int32), .int (0 : Int32), .int (0 : Int32), .int (0 : Int32), .int (-1 : Int32), .int (0 : Int32), .int (-1 : Int32), .int (0 : Int32), .int (0 : Int32), .int (0 : Int32), .ref (z + 4), .ref (z + 5)]))) : Mt G l z yX9_toldOfEvening cX9_toldOfEvening 2 (some .int) { frames := 0, cells := 0, slots := 0, locals := 0 } [.ref (z + 0), .int (12 : Int32)] u n (some (.int (0 : Int32))) u n := by
  refine mt_of (by decide +kernel) (Nat.le_of_ble_eq_true rfl) ?_
  intro p e s m below meth c C hr hlk hnm
  refine x_iload_n C 1 dX9_toldOfEvening_0 rfl rfl ?_
  refine x_tableIn C 112 dX9_toldOfEvening_1 (by decide) (by decide) rfl (by decide) ?_
  refine x_aload_n C 0 dX9_toldOfEvening_112 rfl rfl ?_
  refine gfX9_19 C dX9_toldOfEvening_113 h0 rfl ?_
  refine gfX9_167 C dX9_toldOfEvening_116 h3 rfl ?_
  exact x_iret C hr hlk (Nat.le_of_ble_eq_true rfl) (Nat.le_of_ble_eq_true rfl) dX9_toldOfEvening_119 rfl rfl rfl
set_option maxRecDepth 20000 in
theorem p_X9_told_13 {G : GT} {l : Launch} {z n : Nat} (u : HpT) (h0 : u 0 = some (.inr (8, [.ref (z + 1), .ref (z + 3), .ref (z + 6), .ref (z + 98), .ref (z + 99), .ref (z + 101), .ref (z + 106), .ref (z + 109), .ref (z + 112), .ref (z + 119), .int (0 : Int32), .int (-1 : Int32)]))) (h3 : u 3 = some (.inr (2, [.int (0 : Int32), .int (0 : Int32), .int (0 : Int32), .int (0 : Int32), .int (-1 : Int32), .int (0 : Int32), .int (-1 : Int32), .int (0 : Int32), .int (0 : Int32), .int (0 : Int32), .ref (z + 4), .ref (z + 5)]))) : Mt G l z yX9_told cX9_told 2 (some .int) { frames := 1, cells := 0, slots := 0, locals := 21 } [.ref (z + 0), .int (12 : Int32)] u n (some (.int (0 : Int32))) u n := by
  refine mt_of (by decide +kernel) (Nat.le_of_ble_eq_true rfl) ?_
  intro p e s m below meth c C hr hlk hnm
  refine x_iload_n C 1 dX9_told_0 rfl rfl ?_
  refine x_tableIn C 203 dX9_told_1 (by decide) (by decide) rfl (by decide) ?_
  refine x_aload_n C 0 dX9_told_203 rfl rfl ?_
  refine x_iload_n C 1 dX9_told_204 rfl rfl ?_
  refine x_callV C cl_X9_toldOfEvening kmX9_145 (ci := 8) (b := 0) (As := [.int (12 : Int32)]) (rest := []) rfl h0 (p_X9_toldOfEvening_8 u h0 h3) rfl rfl (Nat.le_of_ble_eq_true rfl) ⟨Nat.le_of_ble_eq_true rfl, Nat.le_of_ble_eq_true rfl⟩ ⟨Nat.le_of_ble_eq_true rfl, Nat.le_of_ble_eq_true rfl⟩ dX9_told_205 ?_
  refine x_norm (st2 := [.int (0 : Int32)]) (kc2 := 0) (ks2 := 0) rfl rfl rfl rfl rfl ?_
  exact x_iret C hr hlk (Nat.le_of_ble_eq_true rfl) (Nat.le_of_ble_eq_true rfl) dX9_told_208 rfl rfl rfl
set_option maxRecDepth 20000 in
theorem p_X10_are_0 {G : GT} {l : Launch} {z n : Nat} (u : HpT) (h134 : u 134 = some (.inr (9, [.int (0 : Int32), .ref (z + 135), .int (0 : Int32), .int (0 : Int32), .int (0 : Int32), .int (-1 : Int32), .int (0 : Int32), .int (0 : Int32), .int (0 : Int32), .int (0 : Int32), .ref (z + 136), .ref (z + 137), .ref (z + 138), .ref (z + 139), .ref (z + 140), .int (0 : Int32), .int (0 : Int32), .int (0 : Int32), .int (0 : Int32), .ref (z + 141), .ref (z + 142), .ref (z + 143), .ref (z + 144), .ref (z + 145), .ref (z + 146), .int (0 : Int32), .int (0 : Int32), .ref (z + 147), .long (0 : Int64), .ref (z + 148), .int (0 : Int32), .int (0 : Int32), .int (0 : Int32), .ref (z + 149), .int (0 : Int32), .ref (z + 150), .ref (z + 151), .int (0 : Int32), .ref (z + 152), .ref (z + 153), .ref (z + 154), .ref (z + 155), .ref (z + 156)]))) : Mt G l z yX10_are cX10_are 4 (some .int) { frames := 0, cells := 0, slots := 0, locals := 0 } [.ref (z + 134), .int (0 : Int32)] u n (some (.int (0 : Int32))) u n := by
  refine mt_of (by decide +kernel) (Nat.le_of_ble_eq_true rfl) ?_
  intro p e s m below meth c C hr hlk hnm
  refine x_iconst (v := (0 : Int32)) C dX10_are_0 (by decide) ?_
  refine x_istore_n C [(2, .int (0 : Int32)), (0, .ref (z + 134)), (1, .int (0 : Int32))] dX10_are_1 rfl (by decide) rfl ?_
  refine x_iconst (v := (0 : Int32)) C dX10_are_2 (by decide) ?_
  refine x_istore_n C [(3, .int (0 : Int32)), (2, .int (0 : Int32)), (0, .ref (z + 134)), (1, .int (0 : Int32))] dX10_are_3 rfl (by decide) rfl ?_
  refine x_iload_n C 0 dX10_are_4 rfl rfl ?_
  refine x_aload_n C 2 dX10_are_5 rfl rfl ?_
  refine gfX10_156 C dX10_are_6 h134 rfl ?_
  refine x_icmp_ge_t C 41 dX10_are_9 (by decide) (by decide) ?_
  refine x_iload_n C 1 dX10_are_41 rfl rfl ?_
  exact x_iret C hr hlk (Nat.le_of_ble_eq_true rfl) (Nat.le_of_ble_eq_true rfl) dX10_are_42 rfl rfl rfl
set_option maxRecDepth 20000 in
theorem p_X10_told_13 {G : GT} {l : Launch} {z n : Nat} (u : HpT) (h134 : u 134 = some (.inr (9, [.int (0 : Int32), .ref (z + 135), .int (0 : Int32), .int (0 : Int32), .int (0 : Int32), .int (-1 : Int32), .int (0 : Int32), .int (0 : Int32), .int (0 : Int32), .int (0 : Int32), .ref (z + 136), .ref (z + 137), .ref (z + 138), .ref (z + 139), .ref (z + 140), .int (0 : Int32), .int (0 : Int32), .int (0 : Int32), .int (0 : Int32), .ref (z + 141), .ref (z + 142), .ref (z + 143), .ref (z + 144), .ref (z + 145), .ref (z + 146), .int (0 : Int32), .int (0 : Int32), .ref (z + 147), .long (0 : Int64), .ref (z + 148), .int (0 : Int32), .int (0 : Int32), .int (0 : Int32), .ref (z + 149), .int (0 : Int32), .ref (z + 150), .ref (z + 151), .int (0 : Int32), .ref (z + 152), .ref (z + 153), .ref (z + 154), .ref (z + 155), .ref (z + 156)]))) : Mt G l z yX10_told cX10_told 2 (some .int) { frames := 1, cells := 0, slots := 0, locals := 23 } [.ref (z + 134), .int (12 : Int32)] u n (some (.int (0 : Int32))) u n := by
  refine mt_of (by decide +kernel) (Nat.le_of_ble_eq_true rfl) ?_
  intro p e s m below meth c C hr hlk hnm
  refine x_iload_n C 1 dX10_told_0 rfl rfl ?_
  refine x_tableIn C 175 dX10_told_1 (by decide) (by decide) rfl (by decide) ?_
  refine x_aload_n C 0 dX10_told_175 rfl rfl ?_
  refine x_iconst (v := (0 : Int32)) C dX10_told_176 (by decide) ?_
  refine x_callV C cl_X10_are kmX10_175 (ci := 9) (b := 134) (As := [.int (0 : Int32)]) (rest := []) rfl h134 (p_X10_are_0 u h134) rfl rfl (Nat.le_of_ble_eq_true rfl) ⟨Nat.le_of_ble_eq_true rfl, Nat.le_of_ble_eq_true rfl⟩ ⟨Nat.le_of_ble_eq_true rfl, Nat.le_of_ble_eq_true rfl⟩ dX10_told_177 ?_
  refine x_norm (st2 := [.int (0 : Int32)]) (kc2 := 0) (ks2 := 0) rfl rfl rfl rfl rfl ?_
  exact x_iret C hr hlk (Nat.le_of_ble_eq_true rfl) (Nat.le_of_ble_eq_true rfl) dX10_told_180 rfl rfl rfl
set_option maxRecDepth 20000 in
theorem p_X9_toldOfEvening_9 {G : GT} {l : Launch} {z n : Nat} (u : HpT) (h0 : u 0 = some (.inr (8, [.ref (z + 1), .ref (z + 3), .ref (z + 6), .ref (z + 98), .ref (z + 99), .ref (z + 101), .ref (z + 106), .ref (z + 109), .ref (z + 112), .ref (z + 119), .int (0 : Int32), .int (-1 : Int32)]))) (h3 : u 3 = some (.inr (2, [.int (0 : Int32), .int (0 : Int32), .int (0 : Int32), .int (0 : Int32), .int (-1 : Int32), .int (0 : Int32), .int (-1 : Int32), .int (0 : Int32), .int (0 : Int32), .int (0 : Int32), .ref (z + 4), .ref (z + 5)]))) : Mt G l z yX9_toldOfEvening cX9_toldOfEvening 2 (some .int) { frames := 0, cells := 0, slots := 0, locals := 0 } [.ref (z + 0), .int (13 : Int32)] u n (some (.int (0 : Int32))) u n := by
  refine mt_of (by decide +kernel) (Nat.le_of_ble_eq_true rfl) ?_
  intro p e s m below meth c C hr hlk hnm
  refine x_iload_n C 1 dX9_toldOfEvening_0 rfl rfl ?_
  refine x_tableIn C 120 dX9_toldOfEvening_1 (by decide) (by decide) rfl (by decide) ?_
  refine x_aload_n C 0 dX9_toldOfEvening_120 rfl rfl ?_
  refine gfX9_19 C dX9_toldOfEvening_121 h0 rfl ?_
  refine gfX9_170 C dX9_toldOfEvening_124 h3 rfl ?_
  exact x_iret C hr hlk (Nat.le_of_ble_eq_true rfl) (Nat.le_of_ble_eq_true rfl) dX9_toldOfEvening_127 rfl rfl rfl
set_option maxRecDepth 20000 in
theorem p_X9_told_14 {G : GT} {l : Launch} {z n : Nat} (u : HpT) (h0 : u 0 = some (.inr (8, [.ref (z + 1), .ref (z + 3), .ref (z + 6), .ref (z + 98), .ref (z + 99), .ref (z + 101), .ref (z + 106), .ref (z + 109), .ref (z + 112), .ref (z + 119), .int (0 : Int32), .int (-1 : Int32)]))) (h3 : u 3 = some (.inr (2, [.int (0 : Int32), .int (0 : Int32), .int (0 : Int32), .int (0 : Int32), .int (-1 : Int32), .int (0 : Int32), .int (-1 : Int32), .int (0 : Int32), .int (0 : Int32), .int (0 : Int32), .ref (z + 4), .ref (z + 5)]))) : Mt G l z yX9_told cX9_told 2 (some .int) { frames := 1, cells := 0, slots := 0, locals := 21 } [.ref (z + 0), .int (13 : Int32)] u n (some (.int (0 : Int32))) u n := by
  refine mt_of (by decide +kernel) (Nat.le_of_ble_eq_true rfl) ?_
  intro p e s m below meth c C hr hlk hnm
  refine x_iload_n C 1 dX9_told_0 rfl rfl ?_
  refine x_tableIn C 203 dX9_told_1 (by decide) (by decide) rfl (by decide) ?_
  refine x_aload_n C 0 dX9_told_203 rfl rfl ?_
  refine x_iload_n C 1 dX9_told_204 rfl rfl ?_
  refine x_callV C cl_X9_toldOfEvening kmX9_145 (ci := 8) (b := 0) (As := [.int (13 : Int32)]) (rest := []) rfl h0 (p_X9_toldOfEvening_9 u h0 h3) rfl rfl (Nat.le_of_ble_eq_true rfl) ⟨Nat.le_of_ble_eq_true rfl, Nat.le_of_ble_eq_true rfl⟩ ⟨Nat.le_of_ble_eq_true rfl, Nat.le_of_ble_eq_true rfl⟩ dX9_told_205 ?_
  refine x_norm (st2 := [.int (0 : Int32)]) (kc2 := 0) (ks2 := 0) rfl rfl rfl rfl rfl ?_
  exact x_iret C hr hlk (Nat.le_of_ble_eq_true rfl) (Nat.le_of_ble_eq_true rfl) dX9_told_208 rfl rfl rfl
set_option maxRecDepth 20000 in
theorem p_X10_are_1 {G : GT} {l : Launch} {z n : Nat} (u : HpT) (h134 : u 134 = some (.inr (9, [.int (0 : Int32), .ref (z + 135), .int (0 : Int32), .int (0 : Int32), .int (0 : Int32), .int (-1 : Int32), .int (0 : Int32), .int (0 : Int32), .int (0 : Int32), .int (0 : Int32), .ref (z + 136), .ref (z + 137), .ref (z + 138), .ref (z + 139), .ref (z + 140), .int (0 : Int32), .int (0 : Int32), .int (0 : Int32), .int (0 : Int32), .ref (z + 141), .ref (z + 142), .ref (z + 143), .ref (z + 144), .ref (z + 145), .ref (z + 146), .int (0 : Int32), .int (0 : Int32), .ref (z + 147), .long (0 : Int64), .ref (z + 148), .int (0 : Int32), .int (0 : Int32), .int (0 : Int32), .ref (z + 149), .int (0 : Int32), .ref (z + 150), .ref (z + 151), .int (0 : Int32), .ref (z + 152), .ref (z + 153), .ref (z + 154), .ref (z + 155), .ref (z + 156)]))) : Mt G l z yX10_are cX10_are 4 (some .int) { frames := 0, cells := 0, slots := 0, locals := 0 } [.ref (z + 134), .int (2 : Int32)] u n (some (.int (0 : Int32))) u n := by
  refine mt_of (by decide +kernel) (Nat.le_of_ble_eq_true rfl) ?_
  intro p e s m below meth c C hr hlk hnm
  refine x_iconst (v := (0 : Int32)) C dX10_are_0 (by decide) ?_
  refine x_istore_n C [(2, .int (0 : Int32)), (0, .ref (z + 134)), (1, .int (2 : Int32))] dX10_are_1 rfl (by decide) rfl ?_
  refine x_iconst (v := (0 : Int32)) C dX10_are_2 (by decide) ?_
  refine x_istore_n C [(3, .int (0 : Int32)), (2, .int (0 : Int32)), (0, .ref (z + 134)), (1, .int (2 : Int32))] dX10_are_3 rfl (by decide) rfl ?_
  refine x_iload_n C 0 dX10_are_4 rfl rfl ?_
  refine x_aload_n C 2 dX10_are_5 rfl rfl ?_
  refine gfX10_156 C dX10_are_6 h134 rfl ?_
  refine x_icmp_ge_t C 41 dX10_are_9 (by decide) (by decide) ?_
  refine x_iload_n C 1 dX10_are_41 rfl rfl ?_
  exact x_iret C hr hlk (Nat.le_of_ble_eq_true rfl) (Nat.le_of_ble_eq_true rfl) dX10_are_42 rfl rfl rfl
set_option maxRecDepth 20000 in
theorem p_X10_told_14 {G : GT} {l : Launch} {z n : Nat} (u : HpT) (h134 : u 134 = some (.inr (9, [.int (0 : Int32), .ref (z + 135), .int (0 : Int32), .int (0 : Int32), .int (0 : Int32), .int (-1 : Int32), .int (0 : Int32), .int (0 : Int32), .int (0 : Int32), .int (0 : Int32), .ref (z + 136), .ref (z + 137), .ref (z + 138), .ref (z + 139), .ref (z + 140), .int (0 : Int32), .int (0 : Int32), .int (0 : Int32), .int (0 : Int32), .ref (z + 141), .ref (z + 142), .ref (z + 143), .ref (z + 144), .ref (z + 145), .ref (z + 146), .int (0 : Int32), .int (0 : Int32), .ref (z + 147), .long (0 : Int64), .ref (z + 148), .int (0 : Int32), .int (0 : Int32), .int (0 : Int32), .ref (z + 149), .int (0 : Int32), .ref (z + 150), .ref (z + 151), .int (0 : Int32), .ref (z + 152), .ref (z + 153), .ref (z + 154), .ref (z + 155), .ref (z + 156)]))) : Mt G l z yX10_told cX10_told 2 (some .int) { frames := 1, cells := 0, slots := 0, locals := 23 } [.ref (z + 134), .int (13 : Int32)] u n (some (.int (0 : Int32))) u n := by
  refine mt_of (by decide +kernel) (Nat.le_of_ble_eq_true rfl) ?_
  intro p e s m below meth c C hr hlk hnm
  refine x_iload_n C 1 dX10_told_0 rfl rfl ?_
  refine x_tableIn C 181 dX10_told_1 (by decide) (by decide) rfl (by decide) ?_
  refine x_aload_n C 0 dX10_told_181 rfl rfl ?_
  refine x_iconst (v := (2 : Int32)) C dX10_told_182 (by decide) ?_
  refine x_callV C cl_X10_are kmX10_175 (ci := 9) (b := 134) (As := [.int (2 : Int32)]) (rest := []) rfl h134 (p_X10_are_1 u h134) rfl rfl (Nat.le_of_ble_eq_true rfl) ⟨Nat.le_of_ble_eq_true rfl, Nat.le_of_ble_eq_true rfl⟩ ⟨Nat.le_of_ble_eq_true rfl, Nat.le_of_ble_eq_true rfl⟩ dX10_told_183 ?_
  refine x_norm (st2 := [.int (0 : Int32)]) (kc2 := 0) (ks2 := 0) rfl rfl rfl rfl rfl ?_
  exact x_iret C hr hlk (Nat.le_of_ble_eq_true rfl) (Nat.le_of_ble_eq_true rfl) dX10_told_186 rfl rfl rfl
set_option maxRecDepth 20000 in
theorem p_X9_toldOfEvening_10 {G : GT} {l : Launch} {z n : Nat} (u : HpT) (h0 : u 0 = some (.inr (8, [.ref (z + 1), .ref (z + 3), .ref (z + 6), .ref (z + 98), .ref (z + 99), .ref (z + 101), .ref (z + 106), .ref (z + 109), .ref (z + 112), .ref (z + 119), .int (0 : Int32), .int (-1 : Int32)]))) (h3 : u 3 = some (.inr (2, [.int (0 : Int32), .int (0 : Int32), .int (0 : Int32), .int (0 : Int32), .int (-1 : Int32), .int (0 : Int32), .int (-1 : Int32), .int (0 : Int32), .int (0 : Int32), .int (0 : Int32), .ref (z + 4), .ref (z + 5)]))) : Mt G l z yX9_toldOfEvening cX9_toldOfEvening 2 (some .int) { frames := 0, cells := 0, slots := 0, locals := 0 } [.ref (z + 0), .int (14 : Int32)] u n (some (.int (0 : Int32))) u n := by
  refine mt_of (by decide +kernel) (Nat.le_of_ble_eq_true rfl) ?_
  intro p e s m below meth c C hr hlk hnm
  refine x_iload_n C 1 dX9_toldOfEvening_0 rfl rfl ?_
  refine x_tableIn C 128 dX9_toldOfEvening_1 (by decide) (by decide) rfl (by decide) ?_
  refine x_aload_n C 0 dX9_toldOfEvening_128 rfl rfl ?_
  refine gfX9_19 C dX9_toldOfEvening_129 h0 rfl ?_
  refine gfX9_173 C dX9_toldOfEvening_132 h3 rfl ?_
  exact x_iret C hr hlk (Nat.le_of_ble_eq_true rfl) (Nat.le_of_ble_eq_true rfl) dX9_toldOfEvening_135 rfl rfl rfl
set_option maxRecDepth 20000 in
theorem p_X9_told_15 {G : GT} {l : Launch} {z n : Nat} (u : HpT) (h0 : u 0 = some (.inr (8, [.ref (z + 1), .ref (z + 3), .ref (z + 6), .ref (z + 98), .ref (z + 99), .ref (z + 101), .ref (z + 106), .ref (z + 109), .ref (z + 112), .ref (z + 119), .int (0 : Int32), .int (-1 : Int32)]))) (h3 : u 3 = some (.inr (2, [.int (0 : Int32), .int (0 : Int32), .int (0 : Int32), .int (0 : Int32), .int (-1 : Int32), .int (0 : Int32), .int (-1 : Int32), .int (0 : Int32), .int (0 : Int32), .int (0 : Int32), .ref (z + 4), .ref (z + 5)]))) : Mt G l z yX9_told cX9_told 2 (some .int) { frames := 1, cells := 0, slots := 0, locals := 21 } [.ref (z + 0), .int (14 : Int32)] u n (some (.int (0 : Int32))) u n := by
  refine mt_of (by decide +kernel) (Nat.le_of_ble_eq_true rfl) ?_
  intro p e s m below meth c C hr hlk hnm
  refine x_iload_n C 1 dX9_told_0 rfl rfl ?_
  refine x_tableIn C 203 dX9_told_1 (by decide) (by decide) rfl (by decide) ?_
  refine x_aload_n C 0 dX9_told_203 rfl rfl ?_
  refine x_iload_n C 1 dX9_told_204 rfl rfl ?_
  refine x_callV C cl_X9_toldOfEvening kmX9_145 (ci := 8) (b := 0) (As := [.int (14 : Int32)]) (rest := []) rfl h0 (p_X9_toldOfEvening_10 u h0 h3) rfl rfl (Nat.le_of_ble_eq_true rfl) ⟨Nat.le_of_ble_eq_true rfl, Nat.le_of_ble_eq_true rfl⟩ ⟨Nat.le_of_ble_eq_true rfl, Nat.le_of_ble_eq_true rfl⟩ dX9_told_205 ?_
  refine x_norm (st2 := [.int (0 : Int32)]) (kc2 := 0) (ks2 := 0) rfl rfl rfl rfl rfl ?_
  exact x_iret C hr hlk (Nat.le_of_ble_eq_true rfl) (Nat.le_of_ble_eq_true rfl) dX9_told_208 rfl rfl rfl
set_option maxRecDepth 20000 in
theorem p_X10_are_2 {G : GT} {l : Launch} {z n : Nat} (u : HpT) (h134 : u 134 = some (.inr (9, [.int (0 : Int32), .ref (z + 135), .int (0 : Int32), .int (0 : Int32), .int (0 : Int32), .int (-1 : Int32), .int (0 : Int32), .int (0 : Int32), .int (0 : Int32), .int (0 : Int32), .ref (z + 136), .ref (z + 137), .ref (z + 138), .ref (z + 139), .ref (z + 140), .int (0 : Int32), .int (0 : Int32), .int (0 : Int32), .int (0 : Int32), .ref (z + 141), .ref (z + 142), .ref (z + 143), .ref (z + 144), .ref (z + 145), .ref (z + 146), .int (0 : Int32), .int (0 : Int32), .ref (z + 147), .long (0 : Int64), .ref (z + 148), .int (0 : Int32), .int (0 : Int32), .int (0 : Int32), .ref (z + 149), .int (0 : Int32), .ref (z + 150), .ref (z + 151), .int (0 : Int32), .ref (z + 152), .ref (z + 153), .ref (z + 154), .ref (z + 155), .ref (z + 156)]))) : Mt G l z yX10_are cX10_are 4 (some .int) { frames := 0, cells := 0, slots := 0, locals := 0 } [.ref (z + 134), .int (3 : Int32)] u n (some (.int (0 : Int32))) u n := by
  refine mt_of (by decide +kernel) (Nat.le_of_ble_eq_true rfl) ?_
  intro p e s m below meth c C hr hlk hnm
  refine x_iconst (v := (0 : Int32)) C dX10_are_0 (by decide) ?_
  refine x_istore_n C [(2, .int (0 : Int32)), (0, .ref (z + 134)), (1, .int (3 : Int32))] dX10_are_1 rfl (by decide) rfl ?_
  refine x_iconst (v := (0 : Int32)) C dX10_are_2 (by decide) ?_
  refine x_istore_n C [(3, .int (0 : Int32)), (2, .int (0 : Int32)), (0, .ref (z + 134)), (1, .int (3 : Int32))] dX10_are_3 rfl (by decide) rfl ?_
  refine x_iload_n C 0 dX10_are_4 rfl rfl ?_
  refine x_aload_n C 2 dX10_are_5 rfl rfl ?_
  refine gfX10_156 C dX10_are_6 h134 rfl ?_
  refine x_icmp_ge_t C 41 dX10_are_9 (by decide) (by decide) ?_
  refine x_iload_n C 1 dX10_are_41 rfl rfl ?_
  exact x_iret C hr hlk (Nat.le_of_ble_eq_true rfl) (Nat.le_of_ble_eq_true rfl) dX10_are_42 rfl rfl rfl
set_option maxRecDepth 20000 in
theorem p_X10_told_15 {G : GT} {l : Launch} {z n : Nat} (u : HpT) (h134 : u 134 = some (.inr (9, [.int (0 : Int32), .ref (z + 135), .int (0 : Int32), .int (0 : Int32), .int (0 : Int32), .int (-1 : Int32), .int (0 : Int32), .int (0 : Int32), .int (0 : Int32), .int (0 : Int32), .ref (z + 136), .ref (z + 137), .ref (z + 138), .ref (z + 139), .ref (z + 140), .int (0 : Int32), .int (0 : Int32), .int (0 : Int32), .int (0 : Int32), .ref (z + 141), .ref (z + 142), .ref (z + 143), .ref (z + 144), .ref (z + 145), .ref (z + 146), .int (0 : Int32), .int (0 : Int32), .ref (z + 147), .long (0 : Int64), .ref (z + 148), .int (0 : Int32), .int (0 : Int32), .int (0 : Int32), .ref (z + 149), .int (0 : Int32), .ref (z + 150), .ref (z + 151), .int (0 : Int32), .ref (z + 152), .ref (z + 153), .ref (z + 154), .ref (z + 155), .ref (z + 156)]))) : Mt G l z yX10_told cX10_told 2 (some .int) { frames := 1, cells := 0, slots := 0, locals := 23 } [.ref (z + 134), .int (14 : Int32)] u n (some (.int (0 : Int32))) u n := by
  refine mt_of (by decide +kernel) (Nat.le_of_ble_eq_true rfl) ?_
  intro p e s m below meth c C hr hlk hnm
  refine x_iload_n C 1 dX10_told_0 rfl rfl ?_
  refine x_tableIn C 187 dX10_told_1 (by decide) (by decide) rfl (by decide) ?_
  refine x_aload_n C 0 dX10_told_187 rfl rfl ?_
  refine x_iconst (v := (3 : Int32)) C dX10_told_188 (by decide) ?_
  refine x_callV C cl_X10_are kmX10_175 (ci := 9) (b := 134) (As := [.int (3 : Int32)]) (rest := []) rfl h134 (p_X10_are_2 u h134) rfl rfl (Nat.le_of_ble_eq_true rfl) ⟨Nat.le_of_ble_eq_true rfl, Nat.le_of_ble_eq_true rfl⟩ ⟨Nat.le_of_ble_eq_true rfl, Nat.le_of_ble_eq_true rfl⟩ dX10_told_189 ?_
  refine x_norm (st2 := [.int (0 : Int32)]) (kc2 := 0) (ks2 := 0) rfl rfl rfl rfl rfl ?_
  exact x_iret C hr hlk (Nat.le_of_ble_eq_true rfl) (Nat.le_of_ble_eq_true rfl) dX10_told_192 rfl rfl rfl
set_option maxRecDepth 20000 in
theorem p_X1_nobodys_0 {G : GT} {l : Launch} {z n : Nat} (u : HpT) (h112 : u 112 = some (.inr (0, [.int (0 : Int32), .int (0 : Int32), .int (0 : Int32), .int (0 : Int32), .ref (z + 113), .ref (z + 114), .ref (z + 115), .ref (z + 116), .ref (z + 117), .ref (z + 118)]))) : Mt G l z yX1_nobodys cX1_nobodys 3 (some .int) { frames := 1, cells := 0, slots := 0, locals := 20 } [.ref (z + 112)] u n (some (.int (0 : Int32))) u n := by
  refine mt_of (by decide +kernel) (Nat.le_of_ble_eq_true rfl) ?_
  intro p e s m below meth c C hr hlk hnm
  refine x_iconst (v := (0 : Int32)) C dX1_nobodys_0 (by decide) ?_
  refine x_istore_n C [(1, .int (0 : Int32)), (0, .ref (z + 112))] dX1_nobodys_1 rfl (by decide) rfl ?_
  refine x_iconst (v := (0 : Int32)) C dX1_nobodys_2 (by decide) ?_
  refine x_istore_n C [(2, .int (0 : Int32)), (1, .int (0 : Int32)), (0, .ref (z + 112))] dX1_nobodys_3 rfl (by decide) rfl ?_
  refine x_iload_n C 0 dX1_nobodys_4 rfl rfl ?_
  refine x_aload_n C 2 dX1_nobodys_5 rfl rfl ?_
  refine gfX1_21 C dX1_nobodys_6 h112 rfl ?_
  refine x_icmp_ge_t C 27 dX1_nobodys_9 (by decide) (by decide) ?_
  refine x_aload_n C 2 dX1_nobodys_27 rfl rfl ?_
  refine gfX1_18 C dX1_nobodys_28 h112 rfl ?_
  refine x_callSN C cl_X9_setOfFirst knX1_43 (As := [.int (0 : Int32)]) (rest := []) (p_X9_setOfFirst_0 u) rfl rfl (Nat.le_of_ble_eq_true rfl) ⟨Nat.le_of_ble_eq_true rfl, Nat.le_of_ble_eq_true rfl⟩ ⟨Nat.le_of_ble_eq_true rfl, Nat.le_of_ble_eq_true rfl⟩ dX1_nobodys_31 ?_
  refine x_norm (st2 := [.int (0 : Int32)]) (kc2 := 0) (ks2 := 0) rfl rfl rfl rfl rfl ?_
  refine x_iload_n C 1 dX1_nobodys_34 rfl rfl ?_
  refine x_iconst (v := (-1 : Int32)) C dX1_nobodys_35 (by decide) ?_
  refine x_ixor C dX1_nobodys_36 ?_
  refine x_eqi (w := (-1 : Int32)) (by decide) ?_
  refine x_iand C dX1_nobodys_37 ?_
  refine x_eqi (w := (0 : Int32)) (by decide) ?_
  exact x_iret C hr hlk (Nat.le_of_ble_eq_true rfl) (Nat.le_of_ble_eq_true rfl) dX1_nobodys_38 rfl rfl rfl
set_option maxRecDepth 20000 in
theorem p_X9_told_16 {G : GT} {l : Launch} {z n : Nat} (u : HpT) (h0 : u 0 = some (.inr (8, [.ref (z + 1), .ref (z + 3), .ref (z + 6), .ref (z + 98), .ref (z + 99), .ref (z + 101), .ref (z + 106), .ref (z + 109), .ref (z + 112), .ref (z + 119), .int (0 : Int32), .int (-1 : Int32)]))) (h112 : u 112 = some (.inr (0, [.int (0 : Int32), .int (0 : Int32), .int (0 : Int32), .int (0 : Int32), .ref (z + 113), .ref (z + 114), .ref (z + 115), .ref (z + 116), .ref (z + 117), .ref (z + 118)]))) : Mt G l z yX9_told cX9_told 2 (some .int) { frames := 2, cells := 0, slots := 0, locals := 42 } [.ref (z + 0), .int (15 : Int32)] u n (some (.int (0 : Int32))) u n := by
  refine mt_of (by decide +kernel) (Nat.le_of_ble_eq_true rfl) ?_
  intro p e s m below meth c C hr hlk hnm
  refine x_iload_n C 1 dX9_told_0 rfl rfl ?_
  refine x_tableIn C 140 dX9_told_1 (by decide) (by decide) rfl (by decide) ?_
  refine x_aload_n C 0 dX9_told_140 rfl rfl ?_
  refine gfX9_65 C dX9_told_141 h0 rfl ?_
  refine x_callV C cl_X1_nobodys kmX9_126 (ci := 0) (b := 112) (As := []) (rest := []) rfl h112 (p_X1_nobodys_0 u h112) rfl rfl (Nat.le_of_ble_eq_true rfl) ⟨Nat.le_of_ble_eq_true rfl, Nat.le_of_ble_eq_true rfl⟩ ⟨Nat.le_of_ble_eq_true rfl, Nat.le_of_ble_eq_true rfl⟩ dX9_told_144 ?_
  refine x_norm (st2 := [.int (0 : Int32)]) (kc2 := 0) (ks2 := 0) rfl rfl rfl rfl rfl ?_
  exact x_iret C hr hlk (Nat.le_of_ble_eq_true rfl) (Nat.le_of_ble_eq_true rfl) dX9_told_147 rfl rfl rfl
set_option maxRecDepth 20000 in
theorem p_X10_nobodys_0 {G : GT} {l : Launch} {z n : Nat} (u : HpT) (h134 : u 134 = some (.inr (9, [.int (0 : Int32), .ref (z + 135), .int (0 : Int32), .int (0 : Int32), .int (0 : Int32), .int (-1 : Int32), .int (0 : Int32), .int (0 : Int32), .int (0 : Int32), .int (0 : Int32), .ref (z + 136), .ref (z + 137), .ref (z + 138), .ref (z + 139), .ref (z + 140), .int (0 : Int32), .int (0 : Int32), .int (0 : Int32), .int (0 : Int32), .ref (z + 141), .ref (z + 142), .ref (z + 143), .ref (z + 144), .ref (z + 145), .ref (z + 146), .int (0 : Int32), .int (0 : Int32), .ref (z + 147), .long (0 : Int64), .ref (z + 148), .int (0 : Int32), .int (0 : Int32), .int (0 : Int32), .ref (z + 149), .int (0 : Int32), .ref (z + 150), .ref (z + 151), .int (0 : Int32), .ref (z + 152), .ref (z + 153), .ref (z + 154), .ref (z + 155), .ref (z + 156)]))) : Mt G l z yX10_nobodys cX10_nobodys 3 (some .int) { frames := 0, cells := 0, slots := 0, locals := 0 } [.ref (z + 134)] u n (some (.int (0 : Int32))) u n := by
  refine mt_of (by decide +kernel) (Nat.le_of_ble_eq_true rfl) ?_
  intro p e s m below meth c C hr hlk hnm
  refine x_iconst (v := (1 : Int32)) C dX10_nobodys_0 (by decide) ?_
  refine x_aload_n C 0 dX10_nobodys_1 rfl rfl ?_
  refine gfX10_153 C dX10_nobodys_2 h134 rfl ?_
  refine x_ishl C dX10_nobodys_5 ?_
  refine x_eqi (w := (1 : Int32)) (by decide) ?_
  refine x_iconst (v := (1 : Int32)) C dX10_nobodys_6 (by decide) ?_
  refine x_isub C dX10_nobodys_7 ?_
  refine x_eqi (w := (0 : Int32)) (by decide) ?_
  refine x_istore_n C [(1, .int (0 : Int32)), (0, .ref (z + 134))] dX10_nobodys_8 rfl (by decide) rfl ?_
  refine x_iconst (v := (0 : Int32)) C dX10_nobodys_9 (by decide) ?_
  refine x_istore_n C [(2, .int (0 : Int32)), (1, .int (0 : Int32)), (0, .ref (z + 134))] dX10_nobodys_10 rfl (by decide) rfl ?_
  refine x_iload_n C 0 dX10_nobodys_11 rfl rfl ?_
  refine x_aload_n C 2 dX10_nobodys_12 rfl rfl ?_
  refine gfX10_156 C dX10_nobodys_13 h134 rfl ?_
  refine x_icmp_ge_t C 36 dX10_nobodys_16 (by decide) (by decide) ?_
  refine x_iload_n C 1 dX10_nobodys_36 rfl rfl ?_
  exact x_iret C hr hlk (Nat.le_of_ble_eq_true rfl) (Nat.le_of_ble_eq_true rfl) dX10_nobodys_37 rfl rfl rfl
set_option maxRecDepth 20000 in
theorem p_X10_told_16 {G : GT} {l : Launch} {z n : Nat} (u : HpT) (h134 : u 134 = some (.inr (9, [.int (0 : Int32), .ref (z + 135), .int (0 : Int32), .int (0 : Int32), .int (0 : Int32), .int (-1 : Int32), .int (0 : Int32), .int (0 : Int32), .int (0 : Int32), .int (0 : Int32), .ref (z + 136), .ref (z + 137), .ref (z + 138), .ref (z + 139), .ref (z + 140), .int (0 : Int32), .int (0 : Int32), .int (0 : Int32), .int (0 : Int32), .ref (z + 141), .ref (z + 142), .ref (z + 143), .ref (z + 144), .ref (z + 145), .ref (z + 146), .int (0 : Int32), .int (0 : Int32), .ref (z + 147), .long (0 : Int64), .ref (z + 148), .int (0 : Int32), .int (0 : Int32), .int (0 : Int32), .ref (z + 149), .int (0 : Int32), .ref (z + 150), .ref (z + 151), .int (0 : Int32), .ref (z + 152), .ref (z + 153), .ref (z + 154), .ref (z + 155), .ref (z + 156)]))) : Mt G l z yX10_told cX10_told 2 (some .int) { frames := 1, cells := 0, slots := 0, locals := 22 } [.ref (z + 134), .int (15 : Int32)] u n (some (.int (0 : Int32))) u n := by
  refine mt_of (by decide +kernel) (Nat.le_of_ble_eq_true rfl) ?_
  intro p e s m below meth c C hr hlk hnm
  refine x_iload_n C 1 dX10_told_0 rfl rfl ?_
  refine x_tableIn C 193 dX10_told_1 (by decide) (by decide) rfl (by decide) ?_
  refine x_aload_n C 0 dX10_told_193 rfl rfl ?_
  refine x_callV C cl_X10_nobodys kmX10_178 (ci := 9) (b := 134) (As := []) (rest := []) rfl h134 (p_X10_nobodys_0 u h134) rfl rfl (Nat.le_of_ble_eq_true rfl) ⟨Nat.le_of_ble_eq_true rfl, Nat.le_of_ble_eq_true rfl⟩ ⟨Nat.le_of_ble_eq_true rfl, Nat.le_of_ble_eq_true rfl⟩ dX10_told_194 ?_
  refine x_norm (st2 := [.int (0 : Int32)]) (kc2 := 0) (ks2 := 0) rfl rfl rfl rfl rfl ?_
  exact x_iret C hr hlk (Nat.le_of_ble_eq_true rfl) (Nat.le_of_ble_eq_true rfl) dX10_told_197 rfl rfl rfl
set_option maxRecDepth 20000 in
theorem p_X3_longestSat_0 {G : GT} {l : Launch} {z n : Nat} (u : HpT) (h112 : u 112 = some (.inr (0, [.int (0 : Int32), .int (0 : Int32), .int (0 : Int32), .int (0 : Int32), .ref (z + 113), .ref (z + 114), .ref (z + 115), .ref (z + 116), .ref (z + 117), .ref (z + 118)]))) : Mt G l z yX3_longestSat cX3_longestSat 5 (some .int) { frames := 0, cells := 0, slots := 0, locals := 0 } [.ref (z + 3), .ref (z + 112)] u n (some (.int (-1 : Int32))) u n := by
  refine mt_of (by decide +kernel) (Nat.le_of_ble_eq_true rfl) ?_
  intro p e s m below meth c C hr hlk hnm
  refine x_iconst (v := (-1 : Int32)) C dX3_longestSat_0 (by decide) ?_
  refine x_istore_n C [(2, .int (-1 : Int32)), (0, .ref (z + 3)), (1, .ref (z + 112))] dX3_longestSat_1 rfl (by decide) rfl ?_
  refine x_iconst (v := (0 : Int32)) C dX3_longestSat_2 (by decide) ?_
  refine x_istore_n C [(3, .int (0 : Int32)), (2, .int (-1 : Int32)), (0, .ref (z + 3)), (1, .ref (z + 112))] dX3_longestSat_3 rfl (by decide) rfl ?_
  refine x_iconst (v := (0 : Int32)) C dX3_longestSat_4 (by decide) ?_
  refine x_istore C [(4, .int (0 : Int32)), (3, .int (0 : Int32)), (2, .int (-1 : Int32)), (0, .ref (z + 3)), (1, .ref (z + 112))] dX3_longestSat_5 (by decide) rfl ?_
  refine x_iload C 0 dX3_longestSat_7 rfl ?_
  refine x_aload_n C 4 dX3_longestSat_9 rfl rfl ?_
  refine gfX3_61 C dX3_longestSat_10 h112 rfl ?_
  refine x_icmp_ge_t C 44 dX3_longestSat_13 (by decide) (by decide) ?_
  refine x_iload_n C 2 dX3_longestSat_44 rfl rfl ?_
  exact x_iret C hr hlk (Nat.le_of_ble_eq_true rfl) (Nat.le_of_ble_eq_true rfl) dX3_longestSat_45 rfl rfl rfl
set_option maxRecDepth 20000 in
theorem p_X9_told_17 {G : GT} {l : Launch} {z n : Nat} (u : HpT) (h0 : u 0 = some (.inr (8, [.ref (z + 1), .ref (z + 3), .ref (z + 6), .ref (z + 98), .ref (z + 99), .ref (z + 101), .ref (z + 106), .ref (z + 109), .ref (z + 112), .ref (z + 119), .int (0 : Int32), .int (-1 : Int32)]))) (h3 : u 3 = some (.inr (2, [.int (0 : Int32), .int (0 : Int32), .int (0 : Int32), .int (0 : Int32), .int (-1 : Int32), .int (0 : Int32), .int (-1 : Int32), .int (0 : Int32), .int (0 : Int32), .int (0 : Int32), .ref (z + 4), .ref (z + 5)]))) (h112 : u 112 = some (.inr (0, [.int (0 : Int32), .int (0 : Int32), .int (0 : Int32), .int (0 : Int32), .ref (z + 113), .ref (z + 114), .ref (z + 115), .ref (z + 116), .ref (z + 117), .ref (z + 118)]))) : Mt G l z yX9_told cX9_told 2 (some .int) { frames := 1, cells := 0, slots := 0, locals := 24 } [.ref (z + 0), .int (16 : Int32)] u n (some (.int (-1 : Int32))) u n := by
  refine mt_of (by decide +kernel) (Nat.le_of_ble_eq_true rfl) ?_
  intro p e s m below meth c C hr hlk hnm
  refine x_iload_n C 1 dX9_told_0 rfl rfl ?_
  refine x_tableIn C 148 dX9_told_1 (by decide) (by decide) rfl (by decide) ?_
  refine x_aload_n C 0 dX9_told_148 rfl rfl ?_
  refine gfX9_19 C dX9_told_149 h0 rfl ?_
  refine x_aload_n C 0 dX9_told_152 rfl rfl ?_
  refine gfX9_65 C dX9_told_153 h0 rfl ?_
  refine x_callV C cl_X3_longestSat kmX9_130 (ci := 2) (b := 3) (As := [.ref (z + 112)]) (rest := []) rfl h3 (p_X3_longestSat_0 u h112) rfl rfl (Nat.le_of_ble_eq_true rfl) ⟨Nat.le_of_ble_eq_true rfl, Nat.le_of_ble_eq_true rfl⟩ ⟨Nat.le_of_ble_eq_true rfl, Nat.le_of_ble_eq_true rfl⟩ dX9_told_156 ?_
  refine x_norm (st2 := [.int (-1 : Int32)]) (kc2 := 0) (ks2 := 0) rfl rfl rfl rfl rfl ?_
  exact x_iret C hr hlk (Nat.le_of_ble_eq_true rfl) (Nat.le_of_ble_eq_true rfl) dX9_told_159 rfl rfl rfl
set_option maxRecDepth 20000 in
theorem p_X10_longestSat_0 {G : GT} {l : Launch} {z n : Nat} (u : HpT) (h134 : u 134 = some (.inr (9, [.int (0 : Int32), .ref (z + 135), .int (0 : Int32), .int (0 : Int32), .int (0 : Int32), .int (-1 : Int32), .int (0 : Int32), .int (0 : Int32), .int (0 : Int32), .int (0 : Int32), .ref (z + 136), .ref (z + 137), .ref (z + 138), .ref (z + 139), .ref (z + 140), .int (0 : Int32), .int (0 : Int32), .int (0 : Int32), .int (0 : Int32), .ref (z + 141), .ref (z + 142), .ref (z + 143), .ref (z + 144), .ref (z + 145), .ref (z + 146), .int (0 : Int32), .int (0 : Int32), .ref (z + 147), .long (0 : Int64), .ref (z + 148), .int (0 : Int32), .int (0 : Int32), .int (0 : Int32), .ref (z + 149), .int (0 : Int32), .ref (z + 150), .ref (z + 151), .int (0 : Int32), .ref (z + 152), .ref (z + 153), .ref (z + 154), .ref (z + 155), .ref (z + 156)]))) : Mt G l z yX10_longestSat cX10_longestSat 4 (some .int) { frames := 0, cells := 0, slots := 0, locals := 0 } [.ref (z + 134)] u n (some (.int (-1 : Int32))) u n := by
  refine mt_of (by decide +kernel) (Nat.le_of_ble_eq_true rfl) ?_
  intro p e s m below meth c C hr hlk hnm
  refine x_iconst (v := (-1 : Int32)) C dX10_longestSat_0 (by decide) ?_
  refine x_istore_n C [(1, .int (-1 : Int32)), (0, .ref (z + 134))] dX10_longestSat_1 rfl (by decide) rfl ?_
  refine x_iconst (v := (0 : Int32)) C dX10_longestSat_2 (by decide) ?_
  refine x_istore_n C [(2, .int (0 : Int32)), (1, .int (-1 : Int32)), (0, .ref (z + 134))] dX10_longestSat_3 rfl (by decide) rfl ?_
  refine x_iconst (v := (0 : Int32)) C dX10_longestSat_4 (by decide) ?_
  refine x_istore_n C [(3, .int (0 : Int32)), (2, .int (0 : Int32)), (1, .int (-1 : Int32)), (0, .ref (z + 134))] dX10_longestSat_5 rfl (by decide) rfl ?_
  refine x_iload_n C 0 dX10_longestSat_6 rfl rfl ?_
  refine x_aload_n C 3 dX10_longestSat_7 rfl rfl ?_
  refine gfX10_156 C dX10_longestSat_8 h134 rfl ?_
  refine x_icmp_ge_t C 66 dX10_longestSat_11 (by decide) (by decide) ?_
  refine x_iload_n C 2 dX10_longestSat_66 rfl rfl ?_
  exact x_iret C hr hlk (Nat.le_of_ble_eq_true rfl) (Nat.le_of_ble_eq_true rfl) dX10_longestSat_67 rfl rfl rfl
set_option maxRecDepth 20000 in
theorem p_X10_told_17 {G : GT} {l : Launch} {z n : Nat} (u : HpT) (h134 : u 134 = some (.inr (9, [.int (0 : Int32), .ref (z + 135), .int (0 : Int32), .int (0 : Int32), .int (0 : Int32), .int (-1 : Int32), .int (0 : Int32), .int (0 : Int32), .int (0 : Int32), .int (0 : Int32), .ref (z + 136), .ref (z + 137), .ref (z + 138), .ref (z + 139), .ref (z + 140), .int (0 : Int32), .int (0 : Int32), .int (0 : Int32), .int (0 : Int32), .ref (z + 141), .ref (z + 142), .ref (z + 143), .ref (z + 144), .ref (z + 145), .ref (z + 146), .int (0 : Int32), .int (0 : Int32), .ref (z + 147), .long (0 : Int64), .ref (z + 148), .int (0 : Int32), .int (0 : Int32), .int (0 : Int32), .ref (z + 149), .int (0 : Int32), .ref (z + 150), .ref (z + 151), .int (0 : Int32), .ref (z + 152), .ref (z + 153), .ref (z + 154), .ref (z + 155), .ref (z + 156)]))) : Mt G l z yX10_told cX10_told 2 (some .int) { frames := 1, cells := 0, slots := 0, locals := 23 } [.ref (z + 134), .int (16 : Int32)] u n (some (.int (-1 : Int32))) u n := by
  refine mt_of (by decide +kernel) (Nat.le_of_ble_eq_true rfl) ?_
  intro p e s m below meth c C hr hlk hnm
  refine x_iload_n C 1 dX10_told_0 rfl rfl ?_
  refine x_tableIn C 198 dX10_told_1 (by decide) (by decide) rfl (by decide) ?_
  refine x_aload_n C 0 dX10_told_198 rfl rfl ?_
  refine x_callV C cl_X10_longestSat kmX10_181 (ci := 9) (b := 134) (As := []) (rest := []) rfl h134 (p_X10_longestSat_0 u h134) rfl rfl (Nat.le_of_ble_eq_true rfl) ⟨Nat.le_of_ble_eq_true rfl, Nat.le_of_ble_eq_true rfl⟩ ⟨Nat.le_of_ble_eq_true rfl, Nat.le_of_ble_eq_true rfl⟩ dX10_told_199 ?_
  refine x_norm (st2 := [.int (-1 : Int32)]) (kc2 := 0) (ks2 := 0) rfl rfl rfl rfl rfl ?_
  exact x_iret C hr hlk (Nat.le_of_ble_eq_true rfl) (Nat.le_of_ble_eq_true rfl) dX10_told_202 rfl rfl rfl
set_option maxRecDepth 20000 in
theorem p_X8_bestToLearn_0 {G : GT} {l : Launch} {z n : Nat} (u : HpT) (h112 : u 112 = some (.inr (0, [.int (0 : Int32), .int (0 : Int32), .int (0 : Int32), .int (0 : Int32), .ref (z + 113), .ref (z + 114), .ref (z + 115), .ref (z + 116), .ref (z + 117), .ref (z + 118)]))) : Mt G l z yX8_bestToLearn cX8_bestToLearn 7 (some .int) { frames := 0, cells := 0, slots := 0, locals := 0 } [.ref (z + 99), .ref (z + 112), .int (0 : Int32)] u n (some (.int (-1 : Int32))) u n := by
  refine mt_of (by decide +kernel) (Nat.le_of_ble_eq_true rfl) ?_
  intro p e s m below meth c C hr hlk hnm
  refine x_iconst (v := (-1 : Int32)) C dX8_bestToLearn_0 (by decide) ?_
  refine x_istore_n C [(3, .int (-1 : Int32)), (0, .ref (z + 99)), (1, .ref (z + 112)), (2, .int (0 : Int32))] dX8_bestToLearn_1 rfl (by decide) rfl ?_
  refine x_iconst (v := (-1 : Int32)) C dX8_bestToLearn_2 (by decide) ?_
  refine x_istore C [(4, .int (-1 : Int32)), (3, .int (-1 : Int32)), (0, .ref (z + 99)), (1, .ref (z + 112)), (2, .int (0 : Int32))] dX8_bestToLearn_3 (by decide) rfl ?_
  refine x_iconst (v := (0 : Int32)) C dX8_bestToLearn_5 (by decide) ?_
  refine x_istore C [(5, .int (0 : Int32)), (4, .int (-1 : Int32)), (3, .int (-1 : Int32)), (0, .ref (z + 99)), (1, .ref (z + 112)), (2, .int (0 : Int32))] dX8_bestToLearn_6 (by decide) rfl ?_
  refine x_iload C 0 dX8_bestToLearn_8 rfl ?_
  refine x_aload_n C 4 dX8_bestToLearn_10 rfl rfl ?_
  refine gfX8_25 C dX8_bestToLearn_11 h112 rfl ?_
  refine x_icmp_ge_t C 63 dX8_bestToLearn_14 (by decide) (by decide) ?_
  refine x_iload_n C 2 dX8_bestToLearn_63 rfl rfl ?_
  exact x_iret C hr hlk (Nat.le_of_ble_eq_true rfl) (Nat.le_of_ble_eq_true rfl) dX8_bestToLearn_64 rfl rfl rfl
set_option maxRecDepth 20000 in
theorem p_X9_told_18 {G : GT} {l : Launch} {z n : Nat} (u : HpT) (h0 : u 0 = some (.inr (8, [.ref (z + 1), .ref (z + 3), .ref (z + 6), .ref (z + 98), .ref (z + 99), .ref (z + 101), .ref (z + 106), .ref (z + 109), .ref (z + 112), .ref (z + 119), .int (0 : Int32), .int (-1 : Int32)]))) (h3 : u 3 = some (.inr (2, [.int (0 : Int32), .int (0 : Int32), .int (0 : Int32), .int (0 : Int32), .int (-1 : Int32), .int (0 : Int32), .int (-1 : Int32), .int (0 : Int32), .int (0 : Int32), .int (0 : Int32), .ref (z + 4), .ref (z + 5)]))) (h99 : u 99 = some (.inr (7, [.ref (z + 100), .int (0 : Int32), .int (-1 : Int32), .int (0 : Int32)]))) (h112 : u 112 = some (.inr (0, [.int (0 : Int32), .int (0 : Int32), .int (0 : Int32), .int (0 : Int32), .ref (z + 113), .ref (z + 114), .ref (z + 115), .ref (z + 116), .ref (z + 117), .ref (z + 118)]))) : Mt G l z yX9_told cX9_told 2 (some .int) { frames := 1, cells := 0, slots := 0, locals := 26 } [.ref (z + 0), .int (17 : Int32)] u n (some (.int (-1 : Int32))) u n := by
  refine mt_of (by decide +kernel) (Nat.le_of_ble_eq_true rfl) ?_
  intro p e s m below meth c C hr hlk hnm
  refine x_iload_n C 1 dX9_told_0 rfl rfl ?_
  refine x_tableIn C 160 dX9_told_1 (by decide) (by decide) rfl (by decide) ?_
  refine x_aload_n C 0 dX9_told_160 rfl rfl ?_
  refine gfX9_39 C dX9_told_161 h0 rfl ?_
  refine x_aload_n C 0 dX9_told_164 rfl rfl ?_
  refine gfX9_65 C dX9_told_165 h0 rfl ?_
  refine x_aload_n C 0 dX9_told_168 rfl rfl ?_
  refine gfX9_19 C dX9_told_169 h0 rfl ?_
  refine gfX9_134 C dX9_told_172 h3 rfl ?_
  refine x_callV C cl_X8_bestToLearn kmX9_137 (ci := 7) (b := 99) (As := [.ref (z + 112), .int (0 : Int32)]) (rest := []) rfl h99 (p_X8_bestToLearn_0 u h112) rfl rfl (Nat.le_of_ble_eq_true rfl) ⟨Nat.le_of_ble_eq_true rfl, Nat.le_of_ble_eq_true rfl⟩ ⟨Nat.le_of_ble_eq_true rfl, Nat.le_of_ble_eq_true rfl⟩ dX9_told_175 ?_
  refine x_norm (st2 := [.int (-1 : Int32)]) (kc2 := 0) (ks2 := 0) rfl rfl rfl rfl rfl ?_
  exact x_iret C hr hlk (Nat.le_of_ble_eq_true rfl) (Nat.le_of_ble_eq_true rfl) dX9_told_178 rfl rfl rfl
set_option maxRecDepth 20000 in
theorem p_X10_bestToLearn_0 {G : GT} {l : Launch} {z n : Nat} (u : HpT) (h134 : u 134 = some (.inr (9, [.int (0 : Int32), .ref (z + 135), .int (0 : Int32), .int (0 : Int32), .int (0 : Int32), .int (-1 : Int32), .int (0 : Int32), .int (0 : Int32), .int (0 : Int32), .int (0 : Int32), .ref (z + 136), .ref (z + 137), .ref (z + 138), .ref (z + 139), .ref (z + 140), .int (0 : Int32), .int (0 : Int32), .int (0 : Int32), .int (0 : Int32), .ref (z + 141), .ref (z + 142), .ref (z + 143), .ref (z + 144), .ref (z + 145), .ref (z + 146), .int (0 : Int32), .int (0 : Int32), .ref (z + 147), .long (0 : Int64), .ref (z + 148), .int (0 : Int32), .int (0 : Int32), .int (0 : Int32), .ref (z + 149), .int (0 : Int32), .ref (z + 150), .ref (z + 151), .int (0 : Int32), .ref (z + 152), .ref (z + 153), .ref (z + 154), .ref (z + 155), .ref (z + 156)]))) : Mt G l z yX10_bestToLearn cX10_bestToLearn 5 (some .int) { frames := 0, cells := 0, slots := 0, locals := 0 } [.ref (z + 134)] u n (some (.int (-1 : Int32))) u n := by
  refine mt_of (by decide +kernel) (Nat.le_of_ble_eq_true rfl) ?_
  intro p e s m below meth c C hr hlk hnm
  refine x_iconst (v := (-1 : Int32)) C dX10_bestToLearn_0 (by decide) ?_
  refine x_istore_n C [(1, .int (-1 : Int32)), (0, .ref (z + 134))] dX10_bestToLearn_1 rfl (by decide) rfl ?_
  refine x_iconst (v := (-1 : Int32)) C dX10_bestToLearn_2 (by decide) ?_
  refine x_istore_n C [(2, .int (-1 : Int32)), (1, .int (-1 : Int32)), (0, .ref (z + 134))] dX10_bestToLearn_3 rfl (by decide) rfl ?_
  refine x_iconst (v := (0 : Int32)) C dX10_bestToLearn_4 (by decide) ?_
  refine x_istore_n C [(3, .int (0 : Int32)), (2, .int (-1 : Int32)), (1, .int (-1 : Int32)), (0, .ref (z + 134))] dX10_bestToLearn_5 rfl (by decide) rfl ?_
  refine x_iload_n C 0 dX10_bestToLearn_6 rfl rfl ?_
  refine x_aload_n C 3 dX10_bestToLearn_7 rfl rfl ?_
  refine gfX10_153 C dX10_bestToLearn_8 h134 rfl ?_
  refine x_icmp_ge_t C 78 dX10_bestToLearn_11 (by decide) (by decide) ?_
  refine x_iload_n C 2 dX10_bestToLearn_78 rfl rfl ?_
  exact x_iret C hr hlk (Nat.le_of_ble_eq_true rfl) (Nat.le_of_ble_eq_true rfl) dX10_bestToLearn_79 rfl rfl rfl
set_option maxRecDepth 20000 in
theorem p_X10_told_18 {G : GT} {l : Launch} {z n : Nat} (u : HpT) (h134 : u 134 = some (.inr (9, [.int (0 : Int32), .ref (z + 135), .int (0 : Int32), .int (0 : Int32), .int (0 : Int32), .int (-1 : Int32), .int (0 : Int32), .int (0 : Int32), .int (0 : Int32), .int (0 : Int32), .ref (z + 136), .ref (z + 137), .ref (z + 138), .ref (z + 139), .ref (z + 140), .int (0 : Int32), .int (0 : Int32), .int (0 : Int32), .int (0 : Int32), .ref (z + 141), .ref (z + 142), .ref (z + 143), .ref (z + 144), .ref (z + 145), .ref (z + 146), .int (0 : Int32), .int (0 : Int32), .ref (z + 147), .long (0 : Int64), .ref (z + 148), .int (0 : Int32), .int (0 : Int32), .int (0 : Int32), .ref (z + 149), .int (0 : Int32), .ref (z + 150), .ref (z + 151), .int (0 : Int32), .ref (z + 152), .ref (z + 153), .ref (z + 154), .ref (z + 155), .ref (z + 156)]))) : Mt G l z yX10_told cX10_told 2 (some .int) { frames := 1, cells := 0, slots := 0, locals := 24 } [.ref (z + 134), .int (17 : Int32)] u n (some (.int (-1 : Int32))) u n := by
  refine mt_of (by decide +kernel) (Nat.le_of_ble_eq_true rfl) ?_
  intro p e s m below meth c C hr hlk hnm
  refine x_iload_n C 1 dX10_told_0 rfl rfl ?_
  refine x_tableIn C 203 dX10_told_1 (by decide) (by decide) rfl (by decide) ?_
  refine x_aload_n C 0 dX10_told_203 rfl rfl ?_
  refine x_callV C cl_X10_bestToLearn kmX10_184 (ci := 9) (b := 134) (As := []) (rest := []) rfl h134 (p_X10_bestToLearn_0 u h134) rfl rfl (Nat.le_of_ble_eq_true rfl) ⟨Nat.le_of_ble_eq_true rfl, Nat.le_of_ble_eq_true rfl⟩ ⟨Nat.le_of_ble_eq_true rfl, Nat.le_of_ble_eq_true rfl⟩ dX10_told_204 ?_
  refine x_norm (st2 := [.int (-1 : Int32)]) (kc2 := 0) (ks2 := 0) rfl rfl rfl rfl rfl ?_
  exact x_iret C hr hlk (Nat.le_of_ble_eq_true rfl) (Nat.le_of_ble_eq_true rfl) dX10_told_207 rfl rfl rfl
set_option maxRecDepth 20000 in
theorem p_X9_told_19 {G : GT} {l : Launch} {z n : Nat} (u : HpT) (h0 : u 0 = some (.inr (8, [.ref (z + 1), .ref (z + 3), .ref (z + 6), .ref (z + 98), .ref (z + 99), .ref (z + 101), .ref (z + 106), .ref (z + 109), .ref (z + 112), .ref (z + 119), .int (0 : Int32), .int (-1 : Int32)]))) (h106 : u 106 = some (.inr (1, [.ref (z + 107), .ref (z + 108), .int (0 : Int32)]))) : Mt G l z yX9_told cX9_told 2 (some .int) { frames := 0, cells := 0, slots := 0, locals := 0 } [.ref (z + 0), .int (18 : Int32)] u n (some (.int (0 : Int32))) u n := by
  refine mt_of (by decide +kernel) (Nat.le_of_ble_eq_true rfl) ?_
  intro p e s m below meth c C hr hlk hnm
  refine x_iload_n C 1 dX9_told_0 rfl rfl ?_
  refine x_tableIn C 179 dX9_told_1 (by decide) (by decide) rfl (by decide) ?_
  refine x_aload_n C 0 dX9_told_179 rfl rfl ?_
  refine gfX9_55 C dX9_told_180 h0 rfl ?_
  refine gfX9_141 C dX9_told_183 h106 rfl ?_
  exact x_iret C hr hlk (Nat.le_of_ble_eq_true rfl) (Nat.le_of_ble_eq_true rfl) dX9_told_186 rfl rfl rfl
set_option maxRecDepth 20000 in
theorem p_X10_told_19 {G : GT} {l : Launch} {z n : Nat} (u : HpT) (h134 : u 134 = some (.inr (9, [.int (0 : Int32), .ref (z + 135), .int (0 : Int32), .int (0 : Int32), .int (0 : Int32), .int (-1 : Int32), .int (0 : Int32), .int (0 : Int32), .int (0 : Int32), .int (0 : Int32), .ref (z + 136), .ref (z + 137), .ref (z + 138), .ref (z + 139), .ref (z + 140), .int (0 : Int32), .int (0 : Int32), .int (0 : Int32), .int (0 : Int32), .ref (z + 141), .ref (z + 142), .ref (z + 143), .ref (z + 144), .ref (z + 145), .ref (z + 146), .int (0 : Int32), .int (0 : Int32), .ref (z + 147), .long (0 : Int64), .ref (z + 148), .int (0 : Int32), .int (0 : Int32), .int (0 : Int32), .ref (z + 149), .int (0 : Int32), .ref (z + 150), .ref (z + 151), .int (0 : Int32), .ref (z + 152), .ref (z + 153), .ref (z + 154), .ref (z + 155), .ref (z + 156)]))) : Mt G l z yX10_told cX10_told 2 (some .int) { frames := 0, cells := 0, slots := 0, locals := 0 } [.ref (z + 134), .int (18 : Int32)] u n (some (.int (0 : Int32))) u n := by
  refine mt_of (by decide +kernel) (Nat.le_of_ble_eq_true rfl) ?_
  intro p e s m below meth c C hr hlk hnm
  refine x_iload_n C 1 dX10_told_0 rfl rfl ?_
  refine x_tableIn C 208 dX10_told_1 (by decide) (by decide) rfl (by decide) ?_
  refine x_aload_n C 0 dX10_told_208 rfl rfl ?_
  refine gfX10_162 C dX10_told_209 h134 rfl ?_
  exact x_iret C hr hlk (Nat.le_of_ble_eq_true rfl) (Nat.le_of_ble_eq_true rfl) dX10_told_212 rfl rfl rfl
set_option maxRecDepth 20000 in
theorem p_X9_told_20 {G : GT} {l : Launch} {z n : Nat} (u : HpT) (h0 : u 0 = some (.inr (8, [.ref (z + 1), .ref (z + 3), .ref (z + 6), .ref (z + 98), .ref (z + 99), .ref (z + 101), .ref (z + 106), .ref (z + 109), .ref (z + 112), .ref (z + 119), .int (0 : Int32), .int (-1 : Int32)]))) (h109 : u 109 = some (.inr (1, [.ref (z + 110), .ref (z + 111), .int (0 : Int32)]))) : Mt G l z yX9_told cX9_told 2 (some .int) { frames := 0, cells := 0, slots := 0, locals := 0 } [.ref (z + 0), .int (19 : Int32)] u n (some (.int (0 : Int32))) u n := by
  refine mt_of (by decide +kernel) (Nat.le_of_ble_eq_true rfl) ?_
  intro p e s m below meth c C hr hlk hnm
  refine x_iload_n C 1 dX9_told_0 rfl rfl ?_
  refine x_tableIn C 187 dX9_told_1 (by decide) (by decide) rfl (by decide) ?_
  refine x_aload_n C 0 dX9_told_187 rfl rfl ?_
  refine gfX9_59 C dX9_told_188 h0 rfl ?_
  refine gfX9_141 C dX9_told_191 h109 rfl ?_
  exact x_iret C hr hlk (Nat.le_of_ble_eq_true rfl) (Nat.le_of_ble_eq_true rfl) dX9_told_194 rfl rfl rfl
set_option maxRecDepth 20000 in
theorem p_X10_told_20 {G : GT} {l : Launch} {z n : Nat} (u : HpT) (h134 : u 134 = some (.inr (9, [.int (0 : Int32), .ref (z + 135), .int (0 : Int32), .int (0 : Int32), .int (0 : Int32), .int (-1 : Int32), .int (0 : Int32), .int (0 : Int32), .int (0 : Int32), .int (0 : Int32), .ref (z + 136), .ref (z + 137), .ref (z + 138), .ref (z + 139), .ref (z + 140), .int (0 : Int32), .int (0 : Int32), .int (0 : Int32), .int (0 : Int32), .ref (z + 141), .ref (z + 142), .ref (z + 143), .ref (z + 144), .ref (z + 145), .ref (z + 146), .int (0 : Int32), .int (0 : Int32), .ref (z + 147), .long (0 : Int64), .ref (z + 148), .int (0 : Int32), .int (0 : Int32), .int (0 : Int32), .ref (z + 149), .int (0 : Int32), .ref (z + 150), .ref (z + 151), .int (0 : Int32), .ref (z + 152), .ref (z + 153), .ref (z + 154), .ref (z + 155), .ref (z + 156)]))) : Mt G l z yX10_told cX10_told 2 (some .int) { frames := 0, cells := 0, slots := 0, locals := 0 } [.ref (z + 134), .int (19 : Int32)] u n (some (.int (0 : Int32))) u n := by
  refine mt_of (by decide +kernel) (Nat.le_of_ble_eq_true rfl) ?_
  intro p e s m below meth c C hr hlk hnm
  refine x_iload_n C 1 dX10_told_0 rfl rfl ?_
  refine x_tableIn C 213 dX10_told_1 (by decide) (by decide) rfl (by decide) ?_
  refine x_aload_n C 0 dX10_told_213 rfl rfl ?_
  refine gfX10_165 C dX10_told_214 h134 rfl ?_
  exact x_iret C hr hlk (Nat.le_of_ble_eq_true rfl) (Nat.le_of_ble_eq_true rfl) dX10_told_217 rfl rfl rfl
set_option maxRecDepth 20000 in
theorem p_X9_told_21 {G : GT} {l : Launch} {z n : Nat} (u : HpT) (h0 : u 0 = some (.inr (8, [.ref (z + 1), .ref (z + 3), .ref (z + 6), .ref (z + 98), .ref (z + 99), .ref (z + 101), .ref (z + 106), .ref (z + 109), .ref (z + 112), .ref (z + 119), .int (0 : Int32), .int (-1 : Int32)]))) (h6 : u 6 = some (.inr (5, [.ref (z + 7), .int (0 : Int32), .int (0 : Int32)]))) : Mt G l z yX9_told cX9_told 2 (some .int) { frames := 0, cells := 0, slots := 0, locals := 0 } [.ref (z + 0), .int (20 : Int32)] u n (some (.int (0 : Int32))) u n := by
  refine mt_of (by decide +kernel) (Nat.le_of_ble_eq_true rfl) ?_
  intro p e s m below meth c C hr hlk hnm
  refine x_iload_n C 1 dX9_told_0 rfl rfl ?_
  refine x_tableIn C 195 dX9_told_1 (by decide) (by decide) rfl (by decide) ?_
  refine x_aload_n C 0 dX9_told_195 rfl rfl ?_
  refine gfX9_26 C dX9_told_196 h0 rfl ?_
  refine gfX9_144 C dX9_told_199 h6 rfl ?_
  exact x_iret C hr hlk (Nat.le_of_ble_eq_true rfl) (Nat.le_of_ble_eq_true rfl) dX9_told_202 rfl rfl rfl
set_option maxRecDepth 20000 in
theorem p_X10_told_21 {G : GT} {l : Launch} {z n : Nat} (u : HpT) (h134 : u 134 = some (.inr (9, [.int (0 : Int32), .ref (z + 135), .int (0 : Int32), .int (0 : Int32), .int (0 : Int32), .int (-1 : Int32), .int (0 : Int32), .int (0 : Int32), .int (0 : Int32), .int (0 : Int32), .ref (z + 136), .ref (z + 137), .ref (z + 138), .ref (z + 139), .ref (z + 140), .int (0 : Int32), .int (0 : Int32), .int (0 : Int32), .int (0 : Int32), .ref (z + 141), .ref (z + 142), .ref (z + 143), .ref (z + 144), .ref (z + 145), .ref (z + 146), .int (0 : Int32), .int (0 : Int32), .ref (z + 147), .long (0 : Int64), .ref (z + 148), .int (0 : Int32), .int (0 : Int32), .int (0 : Int32), .ref (z + 149), .int (0 : Int32), .ref (z + 150), .ref (z + 151), .int (0 : Int32), .ref (z + 152), .ref (z + 153), .ref (z + 154), .ref (z + 155), .ref (z + 156)]))) : Mt G l z yX10_told cX10_told 2 (some .int) { frames := 0, cells := 0, slots := 0, locals := 0 } [.ref (z + 134), .int (20 : Int32)] u n (some (.int (0 : Int32))) u n := by
  refine mt_of (by decide +kernel) (Nat.le_of_ble_eq_true rfl) ?_
  intro p e s m below meth c C hr hlk hnm
  refine x_iload_n C 1 dX10_told_0 rfl rfl ?_
  refine x_tableIn C 218 dX10_told_1 (by decide) (by decide) rfl (by decide) ?_
  refine x_aload_n C 0 dX10_told_218 rfl rfl ?_
  refine gfX10_159 C dX10_told_219 h134 rfl ?_
  exact x_iret C hr hlk (Nat.le_of_ble_eq_true rfl) (Nat.le_of_ble_eq_true rfl) dX10_told_222 rfl rfl rfl
set_option maxRecDepth 20000 in
theorem p_X9_toldOfEvening_11 {G : GT} {l : Launch} {z n : Nat} (u : HpT) (va : Int32) (hl_va : 21 ≤ va.toInt) (hh_va : va.toInt ≤ 2147483647) : Mt G l z yX9_toldOfEvening cX9_toldOfEvening 2 (some .int) { frames := 0, cells := 0, slots := 0, locals := 0 } [.ref (z + 0), .int va] u n (some (.int (-1000000002 : Int32))) u n := by
  refine mt_of (by decide +kernel) (Nat.le_of_ble_eq_true rfl) ?_
  intro p e s m below meth c C hr hlk hnm
  refine x_iload_n C 1 dX9_toldOfEvening_0 rfl rfl ?_
  refine x_tableOut C 136 dX9_toldOfEvening_1 (by omega) (by decide) ?_
  refine x_ldc C kcX9_80 dX9_toldOfEvening_136 ?_
  exact x_iret C hr hlk (Nat.le_of_ble_eq_true rfl) (Nat.le_of_ble_eq_true rfl) dX9_toldOfEvening_138 rfl rfl rfl
set_option maxRecDepth 20000 in
theorem p_X9_told_22 {G : GT} {l : Launch} {z n : Nat} (u : HpT) (va : Int32) (hl_va : 21 ≤ va.toInt) (hh_va : va.toInt ≤ 2147483647) (h0 : u 0 = some (.inr (8, [.ref (z + 1), .ref (z + 3), .ref (z + 6), .ref (z + 98), .ref (z + 99), .ref (z + 101), .ref (z + 106), .ref (z + 109), .ref (z + 112), .ref (z + 119), .int (0 : Int32), .int (-1 : Int32)]))) : Mt G l z yX9_told cX9_told 2 (some .int) { frames := 1, cells := 0, slots := 0, locals := 21 } [.ref (z + 0), .int va] u n (some (.int (-1000000002 : Int32))) u n := by
  refine mt_of (by decide +kernel) (Nat.le_of_ble_eq_true rfl) ?_
  intro p e s m below meth c C hr hlk hnm
  refine x_iload_n C 1 dX9_told_0 rfl rfl ?_
  refine x_tableOut C 203 dX9_told_1 (by omega) (by decide) ?_
  refine x_aload_n C 0 dX9_told_203 rfl rfl ?_
  refine x_iload_n C 1 dX9_told_204 rfl rfl ?_
  refine x_callV C cl_X9_toldOfEvening kmX9_145 (ci := 8) (b := 0) (As := [.int va]) (rest := []) rfl h0 (p_X9_toldOfEvening_11 u va hl_va hh_va) rfl rfl (Nat.le_of_ble_eq_true rfl) ⟨Nat.le_of_ble_eq_true rfl, Nat.le_of_ble_eq_true rfl⟩ ⟨Nat.le_of_ble_eq_true rfl, Nat.le_of_ble_eq_true rfl⟩ dX9_told_205 ?_
  refine x_norm (st2 := [.int (-1000000002 : Int32)]) (kc2 := 0) (ks2 := 0) rfl rfl rfl rfl rfl ?_
  exact x_iret C hr hlk (Nat.le_of_ble_eq_true rfl) (Nat.le_of_ble_eq_true rfl) dX9_told_208 rfl rfl rfl
set_option maxRecDepth 20000 in
theorem p_X10_told_22 {G : GT} {l : Launch} {z n : Nat} (u : HpT) (va : Int32) (hl_va : 21 ≤ va.toInt) (hh_va : va.toInt ≤ 2147483647) : Mt G l z yX10_told cX10_told 2 (some .int) { frames := 0, cells := 0, slots := 0, locals := 0 } [.ref (z + 134), .int va] u n (some (.int (-1000000002 : Int32))) u n := by
  refine mt_of (by decide +kernel) (Nat.le_of_ble_eq_true rfl) ?_
  intro p e s m below meth c C hr hlk hnm
  refine x_iload_n C 1 dX10_told_0 rfl rfl ?_
  refine x_tableOut C 223 dX10_told_1 (by omega) (by decide) ?_
  refine x_ldc C kcX10_86 dX10_told_223 ?_
  exact x_iret C hr hlk (Nat.le_of_ble_eq_true rfl) (Nat.le_of_ble_eq_true rfl) dX10_told_225 rfl rfl rfl
