set_option maxRecDepth 20000 in
theorem p_X10_keep_2 {G : GT} {l : Launch} {z n : Nat} (u : HpT) (h134 : u 134 = some (.inr (9, [.int (0 : Int32), .ref (z + 135), .int (0 : Int32), .int (0 : Int32), .int (0 : Int32), .int (-1 : Int32), .int (0 : Int32), .int (0 : Int32), .int (0 : Int32), .int (0 : Int32), .ref (z + 136), .ref (z + 137), .ref (z + 138), .ref (z + 139), .ref (z + 140), .int (0 : Int32), .int (0 : Int32), .int (0 : Int32), .int (0 : Int32), .ref (z + 141), .ref (z + 142), .ref (z + 143), .ref (z + 144), .ref (z + 145), .ref (z + 146), .int (0 : Int32), .int (0 : Int32), .ref (z + 147), .long (0 : Int64), .ref (z + 148), .int (0 : Int32), .int (0 : Int32), .int (0 : Int32), .ref (z + 149), .int (0 : Int32), .ref (z + 150), .ref (z + 151), .int (0 : Int32), .ref (z + 152), .ref (z + 153), .ref (z + 154), .ref (z + 155), .ref (z + 156)]))) (h146 : u 146 = some (aI G 25 (upd (upd (fun _ => 0) 4 (-1 : Int32)) 6 (-1 : Int32)))) (h154 : u 154 = some (aZ G 2 (fun _ => 0))) (h155 : u 155 = some (aI G 50 (fun _ => 0))) (h156 : u 156 = some (aL G 2 (fun _ => 0))) : Mt G l z yX10_keep cX10_keep 3 (some .int) { frames := 1, cells := 0, slots := 0, locals := 22 } [.ref (z + 134), .int (1 : Int32)] u n (some (.int (1 : Int32))) (hup (hup (hup (hup u 154 (aZ G 2 (upd (fun _ => 0) 1 (1 : Int32)))) 156 (aL G 2 (vp_updL (fun _ => 0) 1 (0 : Int64)))) 134 (.inr (9, [.int (0 : Int32), .ref (z + 135), .int (0 : Int32), .int (0 : Int32), .int (0 : Int32), .int (-1 : Int32), .int (0 : Int32), .int (0 : Int32), .int (0 : Int32), .int (0 : Int32), .ref (z + 136), .ref (z + 137), .ref (z + 138), .ref (z + 139), .ref (z + 140), .int (0 : Int32), .int (0 : Int32), .int (0 : Int32), .int (0 : Int32), .ref (z + 141), .ref (z + 142), .ref (z + 143), .ref (z + 144), .ref (z + 145), .ref (z + 146), .int (0 : Int32), .int (0 : Int32), .ref (z + 147), .long (0 : Int64), .ref (z + 148), .int (0 : Int32), .int (0 : Int32), .int (0 : Int32), .ref (z + 149), .int (0 : Int32), .ref (z + 150), .ref (z + 151), .int (0 : Int32), .ref (z + 152), .ref (z + 153), .ref (z + 154), .ref (z + 155), .ref (z + 156)]))) 155 (aI G 50 (upd (upd (upd (upd (upd (upd (upd (upd (upd (upd (upd (upd (upd (upd (upd (upd (upd (upd (upd (upd (upd (upd (upd (upd (upd (fun _ => 0) 25 (0 : Int32)) 26 (0 : Int32)) 27 (0 : Int32)) 28 (0 : Int32)) 29 (-1 : Int32)) 30 (0 : Int32)) 31 (-1 : Int32)) 32 (0 : Int32)) 33 (0 : Int32)) 34 (0 : Int32)) 35 (0 : Int32)) 36 (0 : Int32)) 37 (0 : Int32)) 38 (0 : Int32)) 39 (0 : Int32)) 40 (0 : Int32)) 41 (0 : Int32)) 42 (0 : Int32)) 43 (0 : Int32)) 44 (0 : Int32)) 45 (0 : Int32)) 46 (0 : Int32)) 47 (0 : Int32)) 48 (0 : Int32)) 49 (0 : Int32)))) n := by
  refine mt_of (by decide +kernel) (Nat.le_of_ble_eq_true rfl) ?_
  intro p e s m below meth c C hr hlk hnm
  refine x_iload_n C 1 dX10_keep_0 rfl rfl ?_
  refine x_iconst (v := (0 : Int32)) C dX10_keep_1 (by decide) ?_
  refine x_iconst (v := (1 : Int32)) C dX10_keep_2 (by decide) ?_
  refine x_callS C cl_X10_in kmX10_82 (As := [.int (1 : Int32), .int (0 : Int32), .int (1 : Int32)]) (rest := []) (p_X10_in_13 u) rfl rfl (Nat.le_of_ble_eq_true rfl) ⟨Nat.le_of_ble_eq_true rfl, Nat.le_of_ble_eq_true rfl⟩ ⟨Nat.le_of_ble_eq_true rfl, Nat.le_of_ble_eq_true rfl⟩ dX10_keep_3 ?_
  refine x_norm (st2 := [.int (1 : Int32)]) (kc2 := 0) (ks2 := 0) rfl rfl rfl rfl rfl ?_
  refine x_if_ne_t C 12 dX10_keep_6 (by decide) (by decide) ?_
  refine x_aload_n C 0 dX10_keep_12 rfl rfl ?_
  refine gfX10_71 C dX10_keep_13 h134 rfl ?_
  refine x_iload_n C 1 dX10_keep_16 rfl rfl ?_
  refine x_iconst (v := (1 : Int32)) C dX10_keep_17 (by decide) ?_
  refine x_zastk C 1 h154 (vp_in_lit (by decide) (by decide)) (by decide) dX10_keep_18 (by decide) ?_
  obtain ⟨u1, eu1⟩ : ∃ w : HpT, w = (hup u 154 (aZ G 2 (upd (fun _ => 0) 1 (1 : Int32)))) := ⟨_, rfl⟩
  refine x_heap (u2 := u1) eu1.symm ?_
  refine x_aload_n C 0 dX10_keep_19 rfl rfl ?_
  have k134_1 := (congrFun eu1 134).trans (hup_n' (by decide) (h134))
  refine gfX10_78 C dX10_keep_20 k134_1 rfl ?_
  refine x_iload_n C 1 dX10_keep_23 rfl rfl ?_
  refine x_aload_n C 0 dX10_keep_24 rfl rfl ?_
  refine gfX10_243 C dX10_keep_25 k134_1 rfl ?_
  have k156_1 := (congrFun eu1 156).trans (hup_n' (by decide) (h156))
  refine x_lastk C 1 k156_1 (vp_in_lit (by decide) (by decide)) (by decide) dX10_keep_28 ?_
  obtain ⟨u2, eu2⟩ : ∃ w : HpT, w = (hup u1 156 (aL G 2 (vp_updL (fun _ => 0) 1 (0 : Int64)))) := ⟨_, rfl⟩
  refine x_heap (u2 := u2) eu2.symm ?_
  refine x_aload_n C 0 dX10_keep_29 rfl rfl ?_
  refine x_iconst (v := (0 : Int32)) C dX10_keep_30 (by decide) ?_
  have k134_2 := (congrFun eu2 134).trans (hup_n' (by decide) (k134_1))
  obtain ⟨u3, eu3⟩ : ∃ w : HpT, w = (hup u2 134 (.inr (9, [.int (0 : Int32), .ref (z + 135), .int (0 : Int32), .int (0 : Int32), .int (0 : Int32), .int (-1 : Int32), .int (0 : Int32), .int (0 : Int32), .int (0 : Int32), .int (0 : Int32), .ref (z + 136), .ref (z + 137), .ref (z + 138), .ref (z + 139), .ref (z + 140), .int (0 : Int32), .int (0 : Int32), .int (0 : Int32), .int (0 : Int32), .ref (z + 141), .ref (z + 142), .ref (z + 143), .ref (z + 144), .ref (z + 145), .ref (z + 146), .int (0 : Int32), .int (0 : Int32), .ref (z + 147), .long (0 : Int64), .ref (z + 148), .int (0 : Int32), .int (0 : Int32), .int (0 : Int32), .ref (z + 149), .int (0 : Int32), .ref (z + 150), .ref (z + 151), .int (0 : Int32), .ref (z + 152), .ref (z + 153), .ref (z + 154), .ref (z + 155), .ref (z + 156)]))) := ⟨_, rfl⟩
  refine pfX10_159 C dX10_keep_31 k134_2 (Nat.le_of_ble_eq_true rfl) rfl eu3.symm ?_
  refine x_iconst (v := (0 : Int32)) C dX10_keep_34 (by decide) ?_
  refine x_istore_n C [(2, .int (0 : Int32)), (0, .ref (z + 134)), (1, .int (1 : Int32))] dX10_keep_35 rfl (by decide) rfl ?_
  refine x_iload_n C 0 dX10_keep_36 rfl rfl ?_
  refine x_bipush (v := (25 : Int32)) C dX10_keep_37 (by decide) ?_
  refine x_icmp_ge_f C 65 dX10_keep_39 (by decide) (by decide) ?_
  refine x_aload_n C 1 dX10_keep_42 rfl rfl ?_
  have k134_3 := (congrFun eu3 134).trans (hup_s _ _ _)
  refine gfX10_75 C dX10_keep_43 k134_3 rfl ?_
  refine x_bipush (v := (25 : Int32)) C dX10_keep_46 (by decide) ?_
  refine x_iload_n C 2 dX10_keep_48 rfl rfl ?_
  refine x_imul C dX10_keep_49 ?_
  refine x_eqi (w := (25 : Int32)) (by decide) ?_
  refine x_iload_n C 0 dX10_keep_50 rfl rfl ?_
  refine x_iadd C dX10_keep_51 ?_
  refine x_eqi (w := (25 : Int32)) (by decide) ?_
  refine x_aload_n C 1 dX10_keep_52 rfl rfl ?_
  refine gfX10_47 C dX10_keep_53 k134_3 rfl ?_
  refine x_iload_n C 0 dX10_keep_56 rfl rfl ?_
  have k146_1 := (congrFun eu1 146).trans (hup_n' (by decide) (h146))
  have k146_2 := (congrFun eu2 146).trans (hup_n' (by decide) (k146_1))
  have k146_3 := (congrFun eu3 146).trans (hup_n' (by decide) (k146_2))
  refine x_ialdk C 0 k146_3 (vp_in_lit (by decide) (by decide)) (by decide) dX10_keep_57 ?_
  refine x_eqi (w := (0 : Int32)) (by decide) ?_
  have k155_1 := (congrFun eu1 155).trans (hup_n' (by decide) (h155))
  have k155_2 := (congrFun eu2 155).trans (hup_n' (by decide) (k155_1))
  have k155_3 := (congrFun eu3 155).trans (hup_n' (by decide) (k155_2))
  refine x_iastk C 25 k155_3 (vp_in_lit (by decide) (by decide)) (by decide) dX10_keep_58 ?_
  obtain ⟨u4, eu4⟩ : ∃ w : HpT, w = (hup u3 155 (aI G 50 (upd (fun _ => 0) 25 (0 : Int32)))) := ⟨_, rfl⟩
  refine x_heap (u2 := u4) eu4.symm ?_
  refine x_iinc C 0 [(2, .int (1 : Int32)), (0, .ref (z + 134)), (1, .int (1 : Int32))] dX10_keep_59 rfl (by decide) (by decide) rfl ?_
  refine x_goto C 36 dX10_keep_62 (by decide) ?_
  refine x_iload_n C 0 dX10_keep_36 rfl rfl ?_
  refine x_bipush (v := (25 : Int32)) C dX10_keep_37 (by decide) ?_
  refine x_icmp_ge_f C 65 dX10_keep_39 (by decide) (by decide) ?_
  refine x_aload_n C 1 dX10_keep_42 rfl rfl ?_
  have k134_4 := (congrFun eu4 134).trans (hup_n' (by decide) (k134_3))
  refine gfX10_75 C dX10_keep_43 k134_4 rfl ?_
  refine x_bipush (v := (25 : Int32)) C dX10_keep_46 (by decide) ?_
  refine x_iload_n C 2 dX10_keep_48 rfl rfl ?_
  refine x_imul C dX10_keep_49 ?_
  refine x_eqi (w := (25 : Int32)) (by decide) ?_
  refine x_iload_n C 0 dX10_keep_50 rfl rfl ?_
  refine x_iadd C dX10_keep_51 ?_
  refine x_eqi (w := (26 : Int32)) (by decide) ?_
  refine x_aload_n C 1 dX10_keep_52 rfl rfl ?_
  refine gfX10_47 C dX10_keep_53 k134_4 rfl ?_
  refine x_iload_n C 0 dX10_keep_56 rfl rfl ?_
  have k146_4 := (congrFun eu4 146).trans (hup_n' (by decide) (k146_3))
  refine x_ialdk C 1 k146_4 (vp_in_lit (by decide) (by decide)) (by decide) dX10_keep_57 ?_
  refine x_eqi (w := (0 : Int32)) (by decide) ?_
  have k155_4 := (congrFun eu4 155).trans (hup_s _ _ _)
  refine x_iastk C 26 k155_4 (vp_in_lit (by decide) (by decide)) (by decide) dX10_keep_58 ?_
  obtain ⟨u5, eu5⟩ : ∃ w : HpT, w = (hup u4 155 (aI G 50 (upd (upd (fun _ => 0) 25 (0 : Int32)) 26 (0 : Int32)))) := ⟨_, rfl⟩
  refine x_heap (u2 := u5) eu5.symm ?_
  refine x_iinc C 0 [(2, .int (2 : Int32)), (0, .ref (z + 134)), (1, .int (1 : Int32))] dX10_keep_59 rfl (by decide) (by decide) rfl ?_
  refine x_goto C 36 dX10_keep_62 (by decide) ?_
  refine x_iload_n C 0 dX10_keep_36 rfl rfl ?_
  refine x_bipush (v := (25 : Int32)) C dX10_keep_37 (by decide) ?_
  refine x_icmp_ge_f C 65 dX10_keep_39 (by decide) (by decide) ?_
  refine x_aload_n C 1 dX10_keep_42 rfl rfl ?_
  have k134_5 := (congrFun eu5 134).trans (hup_n' (by decide) (k134_4))
  refine gfX10_75 C dX10_keep_43 k134_5 rfl ?_
  refine x_bipush (v := (25 : Int32)) C dX10_keep_46 (by decide) ?_
  refine x_iload_n C 2 dX10_keep_48 rfl rfl ?_
  refine x_imul C dX10_keep_49 ?_
  refine x_eqi (w := (25 : Int32)) (by decide) ?_
  refine x_iload_n C 0 dX10_keep_50 rfl rfl ?_
  refine x_iadd C dX10_keep_51 ?_
  refine x_eqi (w := (27 : Int32)) (by decide) ?_
  refine x_aload_n C 1 dX10_keep_52 rfl rfl ?_
  refine gfX10_47 C dX10_keep_53 k134_5 rfl ?_
  refine x_iload_n C 0 dX10_keep_56 rfl rfl ?_
  have k146_5 := (congrFun eu5 146).trans (hup_n' (by decide) (k146_4))
  refine x_ialdk C 2 k146_5 (vp_in_lit (by decide) (by decide)) (by decide) dX10_keep_57 ?_
  refine x_eqi (w := (0 : Int32)) (by decide) ?_
  have k155_5 := (congrFun eu5 155).trans (hup_s _ _ _)
  refine x_iastk C 27 k155_5 (vp_in_lit (by decide) (by decide)) (by decide) dX10_keep_58 ?_
  obtain ⟨u6, eu6⟩ : ∃ w : HpT, w = (hup u5 155 (aI G 50 (upd (upd (upd (fun _ => 0) 25 (0 : Int32)) 26 (0 : Int32)) 27 (0 : Int32)))) := ⟨_, rfl⟩
  refine x_heap (u2 := u6) eu6.symm ?_
  refine x_iinc C 0 [(2, .int (3 : Int32)), (0, .ref (z + 134)), (1, .int (1 : Int32))] dX10_keep_59 rfl (by decide) (by decide) rfl ?_
  refine x_goto C 36 dX10_keep_62 (by decide) ?_
  refine x_iload_n C 0 dX10_keep_36 rfl rfl ?_
  refine x_bipush (v := (25 : Int32)) C dX10_keep_37 (by decide) ?_
  refine x_icmp_ge_f C 65 dX10_keep_39 (by decide) (by decide) ?_
  refine x_aload_n C 1 dX10_keep_42 rfl rfl ?_
  have k134_6 := (congrFun eu6 134).trans (hup_n' (by decide) (k134_5))
  refine gfX10_75 C dX10_keep_43 k134_6 rfl ?_
  refine x_bipush (v := (25 : Int32)) C dX10_keep_46 (by decide) ?_
  refine x_iload_n C 2 dX10_keep_48 rfl rfl ?_
  refine x_imul C dX10_keep_49 ?_
  refine x_eqi (w := (25 : Int32)) (by decide) ?_
  refine x_iload_n C 0 dX10_keep_50 rfl rfl ?_
  refine x_iadd C dX10_keep_51 ?_
  refine x_eqi (w := (28 : Int32)) (by decide) ?_
  refine x_aload_n C 1 dX10_keep_52 rfl rfl ?_
  refine gfX10_47 C dX10_keep_53 k134_6 rfl ?_
  refine x_iload_n C 0 dX10_keep_56 rfl rfl ?_
  have k146_6 := (congrFun eu6 146).trans (hup_n' (by decide) (k146_5))
  refine x_ialdk C 3 k146_6 (vp_in_lit (by decide) (by decide)) (by decide) dX10_keep_57 ?_
  refine x_eqi (w := (0 : Int32)) (by decide) ?_
  have k155_6 := (congrFun eu6 155).trans (hup_s _ _ _)
  refine x_iastk C 28 k155_6 (vp_in_lit (by decide) (by decide)) (by decide) dX10_keep_58 ?_
  obtain ⟨u7, eu7⟩ : ∃ w : HpT, w = (hup u6 155 (aI G 50 (upd (upd (upd (upd (fun _ => 0) 25 (0 : Int32)) 26 (0 : Int32)) 27 (0 : Int32)) 28 (0 : Int32)))) := ⟨_, rfl⟩
  refine x_heap (u2 := u7) eu7.symm ?_
  refine x_iinc C 0 [(2, .int (4 : Int32)), (0, .ref (z + 134)), (1, .int (1 : Int32))] dX10_keep_59 rfl (by decide) (by decide) rfl ?_
  refine x_goto C 36 dX10_keep_62 (by decide) ?_
  refine x_iload_n C 0 dX10_keep_36 rfl rfl ?_
  refine x_bipush (v := (25 : Int32)) C dX10_keep_37 (by decide) ?_
  refine x_icmp_ge_f C 65 dX10_keep_39 (by decide) (by decide) ?_
  refine x_aload_n C 1 dX10_keep_42 rfl rfl ?_
  have k134_7 := (congrFun eu7 134).trans (hup_n' (by decide) (k134_6))
  refine gfX10_75 C dX10_keep_43 k134_7 rfl ?_
  refine x_bipush (v := (25 : Int32)) C dX10_keep_46 (by decide) ?_
  refine x_iload_n C 2 dX10_keep_48 rfl rfl ?_
  refine x_imul C dX10_keep_49 ?_
  refine x_eqi (w := (25 : Int32)) (by decide) ?_
  refine x_iload_n C 0 dX10_keep_50 rfl rfl ?_
  refine x_iadd C dX10_keep_51 ?_
  refine x_eqi (w := (29 : Int32)) (by decide) ?_
  refine x_aload_n C 1 dX10_keep_52 rfl rfl ?_
  refine gfX10_47 C dX10_keep_53 k134_7 rfl ?_
  refine x_iload_n C 0 dX10_keep_56 rfl rfl ?_
  have k146_7 := (congrFun eu7 146).trans (hup_n' (by decide) (k146_6))
  refine x_ialdk C 4 k146_7 (vp_in_lit (by decide) (by decide)) (by decide) dX10_keep_57 ?_
  refine x_eqi (w := (-1 : Int32)) (by decide) ?_
  have k155_7 := (congrFun eu7 155).trans (hup_s _ _ _)
  refine x_iastk C 29 k155_7 (vp_in_lit (by decide) (by decide)) (by decide) dX10_keep_58 ?_
  obtain ⟨u8, eu8⟩ : ∃ w : HpT, w = (hup u7 155 (aI G 50 (upd (upd (upd (upd (upd (fun _ => 0) 25 (0 : Int32)) 26 (0 : Int32)) 27 (0 : Int32)) 28 (0 : Int32)) 29 (-1 : Int32)))) := ⟨_, rfl⟩
  refine x_heap (u2 := u8) eu8.symm ?_
  refine x_iinc C 0 [(2, .int (5 : Int32)), (0, .ref (z + 134)), (1, .int (1 : Int32))] dX10_keep_59 rfl (by decide) (by decide) rfl ?_
  refine x_goto C 36 dX10_keep_62 (by decide) ?_
  refine x_iload_n C 0 dX10_keep_36 rfl rfl ?_
  refine x_bipush (v := (25 : Int32)) C dX10_keep_37 (by decide) ?_
  refine x_icmp_ge_f C 65 dX10_keep_39 (by decide) (by decide) ?_
  refine x_aload_n C 1 dX10_keep_42 rfl rfl ?_
  have k134_8 := (congrFun eu8 134).trans (hup_n' (by decide) (k134_7))
  refine gfX10_75 C dX10_keep_43 k134_8 rfl ?_
  refine x_bipush (v := (25 : Int32)) C dX10_keep_46 (by decide) ?_
  refine x_iload_n C 2 dX10_keep_48 rfl rfl ?_
  refine x_imul C dX10_keep_49 ?_
  refine x_eqi (w := (25 : Int32)) (by decide) ?_
  refine x_iload_n C 0 dX10_keep_50 rfl rfl ?_
  refine x_iadd C dX10_keep_51 ?_
  refine x_eqi (w := (30 : Int32)) (by decide) ?_
  refine x_aload_n C 1 dX10_keep_52 rfl rfl ?_
  refine gfX10_47 C dX10_keep_53 k134_8 rfl ?_
  refine x_iload_n C 0 dX10_keep_56 rfl rfl ?_
  have k146_8 := (congrFun eu8 146).trans (hup_n' (by decide) (k146_7))
  refine x_ialdk C 5 k146_8 (vp_in_lit (by decide) (by decide)) (by decide) dX10_keep_57 ?_
  refine x_eqi (w := (0 : Int32)) (by decide) ?_
  have k155_8 := (congrFun eu8 155).trans (hup_s _ _ _)
  refine x_iastk C 30 k155_8 (vp_in_lit (by decide) (by decide)) (by decide) dX10_keep_58 ?_
  obtain ⟨u9, eu9⟩ : ∃ w : HpT, w = (hup u8 155 (aI G 50 (upd (upd (upd (upd (upd (upd (fun _ => 0) 25 (0 : Int32)) 26 (0 : Int32)) 27 (0 : Int32)) 28 (0 : Int32)) 29 (-1 : Int32)) 30 (0 : Int32)))) := ⟨_, rfl⟩
  refine x_heap (u2 := u9) eu9.symm ?_
  refine x_iinc C 0 [(2, .int (6 : Int32)), (0, .ref (z + 134)), (1, .int (1 : Int32))] dX10_keep_59 rfl (by decide) (by decide) rfl ?_
  refine x_goto C 36 dX10_keep_62 (by decide) ?_
  refine x_iload_n C 0 dX10_keep_36 rfl rfl ?_
  refine x_bipush (v := (25 : Int32)) C dX10_keep_37 (by decide) ?_
  refine x_icmp_ge_f C 65 dX10_keep_39 (by decide) (by decide) ?_
  refine x_aload_n C 1 dX10_keep_42 rfl rfl ?_
  have k134_9 := (congrFun eu9 134).trans (hup_n' (by decide) (k134_8))
  refine gfX10_75 C dX10_keep_43 k134_9 rfl ?_
  refine x_bipush (v := (25 : Int32)) C dX10_keep_46 (by decide) ?_
  refine x_iload_n C 2 dX10_keep_48 rfl rfl ?_
  refine x_imul C dX10_keep_49 ?_
  refine x_eqi (w := (25 : Int32)) (by decide) ?_
  refine x_iload_n C 0 dX10_keep_50 rfl rfl ?_
  refine x_iadd C dX10_keep_51 ?_
  refine x_eqi (w := (31 : Int32)) (by decide) ?_
  refine x_aload_n C 1 dX10_keep_52 rfl rfl ?_
  refine gfX10_47 C dX10_keep_53 k134_9 rfl ?_
  refine x_iload_n C 0 dX10_keep_56 rfl rfl ?_
  have k146_9 := (congrFun eu9 146).trans (hup_n' (by decide) (k146_8))
  refine x_ialdk C 6 k146_9 (vp_in_lit (by decide) (by decide)) (by decide) dX10_keep_57 ?_
  refine x_eqi (w := (-1 : Int32)) (by decide) ?_
  have k155_9 := (congrFun eu9 155).trans (hup_s _ _ _)
  refine x_iastk C 31 k155_9 (vp_in_lit (by decide) (by decide)) (by decide) dX10_keep_58 ?_
  obtain ⟨u10, eu10⟩ : ∃ w : HpT, w = (hup u9 155 (aI G 50 (upd (upd (upd (upd (upd (upd (upd (fun _ => 0) 25 (0 : Int32)) 26 (0 : Int32)) 27 (0 : Int32)) 28 (0 : Int32)) 29 (-1 : Int32)) 30 (0 : Int32)) 31 (-1 : Int32)))) := ⟨_, rfl⟩
  refine x_heap (u2 := u10) eu10.symm ?_
  refine x_iinc C 0 [(2, .int (7 : Int32)), (0, .ref (z + 134)), (1, .int (1 : Int32))] dX10_keep_59 rfl (by decide) (by decide) rfl ?_
  refine x_goto C 36 dX10_keep_62 (by decide) ?_
  refine x_iload_n C 0 dX10_keep_36 rfl rfl ?_
  refine x_bipush (v := (25 : Int32)) C dX10_keep_37 (by decide) ?_
  refine x_icmp_ge_f C 65 dX10_keep_39 (by decide) (by decide) ?_
  refine x_aload_n C 1 dX10_keep_42 rfl rfl ?_
  have k134_10 := (congrFun eu10 134).trans (hup_n' (by decide) (k134_9))
  refine gfX10_75 C dX10_keep_43 k134_10 rfl ?_
  refine x_bipush (v := (25 : Int32)) C dX10_keep_46 (by decide) ?_
  refine x_iload_n C 2 dX10_keep_48 rfl rfl ?_
  refine x_imul C dX10_keep_49 ?_
  refine x_eqi (w := (25 : Int32)) (by decide) ?_
  refine x_iload_n C 0 dX10_keep_50 rfl rfl ?_
  refine x_iadd C dX10_keep_51 ?_
  refine x_eqi (w := (32 : Int32)) (by decide) ?_
  refine x_aload_n C 1 dX10_keep_52 rfl rfl ?_
  refine gfX10_47 C dX10_keep_53 k134_10 rfl ?_
  refine x_iload_n C 0 dX10_keep_56 rfl rfl ?_
  have k146_10 := (congrFun eu10 146).trans (hup_n' (by decide) (k146_9))
  refine x_ialdk C 7 k146_10 (vp_in_lit (by decide) (by decide)) (by decide) dX10_keep_57 ?_
  refine x_eqi (w := (0 : Int32)) (by decide) ?_
  have k155_10 := (congrFun eu10 155).trans (hup_s _ _ _)
  refine x_iastk C 32 k155_10 (vp_in_lit (by decide) (by decide)) (by decide) dX10_keep_58 ?_
  obtain ⟨u11, eu11⟩ : ∃ w : HpT, w = (hup u10 155 (aI G 50 (upd (upd (upd (upd (upd (upd (upd (upd (fun _ => 0) 25 (0 : Int32)) 26 (0 : Int32)) 27 (0 : Int32)) 28 (0 : Int32)) 29 (-1 : Int32)) 30 (0 : Int32)) 31 (-1 : Int32)) 32 (0 : Int32)))) := ⟨_, rfl⟩
  refine x_heap (u2 := u11) eu11.symm ?_
  refine x_iinc C 0 [(2, .int (8 : Int32)), (0, .ref (z + 134)), (1, .int (1 : Int32))] dX10_keep_59 rfl (by decide) (by decide) rfl ?_
  refine x_goto C 36 dX10_keep_62 (by decide) ?_
  refine x_iload_n C 0 dX10_keep_36 rfl rfl ?_
  refine x_bipush (v := (25 : Int32)) C dX10_keep_37 (by decide) ?_
  refine x_icmp_ge_f C 65 dX10_keep_39 (by decide) (by decide) ?_
  refine x_aload_n C 1 dX10_keep_42 rfl rfl ?_
  have k134_11 := (congrFun eu11 134).trans (hup_n' (by decide) (k134_10))
  refine gfX10_75 C dX10_keep_43 k134_11 rfl ?_
  refine x_bipush (v := (25 : Int32)) C dX10_keep_46 (by decide) ?_
  refine x_iload_n C 2 dX10_keep_48 rfl rfl ?_
  refine x_imul C dX10_keep_49 ?_
  refine x_eqi (w := (25 : Int32)) (by decide) ?_
  refine x_iload_n C 0 dX10_keep_50 rfl rfl ?_
  refine x_iadd C dX10_keep_51 ?_
  refine x_eqi (w := (33 : Int32)) (by decide) ?_
  refine x_aload_n C 1 dX10_keep_52 rfl rfl ?_
  refine gfX10_47 C dX10_keep_53 k134_11 rfl ?_
  refine x_iload_n C 0 dX10_keep_56 rfl rfl ?_
  have k146_11 := (congrFun eu11 146).trans (hup_n' (by decide) (k146_10))
  refine x_ialdk C 8 k146_11 (vp_in_lit (by decide) (by decide)) (by decide) dX10_keep_57 ?_
  refine x_eqi (w := (0 : Int32)) (by decide) ?_
  have k155_11 := (congrFun eu11 155).trans (hup_s _ _ _)
  refine x_iastk C 33 k155_11 (vp_in_lit (by decide) (by decide)) (by decide) dX10_keep_58 ?_
  obtain ⟨u12, eu12⟩ : ∃ w : HpT, w = (hup u11 155 (aI G 50 (upd (upd (upd (upd (upd (upd (upd (upd (upd (fun _ => 0) 25 (0 : Int32)) 26 (0 : Int32)) 27 (0 : Int32)) 28 (0 : Int32)) 29 (-1 : Int32)) 30 (0 : Int32)) 31 (-1 : Int32)) 32 (0 : Int32)) 33 (0 : Int32)))) := ⟨_, rfl⟩
  refine x_heap (u2 := u12) eu12.symm ?_
  refine x_iinc C 0 [(2, .int (9 : Int32)), (0, .ref (z + 134)), (1, .int (1 : Int32))] dX10_keep_59 rfl (by decide) (by decide) rfl ?_
  refine x_goto C 36 dX10_keep_62 (by decide) ?_
  refine x_iload_n C 0 dX10_keep_36 rfl rfl ?_
  refine x_bipush (v := (25 : Int32)) C dX10_keep_37 (by decide) ?_
  refine x_icmp_ge_f C 65 dX10_keep_39 (by decide) (by decide) ?_
  refine x_aload_n C 1 dX10_keep_42 rfl rfl ?_
  have k134_12 := (congrFun eu12 134).trans (hup_n' (by decide) (k134_11))
  refine gfX10_75 C dX10_keep_43 k134_12 rfl ?_
  refine x_bipush (v := (25 : Int32)) C dX10_keep_46 (by decide) ?_
  refine x_iload_n C 2 dX10_keep_48 rfl rfl ?_
  refine x_imul C dX10_keep_49 ?_
  refine x_eqi (w := (25 : Int32)) (by decide) ?_
  refine x_iload_n C 0 dX10_keep_50 rfl rfl ?_
  refine x_iadd C dX10_keep_51 ?_
  refine x_eqi (w := (34 : Int32)) (by decide) ?_
  refine x_aload_n C 1 dX10_keep_52 rfl rfl ?_
  refine gfX10_47 C dX10_keep_53 k134_12 rfl ?_
  refine x_iload_n C 0 dX10_keep_56 rfl rfl ?_
  have k146_12 := (congrFun eu12 146).trans (hup_n' (by decide) (k146_11))
  refine x_ialdk C 9 k146_12 (vp_in_lit (by decide) (by decide)) (by decide) dX10_keep_57 ?_
  refine x_eqi (w := (0 : Int32)) (by decide) ?_
  have k155_12 := (congrFun eu12 155).trans (hup_s _ _ _)
  refine x_iastk C 34 k155_12 (vp_in_lit (by decide) (by decide)) (by decide) dX10_keep_58 ?_
  obtain ⟨u13, eu13⟩ : ∃ w : HpT, w = (hup u12 155 (aI G 50 (upd (upd (upd (upd (upd (upd (upd (upd (upd (upd (fun _ => 0) 25 (0 : Int32)) 26 (0 : Int32)) 27 (0 : Int32)) 28 (0 : Int32)) 29 (-1 : Int32)) 30 (0 : Int32)) 31 (-1 : Int32)) 32 (0 : Int32)) 33 (0 : Int32)) 34 (0 : Int32)))) := ⟨_, rfl⟩
  refine x_heap (u2 := u13) eu13.symm ?_
  refine x_iinc C 0 [(2, .int (10 : Int32)), (0, .ref (z + 134)), (1, .int (1 : Int32))] dX10_keep_59 rfl (by decide) (by decide) rfl ?_
  refine x_goto C 36 dX10_keep_62 (by decide) ?_
  refine x_iload_n C 0 dX10_keep_36 rfl rfl ?_
  refine x_bipush (v := (25 : Int32)) C dX10_keep_37 (by decide) ?_
  refine x_icmp_ge_f C 65 dX10_keep_39 (by decide) (by decide) ?_
  refine x_aload_n C 1 dX10_keep_42 rfl rfl ?_
  have k134_13 := (congrFun eu13 134).trans (hup_n' (by decide) (k134_12))
  refine gfX10_75 C dX10_keep_43 k134_13 rfl ?_
  refine x_bipush (v := (25 : Int32)) C dX10_keep_46 (by decide) ?_
  refine x_iload_n C 2 dX10_keep_48 rfl rfl ?_
  refine x_imul C dX10_keep_49 ?_
  refine x_eqi (w := (25 : Int32)) (by decide) ?_
  refine x_iload_n C 0 dX10_keep_50 rfl rfl ?_
  refine x_iadd C dX10_keep_51 ?_
  refine x_eqi (w := (35 : Int32)) (by decide) ?_
  refine x_aload_n C 1 dX10_keep_52 rfl rfl ?_
  refine gfX10_47 C dX10_keep_53 k134_13 rfl ?_
  refine x_iload_n C 0 dX10_keep_56 rfl rfl ?_
  have k146_13 := (congrFun eu13 146).trans (hup_n' (by decide) (k146_12))
  refine x_ialdk C 10 k146_13 (vp_in_lit (by decide) (by decide)) (by decide) dX10_keep_57 ?_
  refine x_eqi (w := (0 : Int32)) (by decide) ?_
  have k155_13 := (congrFun eu13 155).trans (hup_s _ _ _)
  refine x_iastk C 35 k155_13 (vp_in_lit (by decide) (by decide)) (by decide) dX10_keep_58 ?_
  obtain ⟨u14, eu14⟩ : ∃ w : HpT, w = (hup u13 155 (aI G 50 (upd (upd (upd (upd (upd (upd (upd (upd (upd (upd (upd (fun _ => 0) 25 (0 : Int32)) 26 (0 : Int32)) 27 (0 : Int32)) 28 (0 : Int32)) 29 (-1 : Int32)) 30 (0 : Int32)) 31 (-1 : Int32)) 32 (0 : Int32)) 33 (0 : Int32)) 34 (0 : Int32)) 35 (0 : Int32)))) := ⟨_, rfl⟩
  refine x_heap (u2 := u14) eu14.symm ?_
  refine x_iinc C 0 [(2, .int (11 : Int32)), (0, .ref (z + 134)), (1, .int (1 : Int32))] dX10_keep_59 rfl (by decide) (by decide) rfl ?_
  refine x_goto C 36 dX10_keep_62 (by decide) ?_
  refine x_iload_n C 0 dX10_keep_36 rfl rfl ?_
  refine x_bipush (v := (25 : Int32)) C dX10_keep_37 (by decide) ?_
  refine x_icmp_ge_f C 65 dX10_keep_39 (by decide) (by decide) ?_
  refine x_aload_n C 1 dX10_keep_42 rfl rfl ?_
  have k134_14 := (congrFun eu14 134).trans (hup_n' (by decide) (k134_13))
  refine gfX10_75 C dX10_keep_43 k134_14 rfl ?_
  refine x_bipush (v := (25 : Int32)) C dX10_keep_46 (by decide) ?_
  refine x_iload_n C 2 dX10_keep_48 rfl rfl ?_
  refine x_imul C dX10_keep_49 ?_
  refine x_eqi (w := (25 : Int32)) (by decide) ?_
  refine x_iload_n C 0 dX10_keep_50 rfl rfl ?_
  refine x_iadd C dX10_keep_51 ?_
  refine x_eqi (w := (36 : Int32)) (by decide) ?_
  refine x_aload_n C 1 dX10_keep_52 rfl rfl ?_
  refine gfX10_47 C dX10_keep_53 k134_14 rfl ?_
  refine x_iload_n C 0 dX10_keep_56 rfl rfl ?_
  have k146_14 := (congrFun eu14 146).trans (hup_n' (by decide) (k146_13))
  refine x_ialdk C 11 k146_14 (vp_in_lit (by decide) (by decide)) (by decide) dX10_keep_57 ?_
  refine x_eqi (w := (0 : Int32)) (by decide) ?_
  have k155_14 := (congrFun eu14 155).trans (hup_s _ _ _)
  refine x_iastk C 36 k155_14 (vp_in_lit (by decide) (by decide)) (by decide) dX10_keep_58 ?_
  obtain ⟨u15, eu15⟩ : ∃ w : HpT, w = (hup u14 155 (aI G 50 (upd (upd (upd (upd (upd (upd (upd (upd (upd (upd (upd (upd (fun _ => 0) 25 (0 : Int32)) 26 (0 : Int32)) 27 (0 : Int32)) 28 (0 : Int32)) 29 (-1 : Int32)) 30 (0 : Int32)) 31 (-1 : Int32)) 32 (0 : Int32)) 33 (0 : Int32)) 34 (0 : Int32)) 35 (0 : Int32)) 36 (0 : Int32)))) := ⟨_, rfl⟩
  refine x_heap (u2 := u15) eu15.symm ?_
  refine x_iinc C 0 [(2, .int (12 : Int32)), (0, .ref (z + 134)), (1, .int (1 : Int32))] dX10_keep_59 rfl (by decide) (by decide) rfl ?_
  refine x_goto C 36 dX10_keep_62 (by decide) ?_
  refine x_iload_n C 0 dX10_keep_36 rfl rfl ?_
  refine x_bipush (v := (25 : Int32)) C dX10_keep_37 (by decide) ?_
  refine x_icmp_ge_f C 65 dX10_keep_39 (by decide) (by decide) ?_
  refine x_aload_n C 1 dX10_keep_42 rfl rfl ?_
  have k134_15 := (congrFun eu15 134).trans (hup_n' (by decide) (k134_14))
  refine gfX10_75 C dX10_keep_43 k134_15 rfl ?_
  refine x_bipush (v := (25 : Int32)) C dX10_keep_46 (by decide) ?_
  refine x_iload_n C 2 dX10_keep_48 rfl rfl ?_
  refine x_imul C dX10_keep_49 ?_
  refine x_eqi (w := (25 : Int32)) (by decide) ?_
  refine x_iload_n C 0 dX10_keep_50 rfl rfl ?_
  refine x_iadd C dX10_keep_51 ?_
  refine x_eqi (w := (37 : Int32)) (by decide) ?_
  refine x_aload_n C 1 dX10_keep_52 rfl rfl ?_
  refine gfX10_47 C dX10_keep_53 k134_15 rfl ?_
  refine x_iload_n C 0 dX10_keep_56 rfl rfl ?_
  have k146_15 := (congrFun eu15 146).trans (hup_n' (by decide) (k146_14))
  refine x_ialdk C 12 k146_15 (vp_in_lit (by decide) (by decide)) (by decide) dX10_keep_57 ?_
  refine x_eqi (w := (0 : Int32)) (by decide) ?_
  have k155_15 := (congrFun eu15 155).trans (hup_s _ _ _)
  refine x_iastk C 37 k155_15 (vp_in_lit (by decide) (by decide)) (by decide) dX10_keep_58 ?_
  obtain ⟨u16, eu16⟩ : ∃ w : HpT, w = (hup u15 155 (aI G 50 (upd (upd (upd (upd (upd (upd (upd (upd (upd (upd (upd (upd (upd (fun _ => 0) 25 (0 : Int32)) 26 (0 : Int32)) 27 (0 : Int32)) 28 (0 : Int32)) 29 (-1 : Int32)) 30 (0 : Int32)) 31 (-1 : Int32)) 32 (0 : Int32)) 33 (0 : Int32)) 34 (0 : Int32)) 35 (0 : Int32)) 36 (0 : Int32)) 37 (0 : Int32)))) := ⟨_, rfl⟩
  refine x_heap (u2 := u16) eu16.symm ?_
  refine x_iinc C 0 [(2, .int (13 : Int32)), (0, .ref (z + 134)), (1, .int (1 : Int32))] dX10_keep_59 rfl (by decide) (by decide) rfl ?_
  refine x_goto C 36 dX10_keep_62 (by decide) ?_
  refine x_iload_n C 0 dX10_keep_36 rfl rfl ?_
  refine x_bipush (v := (25 : Int32)) C dX10_keep_37 (by decide) ?_
  refine x_icmp_ge_f C 65 dX10_keep_39 (by decide) (by decide) ?_
  refine x_aload_n C 1 dX10_keep_42 rfl rfl ?_
  have k134_16 := (congrFun eu16 134).trans (hup_n' (by decide) (k134_15))
  refine gfX10_75 C dX10_keep_43 k134_16 rfl ?_
  refine x_bipush (v := (25 : Int32)) C dX10_keep_46 (by decide) ?_
  refine x_iload_n C 2 dX10_keep_48 rfl rfl ?_
  refine x_imul C dX10_keep_49 ?_
  refine x_eqi (w := (25 : Int32)) (by decide) ?_
  refine x_iload_n C 0 dX10_keep_50 rfl rfl ?_
  refine x_iadd C dX10_keep_51 ?_
  refine x_eqi (w := (38 : Int32)) (by decide) ?_
  refine x_aload_n C 1 dX10_keep_52 rfl rfl ?_
  refine gfX10_47 C dX10_keep_53 k134_16 rfl ?_
  refine x_iload_n C 0 dX10_keep_56 rfl rfl ?_
  have k146_16 := (congrFun eu16 146).trans (hup_n' (by decide) (k146_15))
  refine x_ialdk C 13 k146_16 (vp_in_lit (by decide) (by decide)) (by decide) dX10_keep_57 ?_
  refine x_eqi (w := (0 : Int32)) (by decide) ?_
  have k155_16 := (congrFun eu16 155).trans (hup_s _ _ _)
  refine x_iastk C 38 k155_16 (vp_in_lit (by decide) (by decide)) (by decide) dX10_keep_58 ?_
  obtain ⟨u17, eu17⟩ : ∃ w : HpT, w = (hup u16 155 (aI G 50 (upd (upd (upd (upd (upd (upd (upd (upd (upd (upd (upd (upd (upd (upd (fun _ => 0) 25 (0 : Int32)) 26 (0 : Int32)) 27 (0 : Int32)) 28 (0 : Int32)) 29 (-1 : Int32)) 30 (0 : Int32)) 31 (-1 : Int32)) 32 (0 : Int32)) 33 (0 : Int32)) 34 (0 : Int32)) 35 (0 : Int32)) 36 (0 : Int32)) 37 (0 : Int32)) 38 (0 : Int32)))) := ⟨_, rfl⟩
  refine x_heap (u2 := u17) eu17.symm ?_
  refine x_iinc C 0 [(2, .int (14 : Int32)), (0, .ref (z + 134)), (1, .int (1 : Int32))] dX10_keep_59 rfl (by decide) (by decide) rfl ?_
  refine x_goto C 36 dX10_keep_62 (by decide) ?_
  refine x_iload_n C 0 dX10_keep_36 rfl rfl ?_
  refine x_bipush (v := (25 : Int32)) C dX10_keep_37 (by decide) ?_
  refine x_icmp_ge_f C 65 dX10_keep_39 (by decide) (by decide) ?_
  refine x_aload_n C 1 dX10_keep_42 rfl rfl ?_
  have k134_17 := (congrFun eu17 134).trans (hup_n' (by decide) (k134_16))
  refine gfX10_75 C dX10_keep_43 k134_17 rfl ?_
  refine x_bipush (v := (25 : Int32)) C dX10_keep_46 (by decide) ?_
  refine x_iload_n C 2 dX10_keep_48 rfl rfl ?_
  refine x_imul C dX10_keep_49 ?_
  refine x_eqi (w := (25 : Int32)) (by decide) ?_
  refine x_iload_n C 0 dX10_keep_50 rfl rfl ?_
  refine x_iadd C dX10_keep_51 ?_
  refine x_eqi (w := (39 : Int32)) (by decide) ?_
  refine x_aload_n C 1 dX10_keep_52 rfl rfl ?_
  refine gfX10_47 C dX10_keep_53 k134_17 rfl ?_
  refine x_iload_n C 0 dX10_keep_56 rfl rfl ?_
  have k146_17 := (congrFun eu17 146).trans (hup_n' (by decide) (k146_16))
  refine x_ialdk C 14 k146_17 (vp_in_lit (by decide) (by decide)) (by decide) dX10_keep_57 ?_
  refine x_eqi (w := (0 : Int32)) (by decide) ?_
  have k155_17 := (congrFun eu17 155).trans (hup_s _ _ _)
  refine x_iastk C 39 k155_17 (vp_in_lit (by decide) (by decide)) (by decide) dX10_keep_58 ?_
  obtain ⟨u18, eu18⟩ : ∃ w : HpT, w = (hup u17 155 (aI G 50 (upd (upd (upd (upd (upd (upd (upd (upd (upd (upd (upd (upd (upd (upd (upd (fun _ => 0) 25 (0 : Int32)) 26 (0 : Int32)) 27 (0 : Int32)) 28 (0 : Int32)) 29 (-1 : Int32)) 30 (0 : Int32)) 31 (-1 : Int32)) 32 (0 : Int32)) 33 (0 : Int32)) 34 (0 : Int32)) 35 (0 : Int32)) 36 (0 : Int32)) 37 (0 : Int32)) 38 (0 : Int32)) 39 (0 : Int32)))) := ⟨_, rfl⟩
  refine x_heap (u2 := u18) eu18.symm ?_
  refine x_iinc C 0 [(2, .int (15 : Int32)), (0, .ref (z + 134)), (1, .int (1 : Int32))] dX10_keep_59 rfl (by decide) (by decide) rfl ?_
  refine x_goto C 36 dX10_keep_62 (by decide) ?_
  refine x_iload_n C 0 dX10_keep_36 rfl rfl ?_
  refine x_bipush (v := (25 : Int32)) C dX10_keep_37 (by decide) ?_
  refine x_icmp_ge_f C 65 dX10_keep_39 (by decide) (by decide) ?_
  refine x_aload_n C 1 dX10_keep_42 rfl rfl ?_
  have k134_18 := (congrFun eu18 134).trans (hup_n' (by decide) (k134_17))
  refine gfX10_75 C dX10_keep_43 k134_18 rfl ?_
  refine x_bipush (v := (25 : Int32)) C dX10_keep_46 (by decide) ?_
  refine x_iload_n C 2 dX10_keep_48 rfl rfl ?_
  refine x_imul C dX10_keep_49 ?_
  refine x_eqi (w := (25 : Int32)) (by decide) ?_
  refine x_iload_n C 0 dX10_keep_50 rfl rfl ?_
  refine x_iadd C dX10_keep_51 ?_
  refine x_eqi (w := (40 : Int32)) (by decide) ?_
  refine x_aload_n C 1 dX10_keep_52 rfl rfl ?_
  refine gfX10_47 C dX10_keep_53 k134_18 rfl ?_
  refine x_iload_n C 0 dX10_keep_56 rfl rfl ?_
  have k146_18 := (congrFun eu18 146).trans (hup_n' (by decide) (k146_17))
  refine x_ialdk C 15 k146_18 (vp_in_lit (by decide) (by decide)) (by decide) dX10_keep_57 ?_
  refine x_eqi (w := (0 : Int32)) (by decide) ?_
  have k155_18 := (congrFun eu18 155).trans (hup_s _ _ _)
  refine x_iastk C 40 k155_18 (vp_in_lit (by decide) (by decide)) (by decide) dX10_keep_58 ?_
  obtain ⟨u19, eu19⟩ : ∃ w : HpT, w = (hup u18 155 (aI G 50 (upd (upd (upd (upd (upd (upd (upd (upd (upd (upd (upd (upd (upd (upd (upd (upd (fun _ => 0) 25 (0 : Int32)) 26 (0 : Int32)) 27 (0 : Int32)) 28 (0 : Int32)) 29 (-1 : Int32)) 30 (0 : Int32)) 31 (-1 : Int32)) 32 (0 : Int32)) 33 (0 : Int32)) 34 (0 : Int32)) 35 (0 : Int32)) 36 (0 : Int32)) 37 (0 : Int32)) 38 (0 : Int32)) 39 (0 : Int32)) 40 (0 : Int32)))) := ⟨_, rfl⟩
  refine x_heap (u2 := u19) eu19.symm ?_
  refine x_iinc C 0 [(2, .int (16 : Int32)), (0, .ref (z + 134)), (1, .int (1 : Int32))] dX10_keep_59 rfl (by decide) (by decide) rfl ?_
  refine x_goto C 36 dX10_keep_62 (by decide) ?_
  refine x_iload_n C 0 dX10_keep_36 rfl rfl ?_
  refine x_bipush (v := (25 : Int32)) C dX10_keep_37 (by decide) ?_
  refine x_icmp_ge_f C 65 dX10_keep_39 (by decide) (by decide) ?_
  refine x_aload_n C 1 dX10_keep_42 rfl rfl ?_
  have k134_19 := (congrFun eu19 134).trans (hup_n' (by decide) (k134_18))
  refine gfX10_75 C dX10_keep_43 k134_19 rfl ?_
  refine x_bipush (v := (25 : Int32)) C dX10_keep_46 (by decide) ?_
  refine x_iload_n C 2 dX10_keep_48 rfl rfl ?_
  refine x_imul C dX10_keep_49 ?_
  refine x_eqi (w := (25 : Int32)) (by decide) ?_
  refine x_iload_n C 0 dX10_keep_50 rfl rfl ?_
  refine x_iadd C dX10_keep_51 ?_
  refine x_eqi (w := (41 : Int32)) (by decide) ?_
  refine x_aload_n C 1 dX10_keep_52 rfl rfl ?_
  refine gfX10_47 C dX10_keep_53 k134_19 rfl ?_
  refine x_iload_n C 0 dX10_keep_56 rfl rfl ?_
  have k146_19 := (congrFun eu19 146).trans (hup_n' (by decide) (k146_18))
  refine x_ialdk C 16 k146_19 (vp_in_lit (by decide) (by decide)) (by decide) dX10_keep_57 ?_
  refine x_eqi (w := (0 : Int32)) (by decide) ?_
  have k155_19 := (congrFun eu19 155).trans (hup_s _ _ _)
  refine x_iastk C 41 k155_19 (vp_in_lit (by decide) (by decide)) (by decide) dX10_keep_58 ?_
  obtain ⟨u20, eu20⟩ : ∃ w : HpT, w = (hup u19 155 (aI G 50 (upd (upd (upd (upd (upd (upd (upd (upd (upd (upd (upd (upd (upd (upd (upd (upd (upd (fun _ => 0) 25 (0 : Int32)) 26 (0 : Int32)) 27 (0 : Int32)) 28 (0 : Int32)) 29 (-1 : Int32)) 30 (0 : Int32)) 31 (-1 : Int32)) 32 (0 : Int32)) 33 (0 : Int32)) 34 (0 : Int32)) 35 (0 : Int32)) 36 (0 : Int32)) 37 (0 : Int32)) 38 (0 : Int32)) 39 (0 : Int32)) 40 (0 : Int32)) 41 (0 : Int32)))) := ⟨_, rfl⟩
  refine x_heap (u2 := u20) eu20.symm ?_
  refine x_iinc C 0 [(2, .int (17 : Int32)), (0, .ref (z + 134)), (1, .int (1 : Int32))] dX10_keep_59 rfl (by decide) (by decide) rfl ?_
  refine x_goto C 36 dX10_keep_62 (by decide) ?_
  refine x_iload_n C 0 dX10_keep_36 rfl rfl ?_
  refine x_bipush (v := (25 : Int32)) C dX10_keep_37 (by decide) ?_
  refine x_icmp_ge_f C 65 dX10_keep_39 (by decide) (by decide) ?_
  refine x_aload_n C 1 dX10_keep_42 rfl rfl ?_
  have k134_20 := (congrFun eu20 134).trans (hup_n' (by decide) (k134_19))
  refine gfX10_75 C dX10_keep_43 k134_20 rfl ?_
  refine x_bipush (v := (25 : Int32)) C dX10_keep_46 (by decide) ?_
  refine x_iload_n C 2 dX10_keep_48 rfl rfl ?_
  refine x_imul C dX10_keep_49 ?_
  refine x_eqi (w := (25 : Int32)) (by decide) ?_
  refine x_iload_n C 0 dX10_keep_50 rfl rfl ?_
  refine x_iadd C dX10_keep_51 ?_
  refine x_eqi (w := (42 : Int32)) (by decide) ?_
  refine x_aload_n C 1 dX10_keep_52 rfl rfl ?_
  refine gfX10_47 C dX10_keep_53 k134_20 rfl ?_
  refine x_iload_n C 0 dX10_keep_56 rfl rfl ?_
  have k146_20 := (congrFun eu20 146).trans (hup_n' (by decide) (k146_19))
  refine x_ialdk C 17 k146_20 (vp_in_lit (by decide) (by decide)) (by decide) dX10_keep_57 ?_
  refine x_eqi (w := (0 : Int32)) (by decide) ?_
  have k155_20 := (congrFun eu20 155).trans (hup_s _ _ _)
  refine x_iastk C 42 k155_20 (vp_in_lit (by decide) (by decide)) (by decide) dX10_keep_58 ?_
  obtain ⟨u21, eu21⟩ : ∃ w : HpT, w = (hup u20 155 (aI G 50 (upd (upd (upd (upd (upd (upd (upd (upd (upd (upd (upd (upd (upd (upd (upd (upd (upd (upd (fun _ => 0) 25 (0 : Int32)) 26 (0 : Int32)) 27 (0 : Int32)) 28 (0 : Int32)) 29 (-1 : Int32)) 30 (0 : Int32)) 31 (-1 : Int32)) 32 (0 : Int32)) 33 (0 : Int32)) 34 (0 : Int32)) 35 (0 : Int32)) 36 (0 : Int32)) 37 (0 : Int32)) 38 (0 : Int32)) 39 (0 : Int32)) 40 (0 : Int32)) 41 (0 : Int32)) 42 (0 : Int32)))) := ⟨_, rfl⟩
  refine x_heap (u2 := u21) eu21.symm ?_
  refine x_iinc C 0 [(2, .int (18 : Int32)), (0, .ref (z + 134)), (1, .int (1 : Int32))] dX10_keep_59 rfl (by decide) (by decide) rfl ?_
  refine x_goto C 36 dX10_keep_62 (by decide) ?_
  refine x_iload_n C 0 dX10_keep_36 rfl rfl ?_
  refine x_bipush (v := (25 : Int32)) C dX10_keep_37 (by decide) ?_
  refine x_icmp_ge_f C 65 dX10_keep_39 (by decide) (by decide) ?_
  refine x_aload_n C 1 dX10_keep_42 rfl rfl ?_
  have k134_21 := (congrFun eu21 134).trans (hup_n' (by decide) (k134_20))
  refine gfX10_75 C dX10_keep_43 k134_21 rfl ?_
  refine x_bipush (v := (25 : Int32)) C dX10_keep_46 (by decide) ?_
  refine x_iload_n C 2 dX10_keep_48 rfl rfl ?_
  refine x_imul C dX10_keep_49 ?_
  refine x_eqi (w := (25 : Int32)) (by decide) ?_
  refine x_iload_n C 0 dX10_keep_50 rfl rfl ?_
  refine x_iadd C dX10_keep_51 ?_
  refine x_eqi (w := (43 : Int32)) (by decide) ?_
  refine x_aload_n C 1 dX10_keep_52 rfl rfl ?_
  refine gfX10_47 C dX10_keep_53 k134_21 rfl ?_
  refine x_iload_n C 0 dX10_keep_56 rfl rfl ?_
  have k146_21 := (congrFun eu21 146).trans (hup_n' (by decide) (k146_20))
  refine x_ialdk C 18 k146_21 (vp_in_lit (by decide) (by decide)) (by decide) dX10_keep_57 ?_
  refine x_eqi (w := (0 : Int32)) (by decide) ?_
  have k155_21 := (congrFun eu21 155).trans (hup_s _ _ _)
  refine x_iastk C 43 k155_21 (vp_in_lit (by decide) (by decide)) (by decide) dX10_keep_58 ?_
  obtain ⟨u22, eu22⟩ : ∃ w : HpT, w = (hup u21 155 (aI G 50 (upd (upd (upd (upd (upd (upd (upd (upd (upd (upd (upd (upd (upd (upd (upd (upd (upd (upd (upd (fun _ => 0) 25 (0 : Int32)) 26 (0 : Int32)) 27 (0 : Int32)) 28 (0 : Int32)) 29 (-1 : Int32)) 30 (0 : Int32)) 31 (-1 : Int32)) 32 (0 : Int32)) 33 (0 : Int32)) 34 (0 : Int32)) 35 (0 : Int32)) 36 (0 : Int32)) 37 (0 : Int32)) 38 (0 : Int32)) 39 (0 : Int32)) 40 (0 : Int32)) 41 (0 : Int32)) 42 (0 : Int32)) 43 (0 : Int32)))) := ⟨_, rfl⟩
  refine x_heap (u2 := u22) eu22.symm ?_
  refine x_iinc C 0 [(2, .int (19 : Int32)), (0, .ref (z + 134)), (1, .int (1 : Int32))] dX10_keep_59 rfl (by decide) (by decide) rfl ?_
  refine x_goto C 36 dX10_keep_62 (by decide) ?_
  refine x_iload_n C 0 dX10_keep_36 rfl rfl ?_
  refine x_bipush (v := (25 : Int32)) C dX10_keep_37 (by decide) ?_
  refine x_icmp_ge_f C 65 dX10_keep_39 (by decide) (by decide) ?_
  refine x_aload_n C 1 dX10_keep_42 rfl rfl ?_
  have k134_22 := (congrFun eu22 134).trans (hup_n' (by decide) (k134_21))
  refine gfX10_75 C dX10_keep_43 k134_22 rfl ?_
  refine x_bipush (v := (25 : Int32)) C dX10_keep_46 (by decide) ?_
  refine x_iload_n C 2 dX10_keep_48 rfl rfl ?_
  refine x_imul C dX10_keep_49 ?_
  refine x_eqi (w := (25 : Int32)) (by decide) ?_
  refine x_iload_n C 0 dX10_keep_50 rfl rfl ?_
  refine x_iadd C dX10_keep_51 ?_
  refine x_eqi (w := (44 : Int32)) (by decide) ?_
  refine x_aload_n C 1 dX10_keep_52 rfl rfl ?_
  refine gfX10_47 C dX10_keep_53 k134_22 rfl ?_
  refine x_iload_n C 0 dX10_keep_56 rfl rfl ?_
  have k146_22 := (congrFun eu22 146).trans (hup_n' (by decide) (k146_21))
  refine x_ialdk C 19 k146_22 (vp_in_lit (by decide) (by decide)) (by decide) dX10_keep_57 ?_
  refine x_eqi (w := (0 : Int32)) (by decide) ?_
  have k155_22 := (congrFun eu22 155).trans (hup_s _ _ _)
  refine x_iastk C 44 k155_22 (vp_in_lit (by decide) (by decide)) (by decide) dX10_keep_58 ?_
  obtain ⟨u23, eu23⟩ : ∃ w : HpT, w = (hup u22 155 (aI G 50 (upd (upd (upd (upd (upd (upd (upd (upd (upd (upd (upd (upd (upd (upd (upd (upd (upd (upd (upd (upd (fun _ => 0) 25 (0 : Int32)) 26 (0 : Int32)) 27 (0 : Int32)) 28 (0 : Int32)) 29 (-1 : Int32)) 30 (0 : Int32)) 31 (-1 : Int32)) 32 (0 : Int32)) 33 (0 : Int32)) 34 (0 : Int32)) 35 (0 : Int32)) 36 (0 : Int32)) 37 (0 : Int32)) 38 (0 : Int32)) 39 (0 : Int32)) 40 (0 : Int32)) 41 (0 : Int32)) 42 (0 : Int32)) 43 (0 : Int32)) 44 (0 : Int32)))) := ⟨_, rfl⟩
  refine x_heap (u2 := u23) eu23.symm ?_
  refine x_iinc C 0 [(2, .int (20 : Int32)), (0, .ref (z + 134)), (1, .int (1 : Int32))] dX10_keep_59 rfl (by decide) (by decide) rfl ?_
  refine x_goto C 36 dX10_keep_62 (by decide) ?_
  refine x_iload_n C 0 dX10_keep_36 rfl rfl ?_
  refine x_bipush (v := (25 : Int32)) C dX10_keep_37 (by decide) ?_
  refine x_icmp_ge_f C 65 dX10_keep_39 (by decide) (by decide) ?_
  refine x_aload_n C 1 dX10_keep_42 rfl rfl ?_
  have k134_23 := (congrFun eu23 134).trans (hup_n' (by decide) (k134_22))
  refine gfX10_75 C dX10_keep_43 k134_23 rfl ?_
  refine x_bipush (v := (25 : Int32)) C dX10_keep_46 (by decide) ?_
  refine x_iload_n C 2 dX10_keep_48 rfl rfl ?_
  refine x_imul C dX10_keep_49 ?_
  refine x_eqi (w := (25 : Int32)) (by decide) ?_
  refine x_iload_n C 0 dX10_keep_50 rfl rfl ?_
  refine x_iadd C dX10_keep_51 ?_
  refine x_eqi (w := (45 : Int32)) (by decide) ?_
  refine x_aload_n C 1 dX10_keep_52 rfl rfl ?_
  refine gfX10_47 C dX10_keep_53 k134_23 rfl ?_
  refine x_iload_n C 0 dX10_keep_56 rfl rfl ?_
  have k146_23 := (congrFun eu23 146).trans (hup_n' (by decide) (k146_22))
  refine x_ialdk C 20 k146_23 (vp_in_lit (by decide) (by decide)) (by decide) dX10_keep_57 ?_
  refine x_eqi (w := (0 : Int32)) (by decide) ?_
  have k155_23 := (congrFun eu23 155).trans (hup_s _ _ _)
  refine x_iastk C 45 k155_23 (vp_in_lit (by decide) (by decide)) (by decide) dX10_keep_58 ?_
  obtain ⟨u24, eu24⟩ : ∃ w : HpT, w = (hup u23 155 (aI G 50 (upd (upd (upd (upd (upd (upd (upd (upd (upd (upd (upd (upd (upd (upd (upd (upd (upd (upd (upd (upd (upd (fun _ => 0) 25 (0 : Int32)) 26 (0 : Int32)) 27 (0 : Int32)) 28 (0 : Int32)) 29 (-1 : Int32)) 30 (0 : Int32)) 31 (-1 : Int32)) 32 (0 : Int32)) 33 (0 : Int32)) 34 (0 : Int32)) 35 (0 : Int32)) 36 (0 : Int32)) 37 (0 : Int32)) 38 (0 : Int32)) 39 (0 : Int32)) 40 (0 : Int32)) 41 (0 : Int32)) 42 (0 : Int32)) 43 (0 : Int32)) 44 (0 : Int32)) 45 (0 : Int32)))) := ⟨_, rfl⟩
  refine x_heap (u2 := u24) eu24.symm ?_
  refine x_iinc C 0 [(2, .int (21 : Int32)), (0, .ref (z + 134)), (1, .int (1 : Int32))] dX10_keep_59 rfl (by decide) (by decide) rfl ?_
  refine x_goto C 36 dX10_keep_62 (by decide) ?_
  refine x_iload_n C 0 dX10_keep_36 rfl rfl ?_
  refine x_bipush (v := (25 : Int32)) C dX10_keep_37 (by decide) ?_
  refine x_icmp_ge_f C 65 dX10_keep_39 (by decide) (by decide) ?_
  refine x_aload_n C 1 dX10_keep_42 rfl rfl ?_
  have k134_24 := (congrFun eu24 134).trans (hup_n' (by decide) (k134_23))
  refine gfX10_75 C dX10_keep_43 k134_24 rfl ?_
  refine x_bipush (v := (25 : Int32)) C dX10_keep_46 (by decide) ?_
  refine x_iload_n C 2 dX10_keep_48 rfl rfl ?_
  refine x_imul C dX10_keep_49 ?_
  refine x_eqi (w := (25 : Int32)) (by decide) ?_
  refine x_iload_n C 0 dX10_keep_50 rfl rfl ?_
  refine x_iadd C dX10_keep_51 ?_
  refine x_eqi (w := (46 : Int32)) (by decide) ?_
  refine x_aload_n C 1 dX10_keep_52 rfl rfl ?_
  refine gfX10_47 C dX10_keep_53 k134_24 rfl ?_
  refine x_iload_n C 0 dX10_keep_56 rfl rfl ?_
  have k146_24 := (congrFun eu24 146).trans (hup_n' (by decide) (k146_23))
  refine x_ialdk C 21 k146_24 (vp_in_lit (by decide) (by decide)) (by decide) dX10_keep_57 ?_
  refine x_eqi (w := (0 : Int32)) (by decide) ?_
  have k155_24 := (congrFun eu24 155).trans (hup_s _ _ _)
  refine x_iastk C 46 k155_24 (vp_in_lit (by decide) (by decide)) (by decide) dX10_keep_58 ?_
  obtain ⟨u25, eu25⟩ : ∃ w : HpT, w = (hup u24 155 (aI G 50 (upd (upd (upd (upd (upd (upd (upd (upd (upd (upd (upd (upd (upd (upd (upd (upd (upd (upd (upd (upd (upd (upd (fun _ => 0) 25 (0 : Int32)) 26 (0 : Int32)) 27 (0 : Int32)) 28 (0 : Int32)) 29 (-1 : Int32)) 30 (0 : Int32)) 31 (-1 : Int32)) 32 (0 : Int32)) 33 (0 : Int32)) 34 (0 : Int32)) 35 (0 : Int32)) 36 (0 : Int32)) 37 (0 : Int32)) 38 (0 : Int32)) 39 (0 : Int32)) 40 (0 : Int32)) 41 (0 : Int32)) 42 (0 : Int32)) 43 (0 : Int32)) 44 (0 : Int32)) 45 (0 : Int32)) 46 (0 : Int32)))) := ⟨_, rfl⟩
  refine x_heap (u2 := u25) eu25.symm ?_
  refine x_iinc C 0 [(2, .int (22 : Int32)), (0, .ref (z + 134)), (1, .int (1 : Int32))] dX10_keep_59 rfl (by decide) (by decide) rfl ?_
  refine x_goto C 36 dX10_keep_62 (by decide) ?_
  refine x_iload_n C 0 dX10_keep_36 rfl rfl ?_
  refine x_bipush (v := (25 : Int32)) C dX10_keep_37 (by decide) ?_
  refine x_icmp_ge_f C 65 dX10_keep_39 (by decide) (by decide) ?_
  refine x_aload_n C 1 dX10_keep_42 rfl rfl ?_
  have k134_25 := (congrFun eu25 134).trans (hup_n' (by decide) (k134_24))
  refine gfX10_75 C dX10_keep_43 k134_25 rfl ?_
  refine x_bipush (v := (25 : Int32)) C dX10_keep_46 (by decide) ?_
  refine x_iload_n C 2 dX10_keep_48 rfl rfl ?_
  refine x_imul C dX10_keep_49 ?_
  refine x_eqi (w := (25 : Int32)) (by decide) ?_
  refine x_iload_n C 0 dX10_keep_50 rfl rfl ?_
  refine x_iadd C dX10_keep_51 ?_
  refine x_eqi (w := (47 : Int32)) (by decide) ?_
  refine x_aload_n C 1 dX10_keep_52 rfl rfl ?_
  refine gfX10_47 C dX10_keep_53 k134_25 rfl ?_
  refine x_iload_n C 0 dX10_keep_56 rfl rfl ?_
  have k146_25 := (congrFun eu25 146).trans (hup_n' (by decide) (k146_24))
  refine x_ialdk C 22 k146_25 (vp_in_lit (by decide) (by decide)) (by decide) dX10_keep_57 ?_
  refine x_eqi (w := (0 : Int32)) (by decide) ?_
  have k155_25 := (congrFun eu25 155).trans (hup_s _ _ _)
  refine x_iastk C 47 k155_25 (vp_in_lit (by decide) (by decide)) (by decide) dX10_keep_58 ?_
  obtain ⟨u26, eu26⟩ : ∃ w : HpT, w = (hup u25 155 (aI G 50 (upd (upd (upd (upd (upd (upd (upd (upd (upd (upd (upd (upd (upd (upd (upd (upd (upd (upd (upd (upd (upd (upd (upd (fun _ => 0) 25 (0 : Int32)) 26 (0 : Int32)) 27 (0 : Int32)) 28 (0 : Int32)) 29 (-1 : Int32)) 30 (0 : Int32)) 31 (-1 : Int32)) 32 (0 : Int32)) 33 (0 : Int32)) 34 (0 : Int32)) 35 (0 : Int32)) 36 (0 : Int32)) 37 (0 : Int32)) 38 (0 : Int32)) 39 (0 : Int32)) 40 (0 : Int32)) 41 (0 : Int32)) 42 (0 : Int32)) 43 (0 : Int32)) 44 (0 : Int32)) 45 (0 : Int32)) 46 (0 : Int32)) 47 (0 : Int32)))) := ⟨_, rfl⟩
  refine x_heap (u2 := u26) eu26.symm ?_
  refine x_iinc C 0 [(2, .int (23 : Int32)), (0, .ref (z + 134)), (1, .int (1 : Int32))] dX10_keep_59 rfl (by decide) (by decide) rfl ?_
  refine x_goto C 36 dX10_keep_62 (by decide) ?_
  refine x_iload_n C 0 dX10_keep_36 rfl rfl ?_
  refine x_bipush (v := (25 : Int32)) C dX10_keep_37 (by decide) ?_
  refine x_icmp_ge_f C 65 dX10_keep_39 (by decide) (by decide) ?_
  refine x_aload_n C 1 dX10_keep_42 rfl rfl ?_
  have k134_26 := (congrFun eu26 134).trans (hup_n' (by decide) (k134_25))
  refine gfX10_75 C dX10_keep_43 k134_26 rfl ?_
  refine x_bipush (v := (25 : Int32)) C dX10_keep_46 (by decide) ?_
  refine x_iload_n C 2 dX10_keep_48 rfl rfl ?_
  refine x_imul C dX10_keep_49 ?_
  refine x_eqi (w := (25 : Int32)) (by decide) ?_
  refine x_iload_n C 0 dX10_keep_50 rfl rfl ?_
  refine x_iadd C dX10_keep_51 ?_
  refine x_eqi (w := (48 : Int32)) (by decide) ?_
  refine x_aload_n C 1 dX10_keep_52 rfl rfl ?_
  refine gfX10_47 C dX10_keep_53 k134_26 rfl ?_
  refine x_iload_n C 0 dX10_keep_56 rfl rfl ?_
  have k146_26 := (congrFun eu26 146).trans (hup_n' (by decide) (k146_25))
  refine x_ialdk C 23 k146_26 (vp_in_lit (by decide) (by decide)) (by decide) dX10_keep_57 ?_
  refine x_eqi (w := (0 : Int32)) (by decide) ?_
  have k155_26 := (congrFun eu26 155).trans (hup_s _ _ _)
  refine x_iastk C 48 k155_26 (vp_in_lit (by decide) (by decide)) (by decide) dX10_keep_58 ?_
  obtain ⟨u27, eu27⟩ : ∃ w : HpT, w = (hup u26 155 (aI G 50 (upd (upd (upd (upd (upd (upd (upd (upd (upd (upd (upd (upd (upd (upd (upd (upd (upd (upd (upd (upd (upd (upd (upd (upd (fun _ => 0) 25 (0 : Int32)) 26 (0 : Int32)) 27 (0 : Int32)) 28 (0 : Int32)) 29 (-1 : Int32)) 30 (0 : Int32)) 31 (-1 : Int32)) 32 (0 : Int32)) 33 (0 : Int32)) 34 (0 : Int32)) 35 (0 : Int32)) 36 (0 : Int32)) 37 (0 : Int32)) 38 (0 : Int32)) 39 (0 : Int32)) 40 (0 : Int32)) 41 (0 : Int32)) 42 (0 : Int32)) 43 (0 : Int32)) 44 (0 : Int32)) 45 (0 : Int32)) 46 (0 : Int32)) 47 (0 : Int32)) 48 (0 : Int32)))) := ⟨_, rfl⟩
  refine x_heap (u2 := u27) eu27.symm ?_
  refine x_iinc C 0 [(2, .int (24 : Int32)), (0, .ref (z + 134)), (1, .int (1 : Int32))] dX10_keep_59 rfl (by decide) (by decide) rfl ?_
  refine x_goto C 36 dX10_keep_62 (by decide) ?_
  refine x_iload_n C 0 dX10_keep_36 rfl rfl ?_
  refine x_bipush (v := (25 : Int32)) C dX10_keep_37 (by decide) ?_
  refine x_icmp_ge_f C 65 dX10_keep_39 (by decide) (by decide) ?_
  refine x_aload_n C 1 dX10_keep_42 rfl rfl ?_
  have k134_27 := (congrFun eu27 134).trans (hup_n' (by decide) (k134_26))
  refine gfX10_75 C dX10_keep_43 k134_27 rfl ?_
  refine x_bipush (v := (25 : Int32)) C dX10_keep_46 (by decide) ?_
  refine x_iload_n C 2 dX10_keep_48 rfl rfl ?_
  refine x_imul C dX10_keep_49 ?_
  refine x_eqi (w := (25 : Int32)) (by decide) ?_
  refine x_iload_n C 0 dX10_keep_50 rfl rfl ?_
  refine x_iadd C dX10_keep_51 ?_
  refine x_eqi (w := (49 : Int32)) (by decide) ?_
  refine x_aload_n C 1 dX10_keep_52 rfl rfl ?_
  refine gfX10_47 C dX10_keep_53 k134_27 rfl ?_
  refine x_iload_n C 0 dX10_keep_56 rfl rfl ?_
  have k146_27 := (congrFun eu27 146).trans (hup_n' (by decide) (k146_26))
  refine x_ialdk C 24 k146_27 (vp_in_lit (by decide) (by decide)) (by decide) dX10_keep_57 ?_
  refine x_eqi (w := (0 : Int32)) (by decide) ?_
  have k155_27 := (congrFun eu27 155).trans (hup_s _ _ _)
  refine x_iastk C 49 k155_27 (vp_in_lit (by decide) (by decide)) (by decide) dX10_keep_58 ?_
  obtain ⟨u28, eu28⟩ : ∃ w : HpT, w = (hup u27 155 (aI G 50 (upd (upd (upd (upd (upd (upd (upd (upd (upd (upd (upd (upd (upd (upd (upd (upd (upd (upd (upd (upd (upd (upd (upd (upd (upd (fun _ => 0) 25 (0 : Int32)) 26 (0 : Int32)) 27 (0 : Int32)) 28 (0 : Int32)) 29 (-1 : Int32)) 30 (0 : Int32)) 31 (-1 : Int32)) 32 (0 : Int32)) 33 (0 : Int32)) 34 (0 : Int32)) 35 (0 : Int32)) 36 (0 : Int32)) 37 (0 : Int32)) 38 (0 : Int32)) 39 (0 : Int32)) 40 (0 : Int32)) 41 (0 : Int32)) 42 (0 : Int32)) 43 (0 : Int32)) 44 (0 : Int32)) 45 (0 : Int32)) 46 (0 : Int32)) 47 (0 : Int32)) 48 (0 : Int32)) 49 (0 : Int32)))) := ⟨_, rfl⟩
  refine x_heap (u2 := u28) eu28.symm ?_
  refine x_iinc C 0 [(2, .int (25 : Int32)), (0, .ref (z + 134)), (1, .int (1 : Int32))] dX10_keep_59 rfl (by decide) (by decide) rfl ?_
  refine x_goto C 36 dX10_keep_62 (by decide) ?_
  refine x_iload_n C 0 dX10_keep_36 rfl rfl ?_
  refine x_bipush (v := (25 : Int32)) C dX10_keep_37 (by decide) ?_
  refine x_icmp_ge_t C 65 dX10_keep_39 (by decide) (by decide) ?_
  refine x_iconst (v := (1 : Int32)) C dX10_keep_65 (by decide) ?_
  exact x_iret C hr hlk (Nat.le_of_ble_eq_true rfl) (Nat.le_of_ble_eq_true rfl) dX10_keep_66 rfl (by rw [eu28, eu27, eu26, eu25, eu24, eu23, eu22, eu21, eu20, eu19, eu18, eu17, eu16, eu15, eu14, eu13, eu12, eu11, eu10, eu9, eu8, eu7, eu6, eu5, eu4, eu3, eu2, eu1]; simp only [hup_hup, hup_sk, ne_eq, Nat.reduceEqDiff, not_false_eq_true]) rfl
set_option maxRecDepth 20000 in
theorem p_X9_keep_3 {G : GT} {l : Launch} {z n : Nat} (u : HpT) (va : Int32) (hl_va : 2 ≤ va.toInt) (hh_va : va.toInt ≤ 2147483647) (h0 : u 0 = some (.inr (8, [.ref (z + 1), .ref (z + 3), .ref (z + 6), .ref (z + 98), .ref (z + 99), .ref (z + 101), .ref (z + 106), .ref (z + 109), .ref (z + 112), .ref (z + 119), .int (0 : Int32), .int (-1 : Int32)]))) (h98 : u 98 = some (aM G 2 (va_up (va_up (fun _ => none) 0 (some (z + 126))) 1 (some (z + 130))))) : Mt G l z yX9_keep cX9_keep 3 (some .int) { frames := 0, cells := 0, slots := 0, locals := 0 } [.ref (z + 0), .int va] u n (some (.int (-1000000001 : Int32))) u n := by
  refine mt_of (by decide +kernel) (Nat.le_of_ble_eq_true rfl) ?_
  intro p e s m below meth c C hr hlk hnm
  refine x_iload_n C 1 dX9_keep_0 rfl rfl ?_
  refine x_if_lt_f C 13 dX9_keep_1 (by decide) (by simp only [Int32.lt_iff_toInt_lt, Int32.le_iff_toInt_le, i_eq_iff]; have e9 : (0 : Int32).toInt = 0 := (by decide); omega) ?_
  refine x_iload_n C 1 dX9_keep_4 rfl rfl ?_
  refine x_aload_n C 0 dX9_keep_5 rfl rfl ?_
  refine gfX9_32 C dX9_keep_6 h0 rfl ?_
  refine x_alen (v := (2 : Int32)) C 4 h98 rfl rfl dX9_keep_9 ?_
  refine x_icmp_lt_f C 16 dX9_keep_10 (by decide) (by simp only [Int32.lt_iff_toInt_lt, Int32.le_iff_toInt_le, i_eq_iff]; have e9 : (2 : Int32).toInt = 2 := (by decide); omega) ?_
  refine x_ldc C kcX9_179 dX9_keep_13 ?_
  exact x_iret C hr hlk (Nat.le_of_ble_eq_true rfl) (Nat.le_of_ble_eq_true rfl) dX9_keep_15 rfl rfl rfl
set_option maxRecDepth 20000 in
theorem p_X10_keep_3 {G : GT} {l : Launch} {z n : Nat} (u : HpT) (va : Int32) (hl_va : 2 ≤ va.toInt) (hh_va : va.toInt ≤ 2147483647) : Mt G l z yX10_keep cX10_keep 3 (some .int) { frames := 1, cells := 0, slots := 0, locals := 22 } [.ref (z + 134), .int va] u n (some (.int (-1000000001 : Int32))) u n := by
  refine mt_of (by decide +kernel) (Nat.le_of_ble_eq_true rfl) ?_
  intro p e s m below meth c C hr hlk hnm
  refine x_iload_n C 1 dX10_keep_0 rfl rfl ?_
  refine x_iconst (v := (0 : Int32)) C dX10_keep_1 (by decide) ?_
  refine x_iconst (v := (1 : Int32)) C dX10_keep_2 (by decide) ?_
  refine x_callS C cl_X10_in kmX10_82 (As := [.int va, .int (0 : Int32), .int (1 : Int32)]) (rest := []) (p_X10_in_14 u va hl_va hh_va) rfl rfl (Nat.le_of_ble_eq_true rfl) ⟨Nat.le_of_ble_eq_true rfl, Nat.le_of_ble_eq_true rfl⟩ ⟨Nat.le_of_ble_eq_true rfl, Nat.le_of_ble_eq_true rfl⟩ dX10_keep_3 ?_
  refine x_norm (st2 := [.int (0 : Int32)]) (kc2 := 0) (ks2 := 0) rfl rfl rfl rfl rfl ?_
  refine x_if_ne_f C 12 dX10_keep_6 (by decide) (by decide) ?_
  refine x_ldc C kcX10_193 dX10_keep_9 ?_
  exact x_iret C hr hlk (Nat.le_of_ble_eq_true rfl) (Nat.le_of_ble_eq_true rfl) dX10_keep_11 rfl rfl rfl
set_option maxRecDepth 20000 in
theorem p_X9_goBack_0 {G : GT} {l : Launch} {z n : Nat} (u : HpT) (va : Int32) (hl_va : -2147483648 ≤ va.toInt) (hh_va : va.toInt ≤ -1) : Mt G l z yX9_goBack cX9_goBack 3 (some .int) { frames := 0, cells := 0, slots := 0, locals := 0 } [.ref (z + 0), .int va] u n (some (.int (-1000000001 : Int32))) u n := by
  refine mt_of (by decide +kernel) (Nat.le_of_ble_eq_true rfl) ?_
  intro p e s m below meth c C hr hlk hnm
  refine x_iload_n C 1 dX9_goBack_0 rfl rfl ?_
  refine x_if_lt_t C 13 dX9_goBack_1 (by decide) (by simp only [Int32.lt_iff_toInt_lt, Int32.le_iff_toInt_le, i_eq_iff]; have e9 : (0 : Int32).toInt = 0 := (by decide); omega) ?_
  refine x_ldc C kcX9_179 dX9_goBack_13 ?_
  exact x_iret C hr hlk (Nat.le_of_ble_eq_true rfl) (Nat.le_of_ble_eq_true rfl) dX9_goBack_15 rfl rfl rfl
set_option maxRecDepth 20000 in
theorem p_X10_goBack_0 {G : GT} {l : Launch} {z n : Nat} (u : HpT) (va : Int32) (hl_va : -2147483648 ≤ va.toInt) (hh_va : va.toInt ≤ -1) : Mt G l z yX10_goBack cX10_goBack 3 (some .int) { frames := 1, cells := 0, slots := 0, locals := 22 } [.ref (z + 134), .int va] u n (some (.int (-1000000001 : Int32))) u n := by
  refine mt_of (by decide +kernel) (Nat.le_of_ble_eq_true rfl) ?_
  intro p e s m below meth c C hr hlk hnm
  refine x_iload_n C 1 dX10_goBack_0 rfl rfl ?_
  refine x_iconst (v := (0 : Int32)) C dX10_goBack_1 (by decide) ?_
  refine x_iconst (v := (1 : Int32)) C dX10_goBack_2 (by decide) ?_
  refine x_callS C cl_X10_in kmX10_82 (As := [.int va, .int (0 : Int32), .int (1 : Int32)]) (rest := []) (p_X10_in_11 u va hl_va hh_va) rfl rfl (Nat.le_of_ble_eq_true rfl) ⟨Nat.le_of_ble_eq_true rfl, Nat.le_of_ble_eq_true rfl⟩ ⟨Nat.le_of_ble_eq_true rfl, Nat.le_of_ble_eq_true rfl⟩ dX10_goBack_3 ?_
  refine x_norm (st2 := [.int (0 : Int32)]) (kc2 := 0) (ks2 := 0) rfl rfl rfl rfl rfl ?_
  refine x_if_ne_f C 12 dX10_goBack_6 (by decide) (by decide) ?_
  refine x_ldc C kcX10_193 dX10_goBack_9 ?_
  exact x_iret C hr hlk (Nat.le_of_ble_eq_true rfl) (Nat.le_of_ble_eq_true rfl) dX10_goBack_11 rfl rfl rfl
set_option maxRecDepth 20000 in
theorem p_X9_goBack_1 {G : GT} {l : Launch} {z n : Nat} (u : HpT) (h0 : u 0 = some (.inr (8, [.ref (z + 1), .ref (z + 3), .ref (z + 6), .ref (z + 98), .ref (z + 99), .ref (z + 101), .ref (z + 106), .ref (z + 109), .ref (z + 112), .ref (z + 119), .int (0 : Int32), .int (-1 : Int32)]))) (h98 : u 98 = some (aM G 2 (va_up (va_up (fun _ => none) 0 (some (z + 126))) 1 (some (z + 130))))) (h126 : u 126 = some (.inr (3, [.ref (z + 127), .int (0 : Int32), .int (0 : Int32)]))) : Mt G l z yX9_goBack cX9_goBack 3 (some .int) { frames := 0, cells := 0, slots := 0, locals := 0 } [.ref (z + 0), .int (0 : Int32)] u n (some (.int (-1000000003 : Int32))) u n := by
  refine mt_of (by decide +kernel) (Nat.le_of_ble_eq_true rfl) ?_
  intro p e s m below meth c C hr hlk hnm
  refine x_iload_n C 1 dX9_goBack_0 rfl rfl ?_
  refine x_if_lt_f C 13 dX9_goBack_1 (by decide) (by decide) ?_
  refine x_iload_n C 1 dX9_goBack_4 rfl rfl ?_
  refine x_aload_n C 0 dX9_goBack_5 rfl rfl ?_
  refine gfX9_32 C dX9_goBack_6 h0 rfl ?_
  refine x_alen (v := (2 : Int32)) C 4 h98 rfl rfl dX9_goBack_9 ?_
  refine x_icmp_lt_t C 16 dX9_goBack_10 (by decide) (by decide) ?_
  refine x_aload_n C 0 dX9_goBack_16 rfl rfl ?_
  refine gfX9_32 C dX9_goBack_17 h0 rfl ?_
  refine x_iload_n C 1 dX9_goBack_20 rfl rfl ?_
  refine x_aaldM (y := z + 126) C h98 (vp_in_lit (by decide) (by decide)) rfl dX9_goBack_21 ?_
  refine x_astore_n C [(2, .ref (z + 126)), (0, .ref (z + 0)), (1, .int (0 : Int32))] dX9_goBack_22 rfl (by decide) rfl ?_
  refine x_aload_n C 0 dX9_goBack_23 rfl rfl ?_
  refine gfX9_113 C dX9_goBack_24 h126 rfl ?_
  refine x_if_ne_f C 33 dX9_goBack_27 (by decide) (by decide) ?_
  refine x_ldc C kcX9_221 dX9_goBack_30 ?_
  exact x_iret C hr hlk (Nat.le_of_ble_eq_true rfl) (Nat.le_of_ble_eq_true rfl) dX9_goBack_32 rfl rfl rfl
set_option maxRecDepth 20000 in
theorem p_X10_goBack_1 {G : GT} {l : Launch} {z n : Nat} (u : HpT) (h134 : u 134 = some (.inr (9, [.int (0 : Int32), .ref (z + 135), .int (0 : Int32), .int (0 : Int32), .int (0 : Int32), .int (-1 : Int32), .int (0 : Int32), .int (0 : Int32), .int (0 : Int32), .int (0 : Int32), .ref (z + 136), .ref (z + 137), .ref (z + 138), .ref (z + 139), .ref (z + 140), .int (0 : Int32), .int (0 : Int32), .int (0 : Int32), .int (0 : Int32), .ref (z + 141), .ref (z + 142), .ref (z + 143), .ref (z + 144), .ref (z + 145), .ref (z + 146), .int (0 : Int32), .int (0 : Int32), .ref (z + 147), .long (0 : Int64), .ref (z + 148), .int (0 : Int32), .int (0 : Int32), .int (0 : Int32), .ref (z + 149), .int (0 : Int32), .ref (z + 150), .ref (z + 151), .int (0 : Int32), .ref (z + 152), .ref (z + 153), .ref (z + 154), .ref (z + 155), .ref (z + 156)]))) (h154 : u 154 = some (aZ G 2 (fun _ => 0))) : Mt G l z yX10_goBack cX10_goBack 3 (some .int) { frames := 1, cells := 0, slots := 0, locals := 22 } [.ref (z + 134), .int (0 : Int32)] u n (some (.int (-1000000003 : Int32))) u n := by
  refine mt_of (by decide +kernel) (Nat.le_of_ble_eq_true rfl) ?_
  intro p e s m below meth c C hr hlk hnm
  refine x_iload_n C 1 dX10_goBack_0 rfl rfl ?_
  refine x_iconst (v := (0 : Int32)) C dX10_goBack_1 (by decide) ?_
  refine x_iconst (v := (1 : Int32)) C dX10_goBack_2 (by decide) ?_
  refine x_callS C cl_X10_in kmX10_82 (As := [.int (0 : Int32), .int (0 : Int32), .int (1 : Int32)]) (rest := []) (p_X10_in_12 u) rfl rfl (Nat.le_of_ble_eq_true rfl) ⟨Nat.le_of_ble_eq_true rfl, Nat.le_of_ble_eq_true rfl⟩ ⟨Nat.le_of_ble_eq_true rfl, Nat.le_of_ble_eq_true rfl⟩ dX10_goBack_3 ?_
  refine x_norm (st2 := [.int (1 : Int32)]) (kc2 := 0) (ks2 := 0) rfl rfl rfl rfl rfl ?_
  refine x_if_ne_t C 12 dX10_goBack_6 (by decide) (by decide) ?_
  refine x_aload_n C 0 dX10_goBack_12 rfl rfl ?_
  refine gfX10_71 C dX10_goBack_13 h134 rfl ?_
  refine x_iload_n C 1 dX10_goBack_16 rfl rfl ?_
  refine x_zaldk C 0 h154 (vp_in_lit (by decide) (by decide)) (by decide) dX10_goBack_17 ?_
  refine x_eqi (w := (0 : Int32)) (by decide) ?_
  refine x_if_ne_f C 24 dX10_goBack_18 (by decide) (by decide) ?_
  refine x_ldc C kcX10_215 dX10_goBack_21 ?_
  exact x_iret C hr hlk (Nat.le_of_ble_eq_true rfl) (Nat.le_of_ble_eq_true rfl) dX10_goBack_23 rfl rfl rfl
set_option maxRecDepth 20000 in
theorem p_X9_goBack_2 {G : GT} {l : Launch} {z n : Nat} (u : HpT) (h0 : u 0 = some (.inr (8, [.ref (z + 1), .ref (z + 3), .ref (z + 6), .ref (z + 98), .ref (z + 99), .ref (z + 101), .ref (z + 106), .ref (z + 109), .ref (z + 112), .ref (z + 119), .int (0 : Int32), .int (-1 : Int32)]))) (h98 : u 98 = some (aM G 2 (va_up (va_up (fun _ => none) 0 (some (z + 126))) 1 (some (z + 130))))) (h130 : u 130 = some (.inr (3, [.ref (z + 131), .int (0 : Int32), .int (0 : Int32)]))) : Mt G l z yX9_goBack cX9_goBack 3 (some .int) { frames := 0, cells := 0, slots := 0, locals := 0 } [.ref (z + 0), .int (1 : Int32)] u n (some (.int (-1000000003 : Int32))) u n := by
  refine mt_of (by decide +kernel) (Nat.le_of_ble_eq_true rfl) ?_
  intro p e s m below meth c C hr hlk hnm
  refine x_iload_n C 1 dX9_goBack_0 rfl rfl ?_
  refine x_if_lt_f C 13 dX9_goBack_1 (by decide) (by decide) ?_
  refine x_iload_n C 1 dX9_goBack_4 rfl rfl ?_
  refine x_aload_n C 0 dX9_goBack_5 rfl rfl ?_
  refine gfX9_32 C dX9_goBack_6 h0 rfl ?_
  refine x_alen (v := (2 : Int32)) C 4 h98 rfl rfl dX9_goBack_9 ?_
  refine x_icmp_lt_t C 16 dX9_goBack_10 (by decide) (by decide) ?_
  refine x_aload_n C 0 dX9_goBack_16 rfl rfl ?_
  refine gfX9_32 C dX9_goBack_17 h0 rfl ?_
  refine x_iload_n C 1 dX9_goBack_20 rfl rfl ?_
  refine x_aaldM (y := z + 130) C h98 (vp_in_lit (by decide) (by decide)) rfl dX9_goBack_21 ?_
  refine x_astore_n C [(2, .ref (z + 130)), (0, .ref (z + 0)), (1, .int (1 : Int32))] dX9_goBack_22 rfl (by decide) rfl ?_
  refine x_aload_n C 0 dX9_goBack_23 rfl rfl ?_
  refine gfX9_113 C dX9_goBack_24 h130 rfl ?_
  refine x_if_ne_f C 33 dX9_goBack_27 (by decide) (by decide) ?_
  refine x_ldc C kcX9_221 dX9_goBack_30 ?_
  exact x_iret C hr hlk (Nat.le_of_ble_eq_true rfl) (Nat.le_of_ble_eq_true rfl) dX9_goBack_32 rfl rfl rfl
set_option maxRecDepth 20000 in
theorem p_X10_goBack_2 {G : GT} {l : Launch} {z n : Nat} (u : HpT) (h134 : u 134 = some (.inr (9, [.int (0 : Int32), .ref (z + 135), .int (0 : Int32), .int (0 : Int32), .int (0 : Int32), .int (-1 : Int32), .int (0 : Int32), .int (0 : Int32), .int (0 : Int32), .int (0 : Int32), .ref (z + 136), .ref (z + 137), .ref (z + 138), .ref (z + 139), .ref (z + 140), .int (0 : Int32), .int (0 : Int32), .int (0 : Int32), .int (0 : Int32), .ref (z + 141), .ref (z + 142), .ref (z + 143), .ref (z + 144), .ref (z + 145), .ref (z + 146), .int (0 : Int32), .int (0 : Int32), .ref (z + 147), .long (0 : Int64), .ref (z + 148), .int (0 : Int32), .int (0 : Int32), .int (0 : Int32), .ref (z + 149), .int (0 : Int32), .ref (z + 150), .ref (z + 151), .int (0 : Int32), .ref (z + 152), .ref (z + 153), .ref (z + 154), .ref (z + 155), .ref (z + 156)]))) (h154 : u 154 = some (aZ G 2 (fun _ => 0))) : Mt G l z yX10_goBack cX10_goBack 3 (some .int) { frames := 1, cells := 0, slots := 0, locals := 22 } [.ref (z + 134), .int (1 : Int32)] u n (some (.int (-1000000003 : Int32))) u n := by
  refine mt_of (by decide +kernel) (Nat.le_of_ble_eq_true rfl) ?_
  intro p e s m below meth c C hr hlk hnm
  refine x_iload_n C 1 dX10_goBack_0 rfl rfl ?_
  refine x_iconst (v := (0 : Int32)) C dX10_goBack_1 (by decide) ?_
  refine x_iconst (v := (1 : Int32)) C dX10_goBack_2 (by decide) ?_
  refine x_callS C cl_X10_in kmX10_82 (As := [.int (1 : Int32), .int (0 : Int32), .int (1 : Int32)]) (rest := []) (p_X10_in_13 u) rfl rfl (Nat.le_of_ble_eq_true rfl) ⟨Nat.le_of_ble_eq_true rfl, Nat.le_of_ble_eq_true rfl⟩ ⟨Nat.le_of_ble_eq_true rfl, Nat.le_of_ble_eq_true rfl⟩ dX10_goBack_3 ?_
  refine x_norm (st2 := [.int (1 : Int32)]) (kc2 := 0) (ks2 := 0) rfl rfl rfl rfl rfl ?_
  refine x_if_ne_t C 12 dX10_goBack_6 (by decide) (by decide) ?_
  refine x_aload_n C 0 dX10_goBack_12 rfl rfl ?_
  refine gfX10_71 C dX10_goBack_13 h134 rfl ?_
  refine x_iload_n C 1 dX10_goBack_16 rfl rfl ?_
  refine x_zaldk C 1 h154 (vp_in_lit (by decide) (by decide)) (by decide) dX10_goBack_17 ?_
  refine x_eqi (w := (0 : Int32)) (by decide) ?_
  refine x_if_ne_f C 24 dX10_goBack_18 (by decide) (by decide) ?_
  refine x_ldc C kcX10_215 dX10_goBack_21 ?_
  exact x_iret C hr hlk (Nat.le_of_ble_eq_true rfl) (Nat.le_of_ble_eq_true rfl) dX10_goBack_23 rfl rfl rfl
set_option maxRecDepth 20000 in
theorem p_X9_goBack_3 {G : GT} {l : Launch} {z n : Nat} (u : HpT) (va : Int32) (hl_va : 2 ≤ va.toInt) (hh_va : va.toInt ≤ 2147483647) (h0 : u 0 = some (.inr (8, [.ref (z + 1), .ref (z + 3), .ref (z + 6), .ref (z + 98), .ref (z + 99), .ref (z + 101), .ref (z + 106), .ref (z + 109), .ref (z + 112), .ref (z + 119), .int (0 : Int32), .int (-1 : Int32)]))) (h98 : u 98 = some (aM G 2 (va_up (va_up (fun _ => none) 0 (some (z + 126))) 1 (some (z + 130))))) : Mt G l z yX9_goBack cX9_goBack 3 (some .int) { frames := 0, cells := 0, slots := 0, locals := 0 } [.ref (z + 0), .int va] u n (some (.int (-1000000001 : Int32))) u n := by
  refine mt_of (by decide +kernel) (Nat.le_of_ble_eq_true rfl) ?_
  intro p e s m below meth c C hr hlk hnm
  refine x_iload_n C 1 dX9_goBack_0 rfl rfl ?_
  refine x_if_lt_f C 13 dX9_goBack_1 (by decide) (by simp only [Int32.lt_iff_toInt_lt, Int32.le_iff_toInt_le, i_eq_iff]; have e9 : (0 : Int32).toInt = 0 := (by decide); omega) ?_
  refine x_iload_n C 1 dX9_goBack_4 rfl rfl ?_
  refine x_aload_n C 0 dX9_goBack_5 rfl rfl ?_
  refine gfX9_32 C dX9_goBack_6 h0 rfl ?_
  refine x_alen (v := (2 : Int32)) C 4 h98 rfl rfl dX9_goBack_9 ?_
  refine x_icmp_lt_f C 16 dX9_goBack_10 (by decide) (by simp only [Int32.lt_iff_toInt_lt, Int32.le_iff_toInt_le, i_eq_iff]; have e9 : (2 : Int32).toInt = 2 := (by decide); omega) ?_
  refine x_ldc C kcX9_179 dX9_goBack_13 ?_
  exact x_iret C hr hlk (Nat.le_of_ble_eq_true rfl) (Nat.le_of_ble_eq_true rfl) dX9_goBack_15 rfl rfl rfl
set_option maxRecDepth 20000 in
theorem p_X10_goBack_3 {G : GT} {l : Launch} {z n : Nat} (u : HpT) (va : Int32) (hl_va : 2 ≤ va.toInt) (hh_va : va.toInt ≤ 2147483647) : Mt G l z yX10_goBack cX10_goBack 3 (some .int) { frames := 1, cells := 0, slots := 0, locals := 22 } [.ref (z + 134), .int va] u n (some (.int (-1000000001 : Int32))) u n := by
  refine mt_of (by decide +kernel) (Nat.le_of_ble_eq_true rfl) ?_
  intro p e s m below meth c C hr hlk hnm
  refine x_iload_n C 1 dX10_goBack_0 rfl rfl ?_
  refine x_iconst (v := (0 : Int32)) C dX10_goBack_1 (by decide) ?_
  refine x_iconst (v := (1 : Int32)) C dX10_goBack_2 (by decide) ?_
  refine x_callS C cl_X10_in kmX10_82 (As := [.int va, .int (0 : Int32), .int (1 : Int32)]) (rest := []) (p_X10_in_14 u va hl_va hh_va) rfl rfl (Nat.le_of_ble_eq_true rfl) ⟨Nat.le_of_ble_eq_true rfl, Nat.le_of_ble_eq_true rfl⟩ ⟨Nat.le_of_ble_eq_true rfl, Nat.le_of_ble_eq_true rfl⟩ dX10_goBack_3 ?_
  refine x_norm (st2 := [.int (0 : Int32)]) (kc2 := 0) (ks2 := 0) rfl rfl rfl rfl rfl ?_
  refine x_if_ne_f C 12 dX10_goBack_6 (by decide) (by decide) ?_
  refine x_ldc C kcX10_193 dX10_goBack_9 ?_
  exact x_iret C hr hlk (Nat.le_of_ble_eq_true rfl) (Nat.le_of_ble_eq_true rfl) dX10_goBack_11 rfl rfl rfl
