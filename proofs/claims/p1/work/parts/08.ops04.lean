set_option maxRecDepth 20000 in
theorem p_X10_keep_1 {G : GT} {l : Launch} {z n : Nat} (u : HpT) (h134 : u 134 = some (.inr (9, [.int (0 : Int32), .ref (z + 135), .int (0 : Int32), .int (0 : Int32), .int (0 : Int32), .int (-1 : Int32), .int (0 : Int32), .int (0 : Int32), .int (0 : Int32), .int (0 : Int32), .ref (z + 136), .ref (z + 137), .ref (z + 138), .ref (z + 139), .ref (z + 140), .int (0 : Int32), .int (0 : Int32), .int (0 : Int32), .int (0 : Int32), .ref (z + 141), .ref (z + 142), .ref (z + 143), .ref (z + 144), .ref (z + 145), .ref (z + 146), .int (0 : Int32), .int (0 : Int32), .ref (z + 147), .long (0 : Int64), .ref (z + 148), .int (0 : Int32), .int (0 : Int32), .int (0 : Int32), .ref (z + 149), .int (0 : Int32), .ref (z + 150), .ref (z + 151), .int (0 : Int32), .ref (z + 152), .ref (z + 153), .ref (z + 154), .ref (z + 155), .ref (z + 156)]))) (h146 : u 146 = some (aI G 25 (upd (upd (fun _ => 0) 4 (-1 : Int32)) 6 (-1 : Int32)))) (h154 : u 154 = some (aZ G 2 (fun _ => 0))) (h155 : u 155 = some (aI G 50 (fun _ => 0))) (h156 : u 156 = some (aL G 2 (fun _ => 0))) : Mt G l z yX10_keep cX10_keep 3 (some .int) { frames := 1, cells := 0, slots := 0, locals := 22 } [.ref (z + 134), .int (0 : Int32)] u n (some (.int (1 : Int32))) (hup (hup (hup (hup u 154 (aZ G 2 (upd (fun _ => 0) 0 (1 : Int32)))) 156 (aL G 2 (vp_updL (fun _ => 0) 0 (0 : Int64)))) 134 (.inr (9, [.int (0 : Int32), .ref (z + 135), .int (0 : Int32), .int (0 : Int32), .int (0 : Int32), .int (-1 : Int32), .int (0 : Int32), .int (0 : Int32), .int (0 : Int32), .int (0 : Int32), .ref (z + 136), .ref (z + 137), .ref (z + 138), .ref (z + 139), .ref (z + 140), .int (0 : Int32), .int (0 : Int32), .int (0 : Int32), .int (0 : Int32), .ref (z + 141), .ref (z + 142), .ref (z + 143), .ref (z + 144), .ref (z + 145), .ref (z + 146), .int (0 : Int32), .int (0 : Int32), .ref (z + 147), .long (0 : Int64), .ref (z + 148), .int (0 : Int32), .int (0 : Int32), .int (0 : Int32), .ref (z + 149), .int (0 : Int32), .ref (z + 150), .ref (z + 151), .int (0 : Int32), .ref (z + 152), .ref (z + 153), .ref (z + 154), .ref (z + 155), .ref (z + 156)]))) 155 (aI G 50 (upd (upd (upd (upd (upd (upd (upd (upd (upd (upd (upd (upd (upd (upd (upd (upd (upd (upd (upd (upd (upd (upd (upd (upd (upd (fun _ => 0) 0 (0 : Int32)) 1 (0 : Int32)) 2 (0 : Int32)) 3 (0 : Int32)) 4 (-1 : Int32)) 5 (0 : Int32)) 6 (-1 : Int32)) 7 (0 : Int32)) 8 (0 : Int32)) 9 (0 : Int32)) 10 (0 : Int32)) 11 (0 : Int32)) 12 (0 : Int32)) 13 (0 : Int32)) 14 (0 : Int32)) 15 (0 : Int32)) 16 (0 : Int32)) 17 (0 : Int32)) 18 (0 : Int32)) 19 (0 : Int32)) 20 (0 : Int32)) 21 (0 : Int32)) 22 (0 : Int32)) 23 (0 : Int32)) 24 (0 : Int32)))) n := by
  refine mt_of (by decide +kernel) (Nat.le_of_ble_eq_true rfl) ?_
  intro p e s m below meth c C hr hlk hnm
  refine x_iload_n C 1 dX10_keep_0 rfl rfl ?_
  refine x_iconst (v := (0 : Int32)) C dX10_keep_1 (by decide) ?_
  refine x_iconst (v := (1 : Int32)) C dX10_keep_2 (by decide) ?_
  refine x_callS C cl_X10_in kmX10_82 (As := [.int (0 : Int32), .int (0 : Int32), .int (1 : Int32)]) (rest := []) (p_X10_in_12 u) rfl rfl (Nat.le_of_ble_eq_true rfl) ⟨Nat.le_of_ble_eq_true rfl, Nat.le_of_ble_eq_true rfl⟩ ⟨Nat.le_of_ble_eq_true rfl, Nat.le_of_ble_eq_true rfl⟩ dX10_keep_3 ?_
  refine x_norm (st2 := [.int (1 : Int32)]) (kc2 := 0) (ks2 := 0) rfl rfl rfl rfl rfl ?_
  refine x_if_ne_t C 12 dX10_keep_6 (by decide) (by decide) ?_
  refine x_aload_n C 0 dX10_keep_12 rfl rfl ?_
  refine gfX10_71 C dX10_keep_13 h134 rfl ?_
  refine x_iload_n C 1 dX10_keep_16 rfl rfl ?_
  refine x_iconst (v := (1 : Int32)) C dX10_keep_17 (by decide) ?_
  refine x_zastk C 0 h154 (vp_in_lit (by decide) (by decide)) (by decide) dX10_keep_18 (by decide) ?_
  obtain ⟨u1, eu1⟩ : ∃ w : HpT, w = (hup u 154 (aZ G 2 (upd (fun _ => 0) 0 (1 : Int32)))) := ⟨_, rfl⟩
  refine x_heap (u2 := u1) eu1.symm ?_
  refine x_aload_n C 0 dX10_keep_19 rfl rfl ?_
  have k134_1 := (congrFun eu1 134).trans (hup_n' (by decide) (h134))
  refine gfX10_78 C dX10_keep_20 k134_1 rfl ?_
  refine x_iload_n C 1 dX10_keep_23 rfl rfl ?_
  refine x_aload_n C 0 dX10_keep_24 rfl rfl ?_
  refine gfX10_243 C dX10_keep_25 k134_1 rfl ?_
  have k156_1 := (congrFun eu1 156).trans (hup_n' (by decide) (h156))
  refine x_lastk C 0 k156_1 (vp_in_lit (by decide) (by decide)) (by decide) dX10_keep_28 ?_
  obtain ⟨u2, eu2⟩ : ∃ w : HpT, w = (hup u1 156 (aL G 2 (vp_updL (fun _ => 0) 0 (0 : Int64)))) := ⟨_, rfl⟩
  refine x_heap (u2 := u2) eu2.symm ?_
  refine x_aload_n C 0 dX10_keep_29 rfl rfl ?_
  refine x_iconst (v := (0 : Int32)) C dX10_keep_30 (by decide) ?_
  have k134_2 := (congrFun eu2 134).trans (hup_n' (by decide) (k134_1))
  obtain ⟨u3, eu3⟩ : ∃ w : HpT, w = (hup u2 134 (.inr (9, [.int (0 : Int32), .ref (z + 135), .int (0 : Int32), .int (0 : Int32), .int (0 : Int32), .int (-1 : Int32), .int (0 : Int32), .int (0 : Int32), .int (0 : Int32), .int (0 : Int32), .ref (z + 136), .ref (z + 137), .ref (z + 138), .ref (z + 139), .ref (z + 140), .int (0 : Int32), .int (0 : Int32), .int (0 : Int32), .int (0 : Int32), .ref (z + 141), .ref (z + 142), .ref (z + 143), .ref (z + 144), .ref (z + 145), .ref (z + 146), .int (0 : Int32), .int (0 : Int32), .ref (z + 147), .long (0 : Int64), .ref (z + 148), .int (0 : Int32), .int (0 : Int32), .int (0 : Int32), .ref (z + 149), .int (0 : Int32), .ref (z + 150), .ref (z + 151), .int (0 : Int32), .ref (z + 152), .ref (z + 153), .ref (z + 154), .ref (z + 155), .ref (z + 156)]))) := ⟨_, rfl⟩
  refine pfX10_159 C dX10_keep_31 k134_2 (Nat.le_of_ble_eq_true rfl) rfl eu3.symm ?_
  refine x_iconst (v := (0 : Int32)) C dX10_keep_34 (by decide) ?_
  refine x_istore_n C [(2, .int (0 : Int32)), (0, .ref (z + 134)), (1, .int (0 : Int32))] dX10_keep_35 rfl (by decide) rfl ?_
  refine x_iload_n C 0 dX10_keep_36 rfl rfl ?_
  refine x_bipush (v := (25 : Int32)) C dX10_keep_37 (by decide) ?_
  refine x_icmp_ge_f C 65 dX10_keep_39 (by decide) (by decide) ?_
  refine x_aload_n C 1 dX10_keep_42 rfl rfl ?_
  have k134_3 := (congrFun eu3 134).trans (hup_s _ _ _)
  refine gfX10_75 C dX10_keep_43 k134_3 rfl ?_
  refine x_bipush (v := (25 : Int32)) C dX10_keep_46 (by decide) ?_
  refine x_iload_n C 2 dX10_keep_48 rfl rfl ?_
  refine x_imul C dX10_keep_49 ?_
  refine x_eqi (w := (0 : Int32)) (by decide) ?_
  refine x_iload_n C 0 dX10_keep_50 rfl rfl ?_
  refine x_iadd C dX10_keep_51 ?_
  refine x_eqi (w := (0 : Int32)) (by decide) ?_
  refine x_aload_n C 1 dX10_keep_52 rfl rfl ?_
  refine gfX10_47 C dX10_keep_53 k134_3 rfl ?_
  refine x_iload_n C 0 dX10_keep_56 rfl rfl ?_
  have k146_1 := (congrFun eu1 146).trans (hup_n' (by decide) (h146))
  have k146_2 := (congrFun eu2 146).trans (hup_n' (by decide) (k146_1))
  have k146_3 := (congrFun eu3 146).trans (hup_n' (by decide) (k146_2))
  refine x_ialdk C 0 k146_3 (vp_in_lit (by decide) (by decide)) (by decide) dX10_keep_57 ?_
  refine x_eqi (w := (0 : Int32)) (by decide) ?_
  have k155_1 := (congrFun eu1 155).trans (hup_n' (by decide) (h155))
  have k155_2 := (congrFun eu2 155).trans (hup_n' (by decide) (k155_1))
  have k155_3 := (congrFun eu3 155).trans (hup_n' (by decide) (k155_2))
  refine x_iastk C 0 k155_3 (vp_in_lit (by decide) (by decide)) (by decide) dX10_keep_58 ?_
  obtain ⟨u4, eu4⟩ : ∃ w : HpT, w = (hup u3 155 (aI G 50 (upd (fun _ => 0) 0 (0 : Int32)))) := ⟨_, rfl⟩
  refine x_heap (u2 := u4) eu4.symm ?_
  refine x_iinc C 0 [(2, .int (1 : Int32)), (0, .ref (z + 134)), (1, .int (0 : Int32))] dX10_keep_59 rfl (by decide) (by decide) rfl ?_
  refine x_goto C 36 dX10_keep_62 (by decide) ?_
  refine x_iload_n C 0 dX10_keep_36 rfl rfl ?_
  refine x_bipush (v := (25 : Int32)) C dX10_keep_37 (by decide) ?_
  refine x_icmp_ge_f C 65 dX10_keep_39 (by decide) (by decide) ?_
  refine x_aload_n C 1 dX10_keep_42 rfl rfl ?_
  have k134_4 := (congrFun eu4 134).trans (hup_n' (by decide) (k134_3))
  refine gfX10_75 C dX10_keep_43 k134_4 rfl ?_
  refine x_bipush (v := (25 : Int32)) C dX10_keep_46 (by decide) ?_
  refine x_iload_n C 2 dX10_keep_48 rfl rfl ?_
  refine x_imul C dX10_keep_49 ?_
  refine x_eqi (w := (0 : Int32)) (by decide) ?_
  refine x_iload_n C 0 dX10_keep_50 rfl rfl ?_
  refine x_iadd C dX10_keep_51 ?_
  refine x_eqi (w := (1 : Int32)) (by decide) ?_
  refine x_aload_n C 1 dX10_keep_52 rfl rfl ?_
  refine gfX10_47 C dX10_keep_53 k134_4 rfl ?_
  refine x_iload_n C 0 dX10_keep_56 rfl rfl ?_
  have k146_4 := (congrFun eu4 146).trans (hup_n' (by decide) (k146_3))
  refine x_ialdk C 1 k146_4 (vp_in_lit (by decide) (by decide)) (by decide) dX10_keep_57 ?_
  refine x_eqi (w := (0 : Int32)) (by decide) ?_
  have k155_4 := (congrFun eu4 155).trans (hup_s _ _ _)
  refine x_iastk C 1 k155_4 (vp_in_lit (by decide) (by decide)) (by decide) dX10_keep_58 ?_
  obtain ⟨u5, eu5⟩ : ∃ w : HpT, w = (hup u4 155 (aI G 50 (upd (upd (fun _ => 0) 0 (0 : Int32)) 1 (0 : Int32)))) := ⟨_, rfl⟩
  refine x_heap (u2 := u5) eu5.symm ?_
  refine x_iinc C 0 [(2, .int (2 : Int32)), (0, .ref (z + 134)), (1, .int (0 : Int32))] dX10_keep_59 rfl (by decide) (by decide) rfl ?_
  refine x_goto C 36 dX10_keep_62 (by decide) ?_
  refine x_iload_n C 0 dX10_keep_36 rfl rfl ?_
  refine x_bipush (v := (25 : Int32)) C dX10_keep_37 (by decide) ?_
  refine x_icmp_ge_f C 65 dX10_keep_39 (by decide) (by decide) ?_
  refine x_aload_n C 1 dX10_keep_42 rfl rfl ?_
  have k134_5 := (congrFun eu5 134).trans (hup_n' (by decide) (k134_4))
  refine gfX10_75 C dX10_keep_43 k134_5 rfl ?_
  refine x_bipush (v := (25 : Int32)) C dX10_keep_46 (by decide) ?_
  refine x_iload_n C 2 dX10_keep_48 rfl rfl ?_
  refine x_imul C dX10_keep_49 ?_
  refine x_eqi (w := (0 : Int32)) (by decide) ?_
  refine x_iload_n C 0 dX10_keep_50 rfl rfl ?_
  refine x_iadd C dX10_keep_51 ?_
  refine x_eqi (w := (2 : Int32)) (by decide) ?_
  refine x_aload_n C 1 dX10_keep_52 rfl rfl ?_
  refine gfX10_47 C dX10_keep_53 k134_5 rfl ?_
  refine x_iload_n C 0 dX10_keep_56 rfl rfl ?_
  have k146_5 := (congrFun eu5 146).trans (hup_n' (by decide) (k146_4))
  refine x_ialdk C 2 k146_5 (vp_in_lit (by decide) (by decide)) (by decide) dX10_keep_57 ?_
  refine x_eqi (w := (0 : Int32)) (by decide) ?_
  have k155_5 := (congrFun eu5 155).trans (hup_s _ _ _)
  refine x_iastk C 2 k155_5 (vp_in_lit (by decide) (by decide)) (by decide) dX10_keep_58 ?_
  obtain ⟨u6, eu6⟩ : ∃ w : HpT, w = (hup u5 155 (aI G 50 (upd (upd (upd (fun _ => 0) 0 (0 : Int32)) 1 (0 : Int32)) 2 (0 : Int32)))) := ⟨_, rfl⟩
  refine x_heap (u2 := u6) eu6.symm ?_
  refine x_iinc C 0 [(2, .int (3 : Int32)), (0, .ref (z + 134)), (1, .int (0 : Int32))] dX10_keep_59 rfl (by decide) (by decide) rfl ?_
  refine x_goto C 36 dX10_keep_62 (by decide) ?_
  refine x_iload_n C 0 dX10_keep_36 rfl rfl ?_
  refine x_bipush (v := (25 : Int32)) C dX10_keep_37 (by decide) ?_
  refine x_icmp_ge_f C 65 dX10_keep_39 (by decide) (by decide) ?_
  refine x_aload_n C 1 dX10_keep_42 rfl rfl ?_
  have k134_6 := (congrFun eu6 134).trans (hup_n' (by decide) (k134_5))
  refine gfX10_75 C dX10_keep_43 k134_6 rfl ?_
  refine x_bipush (v := (25 : Int32)) C dX10_keep_46 (by decide) ?_
  refine x_iload_n C 2 dX10_keep_48 rfl rfl ?_
  refine x_imul C dX10_keep_49 ?_
  refine x_eqi (w := (0 : Int32)) (by decide) ?_
  refine x_iload_n C 0 dX10_keep_50 rfl rfl ?_
  refine x_iadd C dX10_keep_51 ?_
  refine x_eqi (w := (3 : Int32)) (by decide) ?_
  refine x_aload_n C 1 dX10_keep_52 rfl rfl ?_
  refine gfX10_47 C dX10_keep_53 k134_6 rfl ?_
  refine x_iload_n C 0 dX10_keep_56 rfl rfl ?_
  have k146_6 := (congrFun eu6 146).trans (hup_n' (by decide) (k146_5))
  refine x_ialdk C 3 k146_6 (vp_in_lit (by decide) (by decide)) (by decide) dX10_keep_57 ?_
  refine x_eqi (w := (0 : Int32)) (by decide) ?_
  have k155_6 := (congrFun eu6 155).trans (hup_s _ _ _)
  refine x_iastk C 3 k155_6 (vp_in_lit (by decide) (by decide)) (by decide) dX10_keep_58 ?_
  obtain ⟨u7, eu7⟩ : ∃ w : HpT, w = (hup u6 155 (aI G 50 (upd (upd (upd (upd (fun _ => 0) 0 (0 : Int32)) 1 (0 : Int32)) 2 (0 : Int32)) 3 (0 : Int32)))) := ⟨_, rfl⟩
  refine x_heap (u2 := u7) eu7.symm ?_
  refine x_iinc C 0 [(2, .int (4 : Int32)), (0, .ref (z + 134)), (1, .int (0 : Int32))] dX10_keep_59 rfl (by decide) (by decide) rfl ?_
  refine x_goto C 36 dX10_keep_62 (by decide) ?_
  refine x_iload_n C 0 dX10_keep_36 rfl rfl ?_
  refine x_bipush (v := (25 : Int32)) C dX10_keep_37 (by decide) ?_
  refine x_icmp_ge_f C 65 dX10_keep_39 (by decide) (by decide) ?_
  refine x_aload_n C 1 dX10_keep_42 rfl rfl ?_
  have k134_7 := (congrFun eu7 134).trans (hup_n' (by decide) (k134_6))
  refine gfX10_75 C dX10_keep_43 k134_7 rfl ?_
  refine x_bipush (v := (25 : Int32)) C dX10_keep_46 (by decide) ?_
  refine x_iload_n C 2 dX10_keep_48 rfl rfl ?_
  refine x_imul C dX10_keep_49 ?_
  refine x_eqi (w := (0 : Int32)) (by decide) ?_
  refine x_iload_n C 0 dX10_keep_50 rfl rfl ?_
  refine x_iadd C dX10_keep_51 ?_
  refine x_eqi (w := (4 : Int32)) (by decide) ?_
  refine x_aload_n C 1 dX10_keep_52 rfl rfl ?_
  refine gfX10_47 C dX10_keep_53 k134_7 rfl ?_
  refine x_iload_n C 0 dX10_keep_56 rfl rfl ?_
  have k146_7 := (congrFun eu7 146).trans (hup_n' (by decide) (k146_6))
  refine x_ialdk C 4 k146_7 (vp_in_lit (by decide) (by decide)) (by decide) dX10_keep_57 ?_
  refine x_eqi (w := (-1 : Int32)) (by decide) ?_
  have k155_7 := (congrFun eu7 155).trans (hup_s _ _ _)
  refine x_iastk C 4 k155_7 (vp_in_lit (by decide) (by decide)) (by decide) dX10_keep_58 ?_
  obtain ⟨u8, eu8⟩ : ∃ w : HpT, w = (hup u7 155 (aI G 50 (upd (upd (upd (upd (upd (fun _ => 0) 0 (0 : Int32)) 1 (0 : Int32)) 2 (0 : Int32)) 3 (0 : Int32)) 4 (-1 : Int32)))) := ⟨_, rfl⟩
  refine x_heap (u2 := u8) eu8.symm ?_
  refine x_iinc C 0 [(2, .int (5 : Int32)), (0, .ref (z + 134)), (1, .int (0 : Int32))] dX10_keep_59 rfl (by decide) (by decide) rfl ?_
  refine x_goto C 36 dX10_keep_62 (by decide) ?_
  refine x_iload_n C 0 dX10_keep_36 rfl rfl ?_
  refine x_bipush (v := (25 : Int32)) C dX10_keep_37 (by decide) ?_
  refine x_icmp_ge_f C 65 dX10_keep_39 (by decide) (by decide) ?_
  refine x_aload_n C 1 dX10_keep_42 rfl rfl ?_
  have k134_8 := (congrFun eu8 134).trans (hup_n' (by decide) (k134_7))
  refine gfX10_75 C dX10_keep_43 k134_8 rfl ?_
  refine x_bipush (v := (25 : Int32)) C dX10_keep_46 (by decide) ?_
  refine x_iload_n C 2 dX10_keep_48 rfl rfl ?_
  refine x_imul C dX10_keep_49 ?_
  refine x_eqi (w := (0 : Int32)) (by decide) ?_
  refine x_iload_n C 0 dX10_keep_50 rfl rfl ?_
  refine x_iadd C dX10_keep_51 ?_
  refine x_eqi (w := (5 : Int32)) (by decide) ?_
  refine x_aload_n C 1 dX10_keep_52 rfl rfl ?_
  refine gfX10_47 C dX10_keep_53 k134_8 rfl ?_
  refine x_iload_n C 0 dX10_keep_56 rfl rfl ?_
  have k146_8 := (congrFun eu8 146).trans (hup_n' (by decide) (k146_7))
  refine x_ialdk C 5 k146_8 (vp_in_lit (by decide) (by decide)) (by decide) dX10_keep_57 ?_
  refine x_eqi (w := (0 : Int32)) (by decide) ?_
  have k155_8 := (congrFun eu8 155).trans (hup_s _ _ _)
  refine x_iastk C 5 k155_8 (vp_in_lit (by decide) (by decide)) (by decide) dX10_keep_58 ?_
  obtain ⟨u9, eu9⟩ : ∃ w : HpT, w = (hup u8 155 (aI G 50 (upd (upd (upd (upd (upd (upd (fun _ => 0) 0 (0 : Int32)) 1 (0 : Int32)) 2 (0 : Int32)) 3 (0 : Int32)) 4 (-1 : Int32)) 5 (0 : Int32)))) := ⟨_, rfl⟩
  refine x_heap (u2 := u9) eu9.symm ?_
  refine x_iinc C 0 [(2, .int (6 : Int32)), (0, .ref (z + 134)), (1, .int (0 : Int32))] dX10_keep_59 rfl (by decide) (by decide) rfl ?_
  refine x_goto C 36 dX10_keep_62 (by decide) ?_
  refine x_iload_n C 0 dX10_keep_36 rfl rfl ?_
  refine x_bipush (v := (25 : Int32)) C dX10_keep_37 (by decide) ?_
  refine x_icmp_ge_f C 65 dX10_keep_39 (by decide) (by decide) ?_
  refine x_aload_n C 1 dX10_keep_42 rfl rfl ?_
  have k134_9 := (congrFun eu9 134).trans (hup_n' (by decide) (k134_8))
  refine gfX10_75 C dX10_keep_43 k134_9 rfl ?_
  refine x_bipush (v := (25 : Int32)) C dX10_keep_46 (by decide) ?_
  refine x_iload_n C 2 dX10_keep_48 rfl rfl ?_
  refine x_imul C dX10_keep_49 ?_
  refine x_eqi (w := (0 : Int32)) (by decide) ?_
  refine x_iload_n C 0 dX10_keep_50 rfl rfl ?_
  refine x_iadd C dX10_keep_51 ?_
  refine x_eqi (w := (6 : Int32)) (by decide) ?_
  refine x_aload_n C 1 dX10_keep_52 rfl rfl ?_
  refine gfX10_47 C dX10_keep_53 k134_9 rfl ?_
  refine x_iload_n C 0 dX10_keep_56 rfl rfl ?_
  have k146_9 := (congrFun eu9 146).trans (hup_n' (by decide) (k146_8))
  refine x_ialdk C 6 k146_9 (vp_in_lit (by decide) (by decide)) (by decide) dX10_keep_57 ?_
  refine x_eqi (w := (-1 : Int32)) (by decide) ?_
  have k155_9 := (congrFun eu9 155).trans (hup_s _ _ _)
  refine x_iastk C 6 k155_9 (vp_in_lit (by decide) (by decide)) (by decide) dX10_keep_58 ?_
  obtain ⟨u10, eu10⟩ : ∃ w : HpT, w = (hup u9 155 (aI G 50 (upd (upd (upd (upd (upd (upd (upd (fun _ => 0) 0 (0 : Int32)) 1 (0 : Int32)) 2 (0 : Int32)) 3 (0 : Int32)) 4 (-1 : Int32)) 5 (0 : Int32)) 6 (-1 : Int32)))) := ⟨_, rfl⟩
  refine x_heap (u2 := u10) eu10.symm ?_
  refine x_iinc C 0 [(2, .int (7 : Int32)), (0, .ref (z + 134)), (1, .int (0 : Int32))] dX10_keep_59 rfl (by decide) (by decide) rfl ?_
  refine x_goto C 36 dX10_keep_62 (by decide) ?_
  refine x_iload_n C 0 dX10_keep_36 rfl rfl ?_
  refine x_bipush (v := (25 : Int32)) C dX10_keep_37 (by decide) ?_
  refine x_icmp_ge_f C 65 dX10_keep_39 (by decide) (by decide) ?_
  refine x_aload_n C 1 dX10_keep_42 rfl rfl ?_
  have k134_10 := (congrFun eu10 134).trans (hup_n' (by decide) (k134_9))
  refine gfX10_75 C dX10_keep_43 k134_10 rfl ?_
  refine x_bipush (v := (25 : Int32)) C dX10_keep_46 (by decide) ?_
  refine x_iload_n C 2 dX10_keep_48 rfl rfl ?_
  refine x_imul C dX10_keep_49 ?_
  refine x_eqi (w := (0 : Int32)) (by decide) ?_
  refine x_iload_n C 0 dX10_keep_50 rfl rfl ?_
  refine x_iadd C dX10_keep_51 ?_
  refine x_eqi (w := (7 : Int32)) (by decide) ?_
  refine x_aload_n C 1 dX10_keep_52 rfl rfl ?_
  refine gfX10_47 C dX10_keep_53 k134_10 rfl ?_
  refine x_iload_n C 0 dX10_keep_56 rfl rfl ?_
  have k146_10 := (congrFun eu10 146).trans (hup_n' (by decide) (k146_9))
  refine x_ialdk C 7 k146_10 (vp_in_lit (by decide) (by decide)) (by decide) dX10_keep_57 ?_
  refine x_eqi (w := (0 : Int32)) (by decide) ?_
  have k155_10 := (congrFun eu10 155).trans (hup_s _ _ _)
  refine x_iastk C 7 k155_10 (vp_in_lit (by decide) (by decide)) (by decide) dX10_keep_58 ?_
  obtain ⟨u11, eu11⟩ : ∃ w : HpT, w = (hup u10 155 (aI G 50 (upd (upd (upd (upd (upd (upd (upd (upd (fun _ => 0) 0 (0 : Int32)) 1 (0 : Int32)) 2 (0 : Int32)) 3 (0 : Int32)) 4 (-1 : Int32)) 5 (0 : Int32)) 6 (-1 : Int32)) 7 (0 : Int32)))) := ⟨_, rfl⟩
  refine x_heap (u2 := u11) eu11.symm ?_
  refine x_iinc C 0 [(2, .int (8 : Int32)), (0, .ref (z + 134)), (1, .int (0 : Int32))] dX10_keep_59 rfl (by decide) (by decide) rfl ?_
  refine x_goto C 36 dX10_keep_62 (by decide) ?_
  refine x_iload_n C 0 dX10_keep_36 rfl rfl ?_
  refine x_bipush (v := (25 : Int32)) C dX10_keep_37 (by decide) ?_
  refine x_icmp_ge_f C 65 dX10_keep_39 (by decide) (by decide) ?_
  refine x_aload_n C 1 dX10_keep_42 rfl rfl ?_
  have k134_11 := (congrFun eu11 134).trans (hup_n' (by decide) (k134_10))
  refine gfX10_75 C dX10_keep_43 k134_11 rfl ?_
  refine x_bipush (v := (25 : Int32)) C dX10_keep_46 (by decide) ?_
  refine x_iload_n C 2 dX10_keep_48 rfl rfl ?_
  refine x_imul C dX10_keep_49 ?_
  refine x_eqi (w := (0 : Int32)) (by decide) ?_
  refine x_iload_n C 0 dX10_keep_50 rfl rfl ?_
  refine x_iadd C dX10_keep_51 ?_
  refine x_eqi (w := (8 : Int32)) (by decide) ?_
  refine x_aload_n C 1 dX10_keep_52 rfl rfl ?_
  refine gfX10_47 C dX10_keep_53 k134_11 rfl ?_
  refine x_iload_n C 0 dX10_keep_56 rfl rfl ?_
  have k146_11 := (congrFun eu11 146).trans (hup_n' (by decide) (k146_10))
  refine x_ialdk C 8 k146_11 (vp_in_lit (by decide) (by decide)) (by decide) dX10_keep_57 ?_
  refine x_eqi (w := (0 : Int32)) (by decide) ?_
  have k155_11 := (congrFun eu11 155).trans (hup_s _ _ _)
  refine x_iastk C 8 k155_11 (vp_in_lit (by decide) (by decide)) (by decide) dX10_keep_58 ?_
  obtain ⟨u12, eu12⟩ : ∃ w : HpT, w = (hup u11 155 (aI G 50 (upd (upd (upd (upd (upd (upd (upd (upd (upd (fun _ => 0) 0 (0 : Int32)) 1 (0 : Int32)) 2 (0 : Int32)) 3 (0 : Int32)) 4 (-1 : Int32)) 5 (0 : Int32)) 6 (-1 : Int32)) 7 (0 : Int32)) 8 (0 : Int32)))) := ⟨_, rfl⟩
  refine x_heap (u2 := u12) eu12.symm ?_
  refine x_iinc C 0 [(2, .int (9 : Int32)), (0, .ref (z + 134)), (1, .int (0 : Int32))] dX10_keep_59 rfl (by decide) (by decide) rfl ?_
  refine x_goto C 36 dX10_keep_62 (by decide) ?_
  refine x_iload_n C 0 dX10_keep_36 rfl rfl ?_
  refine x_bipush (v := (25 : Int32)) C dX10_keep_37 (by decide) ?_
  refine x_icmp_ge_f C 65 dX10_keep_39 (by decide) (by decide) ?_
  refine x_aload_n C 1 dX10_keep_42 rfl rfl ?_
  have k134_12 := (congrFun eu12 134).trans (hup_n' (by decide) (k134_11))
  refine gfX10_75 C dX10_keep_43 k134_12 rfl ?_
  refine x_bipush (v := (25 : Int32)) C dX10_keep_46 (by decide) ?_
  refine x_iload_n C 2 dX10_keep_48 rfl rfl ?_
  refine x_imul C dX10_keep_49 ?_
  refine x_eqi (w := (0 : Int32)) (by decide) ?_
  refine x_iload_n C 0 dX10_keep_50 rfl rfl ?_
  refine x_iadd C dX10_keep_51 ?_
  refine x_eqi (w := (9 : Int32)) (by decide) ?_
  refine x_aload_n C 1 dX10_keep_52 rfl rfl ?_
  refine gfX10_47 C dX10_keep_53 k134_12 rfl ?_
  refine x_iload_n C 0 dX10_keep_56 rfl rfl ?_
  have k146_12 := (congrFun eu12 146).trans (hup_n' (by decide) (k146_11))
  refine x_ialdk C 9 k146_12 (vp_in_lit (by decide) (by decide)) (by decide) dX10_keep_57 ?_
  refine x_eqi (w := (0 : Int32)) (by decide) ?_
  have k155_12 := (congrFun eu12 155).trans (hup_s _ _ _)
  refine x_iastk C 9 k155_12 (vp_in_lit (by decide) (by decide)) (by decide) dX10_keep_58 ?_
  obtain ⟨u13, eu13⟩ : ∃ w : HpT, w = (hup u12 155 (aI G 50 (upd (upd (upd (upd (upd (upd (upd (upd (upd (upd (fun _ => 0) 0 (0 : Int32)) 1 (0 : Int32)) 2 (0 : Int32)) 3 (0 : Int32)) 4 (-1 : Int32)) 5 (0 : Int32)) 6 (-1 : Int32)) 7 (0 : Int32)) 8 (0 : Int32)) 9 (0 : Int32)))) := ⟨_, rfl⟩
  refine x_heap (u2 := u13) eu13.symm ?_
  refine x_iinc C 0 [(2, .int (10 : Int32)), (0, .ref (z + 134)), (1, .int (0 : Int32))] dX10_keep_59 rfl (by decide) (by decide) rfl ?_
  refine x_goto C 36 dX10_keep_62 (by decide) ?_
  refine x_iload_n C 0 dX10_keep_36 rfl rfl ?_
  refine x_bipush (v := (25 : Int32)) C dX10_keep_37 (by decide) ?_
  refine x_icmp_ge_f C 65 dX10_keep_39 (by decide) (by decide) ?_
  refine x_aload_n C 1 dX10_keep_42 rfl rfl ?_
  have k134_13 := (congrFun eu13 134).trans (hup_n' (by decide) (k134_12))
  refine gfX10_75 C dX10_keep_43 k134_13 rfl ?_
  refine x_bipush (v := (25 : Int32)) C dX10_keep_46 (by decide) ?_
  refine x_iload_n C 2 dX10_keep_48 rfl rfl ?_
  refine x_imul C dX10_keep_49 ?_
  refine x_eqi (w := (0 : Int32)) (by decide) ?_
  refine x_iload_n C 0 dX10_keep_50 rfl rfl ?_
  refine x_iadd C dX10_keep_51 ?_
  refine x_eqi (w := (10 : Int32)) (by decide) ?_
  refine x_aload_n C 1 dX10_keep_52 rfl rfl ?_
  refine gfX10_47 C dX10_keep_53 k134_13 rfl ?_
  refine x_iload_n C 0 dX10_keep_56 rfl rfl ?_
  have k146_13 := (congrFun eu13 146).trans (hup_n' (by decide) (k146_12))
  refine x_ialdk C 10 k146_13 (vp_in_lit (by decide) (by decide)) (by decide) dX10_keep_57 ?_
  refine x_eqi (w := (0 : Int32)) (by decide) ?_
  have k155_13 := (congrFun eu13 155).trans (hup_s _ _ _)
  refine x_iastk C 10 k155_13 (vp_in_lit (by decide) (by decide)) (by decide) dX10_keep_58 ?_
  obtain ⟨u14, eu14⟩ : ∃ w : HpT, w = (hup u13 155 (aI G 50 (upd (upd (upd (upd (upd (upd (upd (upd (upd (upd (upd (fun _ => 0) 0 (0 : Int32)) 1 (0 : Int32)) 2 (0 : Int32)) 3 (0 : Int32)) 4 (-1 : Int32)) 5 (0 : Int32)) 6 (-1 : Int32)) 7 (0 : Int32)) 8 (0 : Int32)) 9 (0 : Int32)) 10 (0 : Int32)))) := ⟨_, rfl⟩
  refine x_heap (u2 := u14) eu14.symm ?_
  refine x_iinc C 0 [(2, .int (11 : Int32)), (0, .ref (z + 134)), (1, .int (0 : Int32))] dX10_keep_59 rfl (by decide) (by decide) rfl ?_
  refine x_goto C 36 dX10_keep_62 (by decide) ?_
  refine x_iload_n C 0 dX10_keep_36 rfl rfl ?_
  refine x_bipush (v := (25 : Int32)) C dX10_keep_37 (by decide) ?_
  refine x_icmp_ge_f C 65 dX10_keep_39 (by decide) (by decide) ?_
  refine x_aload_n C 1 dX10_keep_42 rfl rfl ?_
  have k134_14 := (congrFun eu14 134).trans (hup_n' (by decide) (k134_13))
  refine gfX10_75 C dX10_keep_43 k134_14 rfl ?_
  refine x_bipush (v := (25 : Int32)) C dX10_keep_46 (by decide) ?_
  refine x_iload_n C 2 dX10_keep_48 rfl rfl ?_
  refine x_imul C dX10_keep_49 ?_
  refine x_eqi (w := (0 : Int32)) (by decide) ?_
  refine x_iload_n C 0 dX10_keep_50 rfl rfl ?_
  refine x_iadd C dX10_keep_51 ?_
  refine x_eqi (w := (11 : Int32)) (by decide) ?_
  refine x_aload_n C 1 dX10_keep_52 rfl rfl ?_
  refine gfX10_47 C dX10_keep_53 k134_14 rfl ?_
  refine x_iload_n C 0 dX10_keep_56 rfl rfl ?_
  have k146_14 := (congrFun eu14 146).trans (hup_n' (by decide) (k146_13))
  refine x_ialdk C 11 k146_14 (vp_in_lit (by decide) (by decide)) (by decide) dX10_keep_57 ?_
  refine x_eqi (w := (0 : Int32)) (by decide) ?_
  have k155_14 := (congrFun eu14 155).trans (hup_s _ _ _)
  refine x_iastk C 11 k155_14 (vp_in_lit (by decide) (by decide)) (by decide) dX10_keep_58 ?_
  obtain ⟨u15, eu15⟩ : ∃ w : HpT, w = (hup u14 155 (aI G 50 (upd (upd (upd (upd (upd (upd (upd (upd (upd (upd (upd (upd (fun _ => 0) 0 (0 : Int32)) 1 (0 : Int32)) 2 (0 : Int32)) 3 (0 : Int32)) 4 (-1 : Int32)) 5 (0 : Int32)) 6 (-1 : Int32)) 7 (0 : Int32)) 8 (0 : Int32)) 9 (0 : Int32)) 10 (0 : Int32)) 11 (0 : Int32)))) := ⟨_, rfl⟩
  refine x_heap (u2 := u15) eu15.symm ?_
  refine x_iinc C 0 [(2, .int (12 : Int32)), (0, .ref (z + 134)), (1, .int (0 : Int32))] dX10_keep_59 rfl (by decide) (by decide) rfl ?_
  refine x_goto C 36 dX10_keep_62 (by decide) ?_
  refine x_iload_n C 0 dX10_keep_36 rfl rfl ?_
  refine x_bipush (v := (25 : Int32)) C dX10_keep_37 (by decide) ?_
  refine x_icmp_ge_f C 65 dX10_keep_39 (by decide) (by decide) ?_
  refine x_aload_n C 1 dX10_keep_42 rfl rfl ?_
  have k134_15 := (congrFun eu15 134).trans (hup_n' (by decide) (k134_14))
  refine gfX10_75 C dX10_keep_43 k134_15 rfl ?_
  refine x_bipush (v := (25 : Int32)) C dX10_keep_46 (by decide) ?_
  refine x_iload_n C 2 dX10_keep_48 rfl rfl ?_
  refine x_imul C dX10_keep_49 ?_
  refine x_eqi (w := (0 : Int32)) (by decide) ?_
  refine x_iload_n C 0 dX10_keep_50 rfl rfl ?_
  refine x_iadd C dX10_keep_51 ?_
  refine x_eqi (w := (12 : Int32)) (by decide) ?_
  refine x_aload_n C 1 dX10_keep_52 rfl rfl ?_
  refine gfX10_47 C dX10_keep_53 k134_15 rfl ?_
  refine x_iload_n C 0 dX10_keep_56 rfl rfl ?_
  have k146_15 := (congrFun eu15 146).trans (hup_n' (by decide) (k146_14))
  refine x_ialdk C 12 k146_15 (vp_in_lit (by decide) (by decide)) (by decide) dX10_keep_57 ?_
  refine x_eqi (w := (0 : Int32)) (by decide) ?_
  have k155_15 := (congrFun eu15 155).trans (hup_s _ _ _)
  refine x_iastk C 12 k155_15 (vp_in_lit (by decide) (by decide)) (by decide) dX10_keep_58 ?_
  obtain ⟨u16, eu16⟩ : ∃ w : HpT, w = (hup u15 155 (aI G 50 (upd (upd (upd (upd (upd (upd (upd (upd (upd (upd (upd (upd (upd (fun _ => 0) 0 (0 : Int32)) 1 (0 : Int32)) 2 (0 : Int32)) 3 (0 : Int32)) 4 (-1 : Int32)) 5 (0 : Int32)) 6 (-1 : Int32)) 7 (0 : Int32)) 8 (0 : Int32)) 9 (0 : Int32)) 10 (0 : Int32)) 11 (0 : Int32)) 12 (0 : Int32)))) := ⟨_, rfl⟩
  refine x_heap (u2 := u16) eu16.symm ?_
  refine x_iinc C 0 [(2, .int (13 : Int32)), (0, .ref (z + 134)), (1, .int (0 : Int32))] dX10_keep_59 rfl (by decide) (by decide) rfl ?_
  refine x_goto C 36 dX10_keep_62 (by decide) ?_
  refine x_iload_n C 0 dX10_keep_36 rfl rfl ?_
  refine x_bipush (v := (25 : Int32)) C dX10_keep_37 (by decide) ?_
  refine x_icmp_ge_f C 65 dX10_keep_39 (by decide) (by decide) ?_
  refine x_aload_n C 1 dX10_keep_42 rfl rfl ?_
  have k134_16 := (congrFun eu16 134).trans (hup_n' (by decide) (k134_15))
  refine gfX10_75 C dX10_keep_43 k134_16 rfl ?_
  refine x_bipush (v := (25 : Int32)) C dX10_keep_46 (by decide) ?_
  refine x_iload_n C 2 dX10_keep_48 rfl rfl ?_
  refine x_imul C dX10_keep_49 ?_
  refine x_eqi (w := (0 : Int32)) (by decide) ?_
  refine x_iload_n C 0 dX10_keep_50 rfl rfl ?_
  refine x_iadd C dX10_keep_51 ?_
  refine x_eqi (w := (13 : Int32)) (by decide) ?_
  refine x_aload_n C 1 dX10_keep_52 rfl rfl ?_
  refine gfX10_47 C dX10_keep_53 k134_16 rfl ?_
  refine x_iload_n C 0 dX10_keep_56 rfl rfl ?_
  have k146_16 := (congrFun eu16 146).trans (hup_n' (by decide) (k146_15))
  refine x_ialdk C 13 k146_16 (vp_in_lit (by decide) (by decide)) (by decide) dX10_keep_57 ?_
  refine x_eqi (w := (0 : Int32)) (by decide) ?_
  have k155_16 := (congrFun eu16 155).trans (hup_s _ _ _)
  refine x_iastk C 13 k155_16 (vp_in_lit (by decide) (by decide)) (by decide) dX10_keep_58 ?_
  obtain ⟨u17, eu17⟩ : ∃ w : HpT, w = (hup u16 155 (aI G 50 (upd (upd (upd (upd (upd (upd (upd (upd (upd (upd (upd (upd (upd (upd (fun _ => 0) 0 (0 : Int32)) 1 (0 : Int32)) 2 (0 : Int32)) 3 (0 : Int32)) 4 (-1 : Int32)) 5 (0 : Int32)) 6 (-1 : Int32)) 7 (0 : Int32)) 8 (0 : Int32)) 9 (0 : Int32)) 10 (0 : Int32)) 11 (0 : Int32)) 12 (0 : Int32)) 13 (0 : Int32)))) := ⟨_, rfl⟩
  refine x_heap (u2 := u17) eu17.symm ?_
  refine x_iinc C 0 [(2, .int (14 : Int32)), (0, .ref (z + 134)), (1, .int (0 : Int32))] dX10_keep_59 rfl (by decide) (by decide) rfl ?_
  refine x_goto C 36 dX10_keep_62 (by decide) ?_
  refine x_iload_n C 0 dX10_keep_36 rfl rfl ?_
  refine x_bipush (v := (25 : Int32)) C dX10_keep_37 (by decide) ?_
  refine x_icmp_ge_f C 65 dX10_keep_39 (by decide) (by decide) ?_
  refine x_aload_n C 1 dX10_keep_42 rfl rfl ?_
  have k134_17 := (congrFun eu17 134).trans (hup_n' (by decide) (k134_16))
  refine gfX10_75 C dX10_keep_43 k134_17 rfl ?_
  refine x_bipush (v := (25 : Int32)) C dX10_keep_46 (by decide) ?_
  refine x_iload_n C 2 dX10_keep_48 rfl rfl ?_
  refine x_imul C dX10_keep_49 ?_
  refine x_eqi (w := (0 : Int32)) (by decide) ?_
  refine x_iload_n C 0 dX10_keep_50 rfl rfl ?_
  refine x_iadd C dX10_keep_51 ?_
  refine x_eqi (w := (14 : Int32)) (by decide) ?_
  refine x_aload_n C 1 dX10_keep_52 rfl rfl ?_
  refine gfX10_47 C dX10_keep_53 k134_17 rfl ?_
  refine x_iload_n C 0 dX10_keep_56 rfl rfl ?_
  have k146_17 := (congrFun eu17 146).trans (hup_n' (by decide) (k146_16))
  refine x_ialdk C 14 k146_17 (vp_in_lit (by decide) (by decide)) (by decide) dX10_keep_57 ?_
  refine x_eqi (w := (0 : Int32)) (by decide) ?_
  have k155_17 := (congrFun eu17 155).trans (hup_s _ _ _)
  refine x_iastk C 14 k155_17 (vp_in_lit (by decide) (by decide)) (by decide) dX10_keep_58 ?_
  obtain ⟨u18, eu18⟩ : ∃ w : HpT, w = (hup u17 155 (aI G 50 (upd (upd (upd (upd (upd (upd (upd (upd (upd (upd (upd (upd (upd (upd (upd (fun _ => 0) 0 (0 : Int32)) 1 (0 : Int32)) 2 (0 : Int32)) 3 (0 : Int32)) 4 (-1 : Int32)) 5 (0 : Int32)) 6 (-1 : Int32)) 7 (0 : Int32)) 8 (0 : Int32)) 9 (0 : Int32)) 10 (0 : Int32)) 11 (0 : Int32)) 12 (0 : Int32)) 13 (0 : Int32)) 14 (0 : Int32)))) := ⟨_, rfl⟩
  refine x_heap (u2 := u18) eu18.symm ?_
  refine x_iinc C 0 [(2, .int (15 : Int32)), (0, .ref (z + 134)), (1, .int (0 : Int32))] dX10_keep_59 rfl (by decide) (by decide) rfl ?_
  refine x_goto C 36 dX10_keep_62 (by decide) ?_
  refine x_iload_n C 0 dX10_keep_36 rfl rfl ?_
  refine x_bipush (v := (25 : Int32)) C dX10_keep_37 (by decide) ?_
  refine x_icmp_ge_f C 65 dX10_keep_39 (by decide) (by decide) ?_
  refine x_aload_n C 1 dX10_keep_42 rfl rfl ?_
  have k134_18 := (congrFun eu18 134).trans (hup_n' (by decide) (k134_17))
  refine gfX10_75 C dX10_keep_43 k134_18 rfl ?_
  refine x_bipush (v := (25 : Int32)) C dX10_keep_46 (by decide) ?_
  refine x_iload_n C 2 dX10_keep_48 rfl rfl ?_
  refine x_imul C dX10_keep_49 ?_
  refine x_eqi (w := (0 : Int32)) (by decide) ?_
  refine x_iload_n C 0 dX10_keep_50 rfl rfl ?_
  refine x_iadd C dX10_keep_51 ?_
  refine x_eqi (w := (15 : Int32)) (by decide) ?_
  refine x_aload_n C 1 dX10_keep_52 rfl rfl ?_
  refine gfX10_47 C dX10_keep_53 k134_18 rfl ?_
  refine x_iload_n C 0 dX10_keep_56 rfl rfl ?_
  have k146_18 := (congrFun eu18 146).trans (hup_n' (by decide) (k146_17))
  refine x_ialdk C 15 k146_18 (vp_in_lit (by decide) (by decide)) (by decide) dX10_keep_57 ?_
  refine x_eqi (w := (0 : Int32)) (by decide) ?_
  have k155_18 := (congrFun eu18 155).trans (hup_s _ _ _)
  refine x_iastk C 15 k155_18 (vp_in_lit (by decide) (by decide)) (by decide) dX10_keep_58 ?_
  obtain ⟨u19, eu19⟩ : ∃ w : HpT, w = (hup u18 155 (aI G 50 (upd (upd (upd (upd (upd (upd (upd (upd (upd (upd (upd (upd (upd (upd (upd (upd (fun _ => 0) 0 (0 : Int32)) 1 (0 : Int32)) 2 (0 : Int32)) 3 (0 : Int32)) 4 (-1 : Int32)) 5 (0 : Int32)) 6 (-1 : Int32)) 7 (0 : Int32)) 8 (0 : Int32)) 9 (0 : Int32)) 10 (0 : Int32)) 11 (0 : Int32)) 12 (0 : Int32)) 13 (0 : Int32)) 14 (0 : Int32)) 15 (0 : Int32)))) := ⟨_, rfl⟩
  refine x_heap (u2 := u19) eu19.symm ?_
  refine x_iinc C 0 [(2, .int (16 : Int32)), (0, .ref (z + 134)), (1, .int (0 : Int32))] dX10_keep_59 rfl (by decide) (by decide) rfl ?_
  refine x_goto C 36 dX10_keep_62 (by decide) ?_
  refine x_iload_n C 0 dX10_keep_36 rfl rfl ?_
  refine x_bipush (v := (25 : Int32)) C dX10_keep_37 (by decide) ?_
  refine x_icmp_ge_f C 65 dX10_keep_39 (by decide) (by decide) ?_
  refine x_aload_n C 1 dX10_keep_42 rfl rfl ?_
  have k134_19 := (congrFun eu19 134).trans (hup_n' (by decide) (k134_18))
  refine gfX10_75 C dX10_keep_43 k134_19 rfl ?_
  refine x_bipush (v := (25 : Int32)) C dX10_keep_46 (by decide) ?_
  refine x_iload_n C 2 dX10_keep_48 rfl rfl ?_
  refine x_imul C dX10_keep_49 ?_
  refine x_eqi (w := (0 : Int32)) (by decide) ?_
  refine x_iload_n C 0 dX10_keep_50 rfl rfl ?_
  refine x_iadd C dX10_keep_51 ?_
  refine x_eqi (w := (16 : Int32)) (by decide) ?_
  refine x_aload_n C 1 dX10_keep_52 rfl rfl ?_
  refine gfX10_47 C dX10_keep_53 k134_19 rfl ?_
  refine x_iload_n C 0 dX10_keep_56 rfl rfl ?_
  have k146_19 := (congrFun eu19 146).trans (hup_n' (by decide) (k146_18))
  refine x_ialdk C 16 k146_19 (vp_in_lit (by decide) (by decide)) (by decide) dX10_keep_57 ?_
  refine x_eqi (w := (0 : Int32)) (by decide) ?_
  have k155_19 := (congrFun eu19 155).trans (hup_s _ _ _)
  refine x_iastk C 16 k155_19 (vp_in_lit (by decide) (by decide)) (by decide) dX10_keep_58 ?_
  obtain ⟨u20, eu20⟩ : ∃ w : HpT, w = (hup u19 155 (aI G 50 (upd (upd (upd (upd (upd (upd (upd (upd (upd (upd (upd (upd (upd (upd (upd (upd (upd (fun _ => 0) 0 (0 : Int32)) 1 (0 : Int32)) 2 (0 : Int32)) 3 (0 : Int32)) 4 (-1 : Int32)) 5 (0 : Int32)) 6 (-1 : Int32)) 7 (0 : Int32)) 8 (0 : Int32)) 9 (0 : Int32)) 10 (0 : Int32)) 11 (0 : Int32)) 12 (0 : Int32)) 13 (0 : Int32)) 14 (0 : Int32)) 15 (0 : Int32)) 16 (0 : Int32)))) := ⟨_, rfl⟩
  refine x_heap (u2 := u20) eu20.symm ?_
  refine x_iinc C 0 [(2, .int (17 : Int32)), (0, .ref (z + 134)), (1, .int (0 : Int32))] dX10_keep_59 rfl (by decide) (by decide) rfl ?_
  refine x_goto C 36 dX10_keep_62 (by decide) ?_
  refine x_iload_n C 0 dX10_keep_36 rfl rfl ?_
  refine x_bipush (v := (25 : Int32)) C dX10_keep_37 (by decide) ?_
  refine x_icmp_ge_f C 65 dX10_keep_39 (by decide) (by decide) ?_
  refine x_aload_n C 1 dX10_keep_42 rfl rfl ?_
  have k134_20 := (congrFun eu20 134).trans (hup_n' (by decide) (k134_19))
  refine gfX10_75 C dX10_keep_43 k134_20 rfl ?_
  refine x_bipush (v := (25 : Int32)) C dX10_keep_46 (by decide) ?_
  refine x_iload_n C 2 dX10_keep_48 rfl rfl ?_
  refine x_imul C dX10_keep_49 ?_
  refine x_eqi (w := (0 : Int32)) (by decide) ?_
  refine x_iload_n C 0 dX10_keep_50 rfl rfl ?_
  refine x_iadd C dX10_keep_51 ?_
  refine x_eqi (w := (17 : Int32)) (by decide) ?_
  refine x_aload_n C 1 dX10_keep_52 rfl rfl ?_
  refine gfX10_47 C dX10_keep_53 k134_20 rfl ?_
  refine x_iload_n C 0 dX10_keep_56 rfl rfl ?_
  have k146_20 := (congrFun eu20 146).trans (hup_n' (by decide) (k146_19))
  refine x_ialdk C 17 k146_20 (vp_in_lit (by decide) (by decide)) (by decide) dX10_keep_57 ?_
  refine x_eqi (w := (0 : Int32)) (by decide) ?_
  have k155_20 := (congrFun eu20 155).trans (hup_s _ _ _)
  refine x_iastk C 17 k155_20 (vp_in_lit (by decide) (by decide)) (by decide) dX10_keep_58 ?_
  obtain ⟨u21, eu21⟩ : ∃ w : HpT, w = (hup u20 155 (aI G 50 (upd (upd (upd (upd (upd (upd (upd (upd (upd (upd (upd (upd (upd (upd (upd (upd (upd (upd (fun _ => 0) 0 (0 : Int32)) 1 (0 : Int32)) 2 (0 : Int32)) 3 (0 : Int32)) 4 (-1 : Int32)) 5 (0 : Int32)) 6 (-1 : Int32)) 7 (0 : Int32)) 8 (0 : Int32)) 9 (0 : Int32)) 10 (0 : Int32)) 11 (0 : Int32)) 12 (0 : Int32)) 13 (0 : Int32)) 14 (0 : Int32)) 15 (0 : Int32)) 16 (0 : Int32)) 17 (0 : Int32)))) := ⟨_, rfl⟩
  refine x_heap (u2 := u21) eu21.symm ?_
  refine x_iinc C 0 [(2, .int (18 : Int32)), (0, .ref (z + 134)), (1, .int (0 : Int32))] dX10_keep_59 rfl (by decide) (by decide) rfl ?_
  refine x_goto C 36 dX10_keep_62 (by decide) ?_
  refine x_iload_n C 0 dX10_keep_36 rfl rfl ?_
  refine x_bipush (v := (25 : Int32)) C dX10_keep_37 (by decide) ?_
  refine x_icmp_ge_f C 65 dX10_keep_39 (by decide) (by decide) ?_
  refine x_aload_n C 1 dX10_keep_42 rfl rfl ?_
  have k134_21 := (congrFun eu21 134).trans (hup_n' (by decide) (k134_20))
  refine gfX10_75 C dX10_keep_43 k134_21 rfl ?_
  refine x_bipush (v := (25 : Int32)) C dX10_keep_46 (by decide) ?_
  refine x_iload_n C 2 dX10_keep_48 rfl rfl ?_
  refine x_imul C dX10_keep_49 ?_
  refine x_eqi (w := (0 : Int32)) (by decide) ?_
  refine x_iload_n C 0 dX10_keep_50 rfl rfl ?_
  refine x_iadd C dX10_keep_51 ?_
  refine x_eqi (w := (18 : Int32)) (by decide) ?_
  refine x_aload_n C 1 dX10_keep_52 rfl rfl ?_
  refine gfX10_47 C dX10_keep_53 k134_21 rfl ?_
  refine x_iload_n C 0 dX10_keep_56 rfl rfl ?_
  have k146_21 := (congrFun eu21 146).trans (hup_n' (by decide) (k146_20))
  refine x_ialdk C 18 k146_21 (vp_in_lit (by decide) (by decide)) (by decide) dX10_keep_57 ?_
  refine x_eqi (w := (0 : Int32)) (by decide) ?_
  have k155_21 := (congrFun eu21 155).trans (hup_s _ _ _)
  refine x_iastk C 18 k155_21 (vp_in_lit (by decide) (by decide)) (by decide) dX10_keep_58 ?_
  obtain ⟨u22, eu22⟩ : ∃ w : HpT, w = (hup u21 155 (aI G 50 (upd (upd (upd (upd (upd (upd (upd (upd (upd (upd (upd (upd (upd (upd (upd (upd (upd (upd (upd (fun _ => 0) 0 (0 : Int32)) 1 (0 : Int32)) 2 (0 : Int32)) 3 (0 : Int32)) 4 (-1 : Int32)) 5 (0 : Int32)) 6 (-1 : Int32)) 7 (0 : Int32)) 8 (0 : Int32)) 9 (0 : Int32)) 10 (0 : Int32)) 11 (0 : Int32)) 12 (0 : Int32)) 13 (0 : Int32)) 14 (0 : Int32)) 15 (0 : Int32)) 16 (0 : Int32)) 17 (0 : Int32)) 18 (0 : Int32)))) := ⟨_, rfl⟩
  refine x_heap (u2 := u22) eu22.symm ?_
  refine x_iinc C 0 [(2, .int (19 : Int32)), (0, .ref (z + 134)), (1, .int (0 : Int32))] dX10_keep_59 rfl (by decide) (by decide) rfl ?_
  refine x_goto C 36 dX10_keep_62 (by decide) ?_
  refine x_iload_n C 0 dX10_keep_36 rfl rfl ?_
  refine x_bipush (v := (25 : Int32)) C dX10_keep_37 (by decide) ?_
  refine x_icmp_ge_f C 65 dX10_keep_39 (by decide) (by decide) ?_
  refine x_aload_n C 1 dX10_keep_42 rfl rfl ?_
  have k134_22 := (congrFun eu22 134).trans (hup_n' (by decide) (k134_21))
  refine gfX10_75 C dX10_keep_43 k134_22 rfl ?_
  refine x_bipush (v := (25 : Int32)) C dX10_keep_46 (by decide) ?_
  refine x_iload_n C 2 dX10_keep_48 rfl rfl ?_
  refine x_imul C dX10_keep_49 ?_
  refine x_eqi (w := (0 : Int32)) (by decide) ?_
  refine x_iload_n C 0 dX10_keep_50 rfl rfl ?_
  refine x_iadd C dX10_keep_51 ?_
  refine x_eqi (w := (19 : Int32)) (by decide) ?_
  refine x_aload_n C 1 dX10_keep_52 rfl rfl ?_
  refine gfX10_47 C dX10_keep_53 k134_22 rfl ?_
  refine x_iload_n C 0 dX10_keep_56 rfl rfl ?_
  have k146_22 := (congrFun eu22 146).trans (hup_n' (by decide) (k146_21))
  refine x_ialdk C 19 k146_22 (vp_in_lit (by decide) (by decide)) (by decide) dX10_keep_57 ?_
  refine x_eqi (w := (0 : Int32)) (by decide) ?_
  have k155_22 := (congrFun eu22 155).trans (hup_s _ _ _)
  refine x_iastk C 19 k155_22 (vp_in_lit (by decide) (by decide)) (by decide) dX10_keep_58 ?_
  obtain ⟨u23, eu23⟩ : ∃ w : HpT, w = (hup u22 155 (aI G 50 (upd (upd (upd (upd (upd (upd (upd (upd (upd (upd (upd (upd (upd (upd (upd (upd (upd (upd (upd (upd (fun _ => 0) 0 (0 : Int32)) 1 (0 : Int32)) 2 (0 : Int32)) 3 (0 : Int32)) 4 (-1 : Int32)) 5 (0 : Int32)) 6 (-1 : Int32)) 7 (0 : Int32)) 8 (0 : Int32)) 9 (0 : Int32)) 10 (0 : Int32)) 11 (0 : Int32)) 12 (0 : Int32)) 13 (0 : Int32)) 14 (0 : Int32)) 15 (0 : Int32)) 16 (0 : Int32)) 17 (0 : Int32)) 18 (0 : Int32)) 19 (0 : Int32)))) := ⟨_, rfl⟩
  refine x_heap (u2 := u23) eu23.symm ?_
  refine x_iinc C 0 [(2, .int (20 : Int32)), (0, .ref (z + 134)), (1, .int (0 : Int32))] dX10_keep_59 rfl (by decide) (by decide) rfl ?_
  refine x_goto C 36 dX10_keep_62 (by decide) ?_
  refine x_iload_n C 0 dX10_keep_36 rfl rfl ?_
  refine x_bipush (v := (25 : Int32)) C dX10_keep_37 (by decide) ?_
  refine x_icmp_ge_f C 65 dX10_keep_39 (by decide) (by decide) ?_
  refine x_aload_n C 1 dX10_keep_42 rfl rfl ?_
  have k134_23 := (congrFun eu23 134).trans (hup_n' (by decide) (k134_22))
  refine gfX10_75 C dX10_keep_43 k134_23 rfl ?_
  refine x_bipush (v := (25 : Int32)) C dX10_keep_46 (by decide) ?_
  refine x_iload_n C 2 dX10_keep_48 rfl rfl ?_
  refine x_imul C dX10_keep_49 ?_
  refine x_eqi (w := (0 : Int32)) (by decide) ?_
  refine x_iload_n C 0 dX10_keep_50 rfl rfl ?_
  refine x_iadd C dX10_keep_51 ?_
  refine x_eqi (w := (20 : Int32)) (by decide) ?_
  refine x_aload_n C 1 dX10_keep_52 rfl rfl ?_
  refine gfX10_47 C dX10_keep_53 k134_23 rfl ?_
  refine x_iload_n C 0 dX10_keep_56 rfl rfl ?_
  have k146_23 := (congrFun eu23 146).trans (hup_n' (by decide) (k146_22))
  refine x_ialdk C 20 k146_23 (vp_in_lit (by decide) (by decide)) (by decide) dX10_keep_57 ?_
  refine x_eqi (w := (0 : Int32)) (by decide) ?_
  have k155_23 := (congrFun eu23 155).trans (hup_s _ _ _)
  refine x_iastk C 20 k155_23 (vp_in_lit (by decide) (by decide)) (by decide) dX10_keep_58 ?_
  obtain ⟨u24, eu24⟩ : ∃ w : HpT, w = (hup u23 155 (aI G 50 (upd (upd (upd (upd (upd (upd (upd (upd (upd (upd (upd (upd (upd (upd (upd (upd (upd (upd (upd (upd (upd (fun _ => 0) 0 (0 : Int32)) 1 (0 : Int32)) 2 (0 : Int32)) 3 (0 : Int32)) 4 (-1 : Int32)) 5 (0 : Int32)) 6 (-1 : Int32)) 7 (0 : Int32)) 8 (0 : Int32)) 9 (0 : Int32)) 10 (0 : Int32)) 11 (0 : Int32)) 12 (0 : Int32)) 13 (0 : Int32)) 14 (0 : Int32)) 15 (0 : Int32)) 16 (0 : Int32)) 17 (0 : Int32)) 18 (0 : Int32)) 19 (0 : Int32)) 20 (0 : Int32)))) := ⟨_, rfl⟩
  refine x_heap (u2 := u24) eu24.symm ?_
  refine x_iinc C 0 [(2, .int (21 : Int32)), (0, .ref (z + 134)), (1, .int (0 : Int32))] dX10_keep_59 rfl (by decide) (by decide) rfl ?_
  refine x_goto C 36 dX10_keep_62 (by decide) ?_
  refine x_iload_n C 0 dX10_keep_36 rfl rfl ?_
  refine x_bipush (v := (25 : Int32)) C dX10_keep_37 (by decide) ?_
  refine x_icmp_ge_f C 65 dX10_keep_39 (by decide) (by decide) ?_
  refine x_aload_n C 1 dX10_keep_42 rfl rfl ?_
  have k134_24 := (congrFun eu24 134).trans (hup_n' (by decide) (k134_23))
  refine gfX10_75 C dX10_keep_43 k134_24 rfl ?_
  refine x_bipush (v := (25 : Int32)) C dX10_keep_46 (by decide) ?_
  refine x_iload_n C 2 dX10_keep_48 rfl rfl ?_
  refine x_imul C dX10_keep_49 ?_
  refine x_eqi (w := (0 : Int32)) (by decide) ?_
  refine x_iload_n C 0 dX10_keep_50 rfl rfl ?_
  refine x_iadd C dX10_keep_51 ?_
  refine x_eqi (w := (21 : Int32)) (by decide) ?_
  refine x_aload_n C 1 dX10_keep_52 rfl rfl ?_
  refine gfX10_47 C dX10_keep_53 k134_24 rfl ?_
  refine x_iload_n C 0 dX10_keep_56 rfl rfl ?_
  have k146_24 := (congrFun eu24 146).trans (hup_n' (by decide) (k146_23))
  refine x_ialdk C 21 k146_24 (vp_in_lit (by decide) (by decide)) (by decide) dX10_keep_57 ?_
  refine x_eqi (w := (0 : Int32)) (by decide) ?_
  have k155_24 := (congrFun eu24 155).trans (hup_s _ _ _)
  refine x_iastk C 21 k155_24 (vp_in_lit (by decide) (by decide)) (by decide) dX10_keep_58 ?_
  obtain ⟨u25, eu25⟩ : ∃ w : HpT, w = (hup u24 155 (aI G 50 (upd (upd (upd (upd (upd (upd (upd (upd (upd (upd (upd (upd (upd (upd (upd (upd (upd (upd (upd (upd (upd (upd (fun _ => 0) 0 (0 : Int32)) 1 (0 : Int32)) 2 (0 : Int32)) 3 (0 : Int32)) 4 (-1 : Int32)) 5 (0 : Int32)) 6 (-1 : Int32)) 7 (0 : Int32)) 8 (0 : Int32)) 9 (0 : Int32)) 10 (0 : Int32)) 11 (0 : Int32)) 12 (0 : Int32)) 13 (0 : Int32)) 14 (0 : Int32)) 15 (0 : Int32)) 16 (0 : Int32)) 17 (0 : Int32)) 18 (0 : Int32)) 19 (0 : Int32)) 20 (0 : Int32)) 21 (0 : Int32)))) := ⟨_, rfl⟩
  refine x_heap (u2 := u25) eu25.symm ?_
  refine x_iinc C 0 [(2, .int (22 : Int32)), (0, .ref (z + 134)), (1, .int (0 : Int32))] dX10_keep_59 rfl (by decide) (by decide) rfl ?_
  refine x_goto C 36 dX10_keep_62 (by decide) ?_
  refine x_iload_n C 0 dX10_keep_36 rfl rfl ?_
  refine x_bipush (v := (25 : Int32)) C dX10_keep_37 (by decide) ?_
  refine x_icmp_ge_f C 65 dX10_keep_39 (by decide) (by decide) ?_
  refine x_aload_n C 1 dX10_keep_42 rfl rfl ?_
  have k134_25 := (congrFun eu25 134).trans (hup_n' (by decide) (k134_24))
  refine gfX10_75 C dX10_keep_43 k134_25 rfl ?_
  refine x_bipush (v := (25 : Int32)) C dX10_keep_46 (by decide) ?_
  refine x_iload_n C 2 dX10_keep_48 rfl rfl ?_
  refine x_imul C dX10_keep_49 ?_
  refine x_eqi (w := (0 : Int32)) (by decide) ?_
  refine x_iload_n C 0 dX10_keep_50 rfl rfl ?_
  refine x_iadd C dX10_keep_51 ?_
  refine x_eqi (w := (22 : Int32)) (by decide) ?_
  refine x_aload_n C 1 dX10_keep_52 rfl rfl ?_
  refine gfX10_47 C dX10_keep_53 k134_25 rfl ?_
  refine x_iload_n C 0 dX10_keep_56 rfl rfl ?_
  have k146_25 := (congrFun eu25 146).trans (hup_n' (by decide) (k146_24))
  refine x_ialdk C 22 k146_25 (vp_in_lit (by decide) (by decide)) (by decide) dX10_keep_57 ?_
  refine x_eqi (w := (0 : Int32)) (by decide) ?_
  have k155_25 := (congrFun eu25 155).trans (hup_s _ _ _)
  refine x_iastk C 22 k155_25 (vp_in_lit (by decide) (by decide)) (by decide) dX10_keep_58 ?_
  obtain ⟨u26, eu26⟩ : ∃ w : HpT, w = (hup u25 155 (aI G 50 (upd (upd (upd (upd (upd (upd (upd (upd (upd (upd (upd (upd (upd (upd (upd (upd (upd (upd (upd (upd (upd (upd (upd (fun _ => 0) 0 (0 : Int32)) 1 (0 : Int32)) 2 (0 : Int32)) 3 (0 : Int32)) 4 (-1 : Int32)) 5 (0 : Int32)) 6 (-1 : Int32)) 7 (0 : Int32)) 8 (0 : Int32)) 9 (0 : Int32)) 10 (0 : Int32)) 11 (0 : Int32)) 12 (0 : Int32)) 13 (0 : Int32)) 14 (0 : Int32)) 15 (0 : Int32)) 16 (0 : Int32)) 17 (0 : Int32)) 18 (0 : Int32)) 19 (0 : Int32)) 20 (0 : Int32)) 21 (0 : Int32)) 22 (0 : Int32)))) := ⟨_, rfl⟩
  refine x_heap (u2 := u26) eu26.symm ?_
  refine x_iinc C 0 [(2, .int (23 : Int32)), (0, .ref (z + 134)), (1, .int (0 : Int32))] dX10_keep_59 rfl (by decide) (by decide) rfl ?_
  refine x_goto C 36 dX10_keep_62 (by decide) ?_
  refine x_iload_n C 0 dX10_keep_36 rfl rfl ?_
  refine x_bipush (v := (25 : Int32)) C dX10_keep_37 (by decide) ?_
  refine x_icmp_ge_f C 65 dX10_keep_39 (by decide) (by decide) ?_
  refine x_aload_n C 1 dX10_keep_42 rfl rfl ?_
  have k134_26 := (congrFun eu26 134).trans (hup_n' (by decide) (k134_25))
  refine gfX10_75 C dX10_keep_43 k134_26 rfl ?_
  refine x_bipush (v := (25 : Int32)) C dX10_keep_46 (by decide) ?_
  refine x_iload_n C 2 dX10_keep_48 rfl rfl ?_
  refine x_imul C dX10_keep_49 ?_
  refine x_eqi (w := (0 : Int32)) (by decide) ?_
  refine x_iload_n C 0 dX10_keep_50 rfl rfl ?_
  refine x_iadd C dX10_keep_51 ?_
  refine x_eqi (w := (23 : Int32)) (by decide) ?_
  refine x_aload_n C 1 dX10_keep_52 rfl rfl ?_
  refine gfX10_47 C dX10_keep_53 k134_26 rfl ?_
  refine x_iload_n C 0 dX10_keep_56 rfl rfl ?_
  have k146_26 := (congrFun eu26 146).trans (hup_n' (by decide) (k146_25))
  refine x_ialdk C 23 k146_26 (vp_in_lit (by decide) (by decide)) (by decide) dX10_keep_57 ?_
  refine x_eqi (w := (0 : Int32)) (by decide) ?_
  have k155_26 := (congrFun eu26 155).trans (hup_s _ _ _)
  refine x_iastk C 23 k155_26 (vp_in_lit (by decide) (by decide)) (by decide) dX10_keep_58 ?_
  obtain ⟨u27, eu27⟩ : ∃ w : HpT, w = (hup u26 155 (aI G 50 (upd (upd (upd (upd (upd (upd (upd (upd (upd (upd (upd (upd (upd (upd (upd (upd (upd (upd (upd (upd (upd (upd (upd (upd (fun _ => 0) 0 (0 : Int32)) 1 (0 : Int32)) 2 (0 : Int32)) 3 (0 : Int32)) 4 (-1 : Int32)) 5 (0 : Int32)) 6 (-1 : Int32)) 7 (0 : Int32)) 8 (0 : Int32)) 9 (0 : Int32)) 10 (0 : Int32)) 11 (0 : Int32)) 12 (0 : Int32)) 13 (0 : Int32)) 14 (0 : Int32)) 15 (0 : Int32)) 16 (0 : Int32)) 17 (0 : Int32)) 18 (0 : Int32)) 19 (0 : Int32)) 20 (0 : Int32)) 21 (0 : Int32)) 22 (0 : Int32)) 23 (0 : Int32)))) := ⟨_, rfl⟩
  refine x_heap (u2 := u27) eu27.symm ?_
  refine x_iinc C 0 [(2, .int (24 : Int32)), (0, .ref (z + 134)), (1, .int (0 : Int32))] dX10_keep_59 rfl (by decide) (by decide) rfl ?_
  refine x_goto C 36 dX10_keep_62 (by decide) ?_
  refine x_iload_n C 0 dX10_keep_36 rfl rfl ?_
  refine x_bipush (v := (25 : Int32)) C dX10_keep_37 (by decide) ?_
  refine x_icmp_ge_f C 65 dX10_keep_39 (by decide) (by decide) ?_
  refine x_aload_n C 1 dX10_keep_42 rfl rfl ?_
  have k134_27 := (congrFun eu27 134).trans (hup_n' (by decide) (k134_26))
  refine gfX10_75 C dX10_keep_43 k134_27 rfl ?_
  refine x_bipush (v := (25 : Int32)) C dX10_keep_46 (by decide) ?_
  refine x_iload_n C 2 dX10_keep_48 rfl rfl ?_
  refine x_imul C dX10_keep_49 ?_
  refine x_eqi (w := (0 : Int32)) (by decide) ?_
  refine x_iload_n C 0 dX10_keep_50 rfl rfl ?_
  refine x_iadd C dX10_keep_51 ?_
  refine x_eqi (w := (24 : Int32)) (by decide) ?_
  refine x_aload_n C 1 dX10_keep_52 rfl rfl ?_
  refine gfX10_47 C dX10_keep_53 k134_27 rfl ?_
  refine x_iload_n C 0 dX10_keep_56 rfl rfl ?_
  have k146_27 := (congrFun eu27 146).trans (hup_n' (by decide) (k146_26))
  refine x_ialdk C 24 k146_27 (vp_in_lit (by decide) (by decide)) (by decide) dX10_keep_57 ?_
  refine x_eqi (w := (0 : Int32)) (by decide) ?_
  have k155_27 := (congrFun eu27 155).trans (hup_s _ _ _)
  refine x_iastk C 24 k155_27 (vp_in_lit (by decide) (by decide)) (by decide) dX10_keep_58 ?_
  obtain ⟨u28, eu28⟩ : ∃ w : HpT, w = (hup u27 155 (aI G 50 (upd (upd (upd (upd (upd (upd (upd (upd (upd (upd (upd (upd (upd (upd (upd (upd (upd (upd (upd (upd (upd (upd (upd (upd (upd (fun _ => 0) 0 (0 : Int32)) 1 (0 : Int32)) 2 (0 : Int32)) 3 (0 : Int32)) 4 (-1 : Int32)) 5 (0 : Int32)) 6 (-1 : Int32)) 7 (0 : Int32)) 8 (0 : Int32)) 9 (0 : Int32)) 10 (0 : Int32)) 11 (0 : Int32)) 12 (0 : Int32)) 13 (0 : Int32)) 14 (0 : Int32)) 15 (0 : Int32)) 16 (0 : Int32)) 17 (0 : Int32)) 18 (0 : Int32)) 19 (0 : Int32)) 20 (0 : Int32)) 21 (0 : Int32)) 22 (0 : Int32)) 23 (0 : Int32)) 24 (0 : Int32)))) := ⟨_, rfl⟩
  refine x_heap (u2 := u28) eu28.symm ?_
  refine x_iinc C 0 [(2, .int (25 : Int32)), (0, .ref (z + 134)), (1, .int (0 : Int32))] dX10_keep_59 rfl (by decide) (by decide) rfl ?_
  refine x_goto C 36 dX10_keep_62 (by decide) ?_
  refine x_iload_n C 0 dX10_keep_36 rfl rfl ?_
  refine x_bipush (v := (25 : Int32)) C dX10_keep_37 (by decide) ?_
  refine x_icmp_ge_t C 65 dX10_keep_39 (by decide) (by decide) ?_
  refine x_iconst (v := (1 : Int32)) C dX10_keep_65 (by decide) ?_
  exact x_iret C hr hlk (Nat.le_of_ble_eq_true rfl) (Nat.le_of_ble_eq_true rfl) dX10_keep_66 rfl (by rw [eu28, eu27, eu26, eu25, eu24, eu23, eu22, eu21, eu20, eu19, eu18, eu17, eu16, eu15, eu14, eu13, eu12, eu11, eu10, eu9, eu8, eu7, eu6, eu5, eu4, eu3, eu2, eu1]; simp only [hup_hup, hup_sk, ne_eq, Nat.reduceEqDiff, not_false_eq_true]) rfl
set_option maxRecDepth 20000 in
theorem p_X3_copyFrom_1 {G : GT} {l : Launch} {z n : Nat} (u : HpT) (h3 : u 3 = some (.inr (2, [.int (0 : Int32), .int (0 : Int32), .int (0 : Int32), .int (0 : Int32), .int (-1 : Int32), .int (0 : Int32), .int (-1 : Int32), .int (0 : Int32), .int (0 : Int32), .int (0 : Int32), .ref (z + 4), .ref (z + 5)]))) (h4 : u 4 = some (aI G 6 (fun _ => 0))) (h5 : u 5 = some (aI G 6 (fun _ => 0))) (h131 : u 131 = some (.inr (2, [.int (0 : Int32), .int (0 : Int32), .int (0 : Int32), .int (0 : Int32), .int (-1 : Int32), .int (0 : Int32), .int (-1 : Int32), .int (0 : Int32), .int (0 : Int32), .int (0 : Int32), .ref (z + 132), .ref (z + 133)]))) (h132 : u 132 = some (aI G 6 (fun _ => 0))) (h133 : u 133 = some (aI G 6 (fun _ => 0))) : Mt G l z yX3_copyFrom cX3_copyFrom 3 none { frames := 0, cells := 0, slots := 0, locals := 0 } [.ref (z + 131), .ref (z + 3)] u n none (hup (hup (hup u 131 (.inr (2, [.int (0 : Int32), .int (0 : Int32), .int (0 : Int32), .int (0 : Int32), .int (-1 : Int32), .int (0 : Int32), .int (-1 : Int32), .int (0 : Int32), .int (0 : Int32), .int (0 : Int32), .ref (z + 132), .ref (z + 133)]))) 132 (aI G 6 (upd (upd (upd (upd (upd (upd (fun _ => 0) 0 (0 : Int32)) 1 (0 : Int32)) 2 (0 : Int32)) 3 (0 : Int32)) 4 (0 : Int32)) 5 (0 : Int32)))) 133 (aI G 6 (upd (upd (upd (upd (upd (upd (fun _ => 0) 0 (0 : Int32)) 1 (0 : Int32)) 2 (0 : Int32)) 3 (0 : Int32)) 4 (0 : Int32)) 5 (0 : Int32)))) n := by
  refine mt_of (by decide +kernel) (Nat.le_of_ble_eq_true rfl) ?_
  intro p e s m below meth c C hr hlk hnm
  refine x_aload_n C 0 dX3_copyFrom_0 rfl rfl ?_
  refine x_aload_n C 1 dX3_copyFrom_1 rfl rfl ?_
  refine gfX3_9 C dX3_copyFrom_2 h3 rfl ?_
  obtain ⟨u1, eu1⟩ : ∃ w : HpT, w = (hup u 131 (.inr (2, [.int (0 : Int32), .int (0 : Int32), .int (0 : Int32), .int (0 : Int32), .int (-1 : Int32), .int (0 : Int32), .int (-1 : Int32), .int (0 : Int32), .int (0 : Int32), .int (0 : Int32), .ref (z + 132), .ref (z + 133)]))) := ⟨_, rfl⟩
  refine pfX3_9 C dX3_copyFrom_5 h131 (Nat.le_of_ble_eq_true rfl) rfl eu1.symm ?_
  refine x_aload_n C 0 dX3_copyFrom_8 rfl rfl ?_
  refine x_aload_n C 1 dX3_copyFrom_9 rfl rfl ?_
  have k3_1 := (congrFun eu1 3).trans (hup_n' (by decide) (h3))
  refine gfX3_15 C dX3_copyFrom_10 k3_1 rfl ?_
  have k131_1 := (congrFun eu1 131).trans (hup_s _ _ _)
  obtain ⟨u2, eu2⟩ : ∃ w : HpT, w = (hup u1 131 (.inr (2, [.int (0 : Int32), .int (0 : Int32), .int (0 : Int32), .int (0 : Int32), .int (-1 : Int32), .int (0 : Int32), .int (-1 : Int32), .int (0 : Int32), .int (0 : Int32), .int (0 : Int32), .ref (z + 132), .ref (z + 133)]))) := ⟨_, rfl⟩
  refine pfX3_15 C dX3_copyFrom_13 k131_1 (Nat.le_of_ble_eq_true rfl) rfl eu2.symm ?_
  refine x_aload_n C 0 dX3_copyFrom_16 rfl rfl ?_
  refine x_aload_n C 1 dX3_copyFrom_17 rfl rfl ?_
  have k3_2 := (congrFun eu2 3).trans (hup_n' (by decide) (k3_1))
  refine gfX3_18 C dX3_copyFrom_18 k3_2 rfl ?_
  have k131_2 := (congrFun eu2 131).trans (hup_s _ _ _)
  obtain ⟨u3, eu3⟩ : ∃ w : HpT, w = (hup u2 131 (.inr (2, [.int (0 : Int32), .int (0 : Int32), .int (0 : Int32), .int (0 : Int32), .int (-1 : Int32), .int (0 : Int32), .int (-1 : Int32), .int (0 : Int32), .int (0 : Int32), .int (0 : Int32), .ref (z + 132), .ref (z + 133)]))) := ⟨_, rfl⟩
  refine pfX3_18 C dX3_copyFrom_21 k131_2 (Nat.le_of_ble_eq_true rfl) rfl eu3.symm ?_
  refine x_aload_n C 0 dX3_copyFrom_24 rfl rfl ?_
  refine x_aload_n C 1 dX3_copyFrom_25 rfl rfl ?_
  have k3_3 := (congrFun eu3 3).trans (hup_n' (by decide) (k3_2))
  refine gfX3_21 C dX3_copyFrom_26 k3_3 rfl ?_
  have k131_3 := (congrFun eu3 131).trans (hup_s _ _ _)
  obtain ⟨u4, eu4⟩ : ∃ w : HpT, w = (hup u3 131 (.inr (2, [.int (0 : Int32), .int (0 : Int32), .int (0 : Int32), .int (0 : Int32), .int (-1 : Int32), .int (0 : Int32), .int (-1 : Int32), .int (0 : Int32), .int (0 : Int32), .int (0 : Int32), .ref (z + 132), .ref (z + 133)]))) := ⟨_, rfl⟩
  refine pfX3_21 C dX3_copyFrom_29 k131_3 (Nat.le_of_ble_eq_true rfl) rfl eu4.symm ?_
  refine x_aload_n C 0 dX3_copyFrom_32 rfl rfl ?_
  refine x_aload_n C 1 dX3_copyFrom_33 rfl rfl ?_
  have k3_4 := (congrFun eu4 3).trans (hup_n' (by decide) (k3_3))
  refine gfX3_24 C dX3_copyFrom_34 k3_4 rfl ?_
  have k131_4 := (congrFun eu4 131).trans (hup_s _ _ _)
  obtain ⟨u5, eu5⟩ : ∃ w : HpT, w = (hup u4 131 (.inr (2, [.int (0 : Int32), .int (0 : Int32), .int (0 : Int32), .int (0 : Int32), .int (-1 : Int32), .int (0 : Int32), .int (-1 : Int32), .int (0 : Int32), .int (0 : Int32), .int (0 : Int32), .ref (z + 132), .ref (z + 133)]))) := ⟨_, rfl⟩
  refine pfX3_24 C dX3_copyFrom_37 k131_4 (Nat.le_of_ble_eq_true rfl) rfl eu5.symm ?_
  refine x_aload_n C 0 dX3_copyFrom_40 rfl rfl ?_
  refine x_aload_n C 1 dX3_copyFrom_41 rfl rfl ?_
  have k3_5 := (congrFun eu5 3).trans (hup_n' (by decide) (k3_4))
  refine gfX3_27 C dX3_copyFrom_42 k3_5 rfl ?_
  have k131_5 := (congrFun eu5 131).trans (hup_s _ _ _)
  obtain ⟨u6, eu6⟩ : ∃ w : HpT, w = (hup u5 131 (.inr (2, [.int (0 : Int32), .int (0 : Int32), .int (0 : Int32), .int (0 : Int32), .int (-1 : Int32), .int (0 : Int32), .int (-1 : Int32), .int (0 : Int32), .int (0 : Int32), .int (0 : Int32), .ref (z + 132), .ref (z + 133)]))) := ⟨_, rfl⟩
  refine pfX3_27 C dX3_copyFrom_45 k131_5 (Nat.le_of_ble_eq_true rfl) rfl eu6.symm ?_
  refine x_aload_n C 0 dX3_copyFrom_48 rfl rfl ?_
  refine x_aload_n C 1 dX3_copyFrom_49 rfl rfl ?_
  have k3_6 := (congrFun eu6 3).trans (hup_n' (by decide) (k3_5))
  refine gfX3_30 C dX3_copyFrom_50 k3_6 rfl ?_
  have k131_6 := (congrFun eu6 131).trans (hup_s _ _ _)
  obtain ⟨u7, eu7⟩ : ∃ w : HpT, w = (hup u6 131 (.inr (2, [.int (0 : Int32), .int (0 : Int32), .int (0 : Int32), .int (0 : Int32), .int (-1 : Int32), .int (0 : Int32), .int (-1 : Int32), .int (0 : Int32), .int (0 : Int32), .int (0 : Int32), .ref (z + 132), .ref (z + 133)]))) := ⟨_, rfl⟩
  refine pfX3_30 C dX3_copyFrom_53 k131_6 (Nat.le_of_ble_eq_true rfl) rfl eu7.symm ?_
  refine x_aload_n C 0 dX3_copyFrom_56 rfl rfl ?_
  refine x_aload_n C 1 dX3_copyFrom_57 rfl rfl ?_
  have k3_7 := (congrFun eu7 3).trans (hup_n' (by decide) (k3_6))
  refine gfX3_33 C dX3_copyFrom_58 k3_7 rfl ?_
  have k131_7 := (congrFun eu7 131).trans (hup_s _ _ _)
  obtain ⟨u8, eu8⟩ : ∃ w : HpT, w = (hup u7 131 (.inr (2, [.int (0 : Int32), .int (0 : Int32), .int (0 : Int32), .int (0 : Int32), .int (-1 : Int32), .int (0 : Int32), .int (-1 : Int32), .int (0 : Int32), .int (0 : Int32), .int (0 : Int32), .ref (z + 132), .ref (z + 133)]))) := ⟨_, rfl⟩
  refine pfX3_33 C dX3_copyFrom_61 k131_7 (Nat.le_of_ble_eq_true rfl) rfl eu8.symm ?_
  refine x_aload_n C 0 dX3_copyFrom_64 rfl rfl ?_
  refine x_aload_n C 1 dX3_copyFrom_65 rfl rfl ?_
  have k3_8 := (congrFun eu8 3).trans (hup_n' (by decide) (k3_7))
  refine gfX3_36 C dX3_copyFrom_66 k3_8 rfl ?_
  have k131_8 := (congrFun eu8 131).trans (hup_s _ _ _)
  obtain ⟨u9, eu9⟩ : ∃ w : HpT, w = (hup u8 131 (.inr (2, [.int (0 : Int32), .int (0 : Int32), .int (0 : Int32), .int (0 : Int32), .int (-1 : Int32), .int (0 : Int32), .int (-1 : Int32), .int (0 : Int32), .int (0 : Int32), .int (0 : Int32), .ref (z + 132), .ref (z + 133)]))) := ⟨_, rfl⟩
  refine pfX3_36 C dX3_copyFrom_69 k131_8 (Nat.le_of_ble_eq_true rfl) rfl eu9.symm ?_
  refine x_aload_n C 0 dX3_copyFrom_72 rfl rfl ?_
  refine x_aload_n C 1 dX3_copyFrom_73 rfl rfl ?_
  have k3_9 := (congrFun eu9 3).trans (hup_n' (by decide) (k3_8))
  refine gfX3_39 C dX3_copyFrom_74 k3_9 rfl ?_
  have k131_9 := (congrFun eu9 131).trans (hup_s _ _ _)
  obtain ⟨u10, eu10⟩ : ∃ w : HpT, w = (hup u9 131 (.inr (2, [.int (0 : Int32), .int (0 : Int32), .int (0 : Int32), .int (0 : Int32), .int (-1 : Int32), .int (0 : Int32), .int (-1 : Int32), .int (0 : Int32), .int (0 : Int32), .int (0 : Int32), .ref (z + 132), .ref (z + 133)]))) := ⟨_, rfl⟩
  refine pfX3_39 C dX3_copyFrom_77 k131_9 (Nat.le_of_ble_eq_true rfl) rfl eu10.symm ?_
  refine x_iconst (v := (0 : Int32)) C dX3_copyFrom_80 (by decide) ?_
  refine x_istore_n C [(2, .int (0 : Int32)), (0, .ref (z + 131)), (1, .ref (z + 3))] dX3_copyFrom_81 rfl (by decide) rfl ?_
  refine x_iload_n C 0 dX3_copyFrom_82 rfl rfl ?_
  refine x_bipush (v := (6 : Int32)) C dX3_copyFrom_83 (by decide) ?_
  refine x_icmp_ge_f C 118 dX3_copyFrom_85 (by decide) (by decide) ?_
  refine x_aload_n C 1 dX3_copyFrom_88 rfl rfl ?_
  have k131_10 := (congrFun eu10 131).trans (hup_s _ _ _)
  refine gfX3_42 C dX3_copyFrom_89 k131_10 rfl ?_
  refine x_iload_n C 0 dX3_copyFrom_92 rfl rfl ?_
  refine x_aload_n C 2 dX3_copyFrom_93 rfl rfl ?_
  have k3_10 := (congrFun eu10 3).trans (hup_n' (by decide) (k3_9))
  refine gfX3_42 C dX3_copyFrom_94 k3_10 rfl ?_
  refine x_iload_n C 0 dX3_copyFrom_97 rfl rfl ?_
  have k4_1 := (congrFun eu1 4).trans (hup_n' (by decide) (h4))
  have k4_2 := (congrFun eu2 4).trans (hup_n' (by decide) (k4_1))
  have k4_3 := (congrFun eu3 4).trans (hup_n' (by decide) (k4_2))
  have k4_4 := (congrFun eu4 4).trans (hup_n' (by decide) (k4_3))
  have k4_5 := (congrFun eu5 4).trans (hup_n' (by decide) (k4_4))
  have k4_6 := (congrFun eu6 4).trans (hup_n' (by decide) (k4_5))
  have k4_7 := (congrFun eu7 4).trans (hup_n' (by decide) (k4_6))
  have k4_8 := (congrFun eu8 4).trans (hup_n' (by decide) (k4_7))
  have k4_9 := (congrFun eu9 4).trans (hup_n' (by decide) (k4_8))
  have k4_10 := (congrFun eu10 4).trans (hup_n' (by decide) (k4_9))
  refine x_ialdk C 0 k4_10 (vp_in_lit (by decide) (by decide)) (by decide) dX3_copyFrom_98 ?_
  refine x_eqi (w := (0 : Int32)) (by decide) ?_
  have k132_1 := (congrFun eu1 132).trans (hup_n' (by decide) (h132))
  have k132_2 := (congrFun eu2 132).trans (hup_n' (by decide) (k132_1))
  have k132_3 := (congrFun eu3 132).trans (hup_n' (by decide) (k132_2))
  have k132_4 := (congrFun eu4 132).trans (hup_n' (by decide) (k132_3))
  have k132_5 := (congrFun eu5 132).trans (hup_n' (by decide) (k132_4))
  have k132_6 := (congrFun eu6 132).trans (hup_n' (by decide) (k132_5))
  have k132_7 := (congrFun eu7 132).trans (hup_n' (by decide) (k132_6))
  have k132_8 := (congrFun eu8 132).trans (hup_n' (by decide) (k132_7))
  have k132_9 := (congrFun eu9 132).trans (hup_n' (by decide) (k132_8))
  have k132_10 := (congrFun eu10 132).trans (hup_n' (by decide) (k132_9))
  refine x_iastk C 0 k132_10 (vp_in_lit (by decide) (by decide)) (by decide) dX3_copyFrom_99 ?_
  obtain ⟨u11, eu11⟩ : ∃ w : HpT, w = (hup u10 132 (aI G 6 (upd (fun _ => 0) 0 (0 : Int32)))) := ⟨_, rfl⟩
  refine x_heap (u2 := u11) eu11.symm ?_
  refine x_aload_n C 1 dX3_copyFrom_100 rfl rfl ?_
  have k131_11 := (congrFun eu11 131).trans (hup_n' (by decide) (k131_10))
  refine gfX3_46 C dX3_copyFrom_101 k131_11 rfl ?_
  refine x_iload_n C 0 dX3_copyFrom_104 rfl rfl ?_
  refine x_aload_n C 2 dX3_copyFrom_105 rfl rfl ?_
  have k3_11 := (congrFun eu11 3).trans (hup_n' (by decide) (k3_10))
  refine gfX3_46 C dX3_copyFrom_106 k3_11 rfl ?_
  refine x_iload_n C 0 dX3_copyFrom_109 rfl rfl ?_
  have k5_1 := (congrFun eu1 5).trans (hup_n' (by decide) (h5))
  have k5_2 := (congrFun eu2 5).trans (hup_n' (by decide) (k5_1))
  have k5_3 := (congrFun eu3 5).trans (hup_n' (by decide) (k5_2))
  have k5_4 := (congrFun eu4 5).trans (hup_n' (by decide) (k5_3))
  have k5_5 := (congrFun eu5 5).trans (hup_n' (by decide) (k5_4))
  have k5_6 := (congrFun eu6 5).trans (hup_n' (by decide) (k5_5))
  have k5_7 := (congrFun eu7 5).trans (hup_n' (by decide) (k5_6))
  have k5_8 := (congrFun eu8 5).trans (hup_n' (by decide) (k5_7))
  have k5_9 := (congrFun eu9 5).trans (hup_n' (by decide) (k5_8))
  have k5_10 := (congrFun eu10 5).trans (hup_n' (by decide) (k5_9))
  have k5_11 := (congrFun eu11 5).trans (hup_n' (by decide) (k5_10))
  refine x_ialdk C 0 k5_11 (vp_in_lit (by decide) (by decide)) (by decide) dX3_copyFrom_110 ?_
  refine x_eqi (w := (0 : Int32)) (by decide) ?_
  have k133_1 := (congrFun eu1 133).trans (hup_n' (by decide) (h133))
  have k133_2 := (congrFun eu2 133).trans (hup_n' (by decide) (k133_1))
  have k133_3 := (congrFun eu3 133).trans (hup_n' (by decide) (k133_2))
  have k133_4 := (congrFun eu4 133).trans (hup_n' (by decide) (k133_3))
  have k133_5 := (congrFun eu5 133).trans (hup_n' (by decide) (k133_4))
  have k133_6 := (congrFun eu6 133).trans (hup_n' (by decide) (k133_5))
  have k133_7 := (congrFun eu7 133).trans (hup_n' (by decide) (k133_6))
  have k133_8 := (congrFun eu8 133).trans (hup_n' (by decide) (k133_7))
  have k133_9 := (congrFun eu9 133).trans (hup_n' (by decide) (k133_8))
  have k133_10 := (congrFun eu10 133).trans (hup_n' (by decide) (k133_9))
  have k133_11 := (congrFun eu11 133).trans (hup_n' (by decide) (k133_10))
  refine x_iastk C 0 k133_11 (vp_in_lit (by decide) (by decide)) (by decide) dX3_copyFrom_111 ?_
  obtain ⟨u12, eu12⟩ : ∃ w : HpT, w = (hup u11 133 (aI G 6 (upd (fun _ => 0) 0 (0 : Int32)))) := ⟨_, rfl⟩
  refine x_heap (u2 := u12) eu12.symm ?_
  refine x_iinc C 0 [(2, .int (1 : Int32)), (0, .ref (z + 131)), (1, .ref (z + 3))] dX3_copyFrom_112 rfl (by decide) (by decide) rfl ?_
  refine x_goto C 82 dX3_copyFrom_115 (by decide) ?_
  refine x_iload_n C 0 dX3_copyFrom_82 rfl rfl ?_
  refine x_bipush (v := (6 : Int32)) C dX3_copyFrom_83 (by decide) ?_
  refine x_icmp_ge_f C 118 dX3_copyFrom_85 (by decide) (by decide) ?_
  refine x_aload_n C 1 dX3_copyFrom_88 rfl rfl ?_
  have k131_12 := (congrFun eu12 131).trans (hup_n' (by decide) (k131_11))
  refine gfX3_42 C dX3_copyFrom_89 k131_12 rfl ?_
  refine x_iload_n C 0 dX3_copyFrom_92 rfl rfl ?_
  refine x_aload_n C 2 dX3_copyFrom_93 rfl rfl ?_
  have k3_12 := (congrFun eu12 3).trans (hup_n' (by decide) (k3_11))
  refine gfX3_42 C dX3_copyFrom_94 k3_12 rfl ?_
  refine x_iload_n C 0 dX3_copyFrom_97 rfl rfl ?_
  have k4_11 := (congrFun eu11 4).trans (hup_n' (by decide) (k4_10))
  have k4_12 := (congrFun eu12 4).trans (hup_n' (by decide) (k4_11))
  refine x_ialdk C 1 k4_12 (vp_in_lit (by decide) (by decide)) (by decide) dX3_copyFrom_98 ?_
  refine x_eqi (w := (0 : Int32)) (by decide) ?_
  have k132_11 := (congrFun eu11 132).trans (hup_s _ _ _)
  have k132_12 := (congrFun eu12 132).trans (hup_n' (by decide) (k132_11))
  refine x_iastk C 1 k132_12 (vp_in_lit (by decide) (by decide)) (by decide) dX3_copyFrom_99 ?_
  obtain ⟨u13, eu13⟩ : ∃ w : HpT, w = (hup u12 132 (aI G 6 (upd (upd (fun _ => 0) 0 (0 : Int32)) 1 (0 : Int32)))) := ⟨_, rfl⟩
  refine x_heap (u2 := u13) eu13.symm ?_
  refine x_aload_n C 1 dX3_copyFrom_100 rfl rfl ?_
  have k131_13 := (congrFun eu13 131).trans (hup_n' (by decide) (k131_12))
  refine gfX3_46 C dX3_copyFrom_101 k131_13 rfl ?_
  refine x_iload_n C 0 dX3_copyFrom_104 rfl rfl ?_
  refine x_aload_n C 2 dX3_copyFrom_105 rfl rfl ?_
  have k3_13 := (congrFun eu13 3).trans (hup_n' (by decide) (k3_12))
  refine gfX3_46 C dX3_copyFrom_106 k3_13 rfl ?_
  refine x_iload_n C 0 dX3_copyFrom_109 rfl rfl ?_
  have k5_12 := (congrFun eu12 5).trans (hup_n' (by decide) (k5_11))
  have k5_13 := (congrFun eu13 5).trans (hup_n' (by decide) (k5_12))
  refine x_ialdk C 1 k5_13 (vp_in_lit (by decide) (by decide)) (by decide) dX3_copyFrom_110 ?_
  refine x_eqi (w := (0 : Int32)) (by decide) ?_
  have k133_12 := (congrFun eu12 133).trans (hup_s _ _ _)
  have k133_13 := (congrFun eu13 133).trans (hup_n' (by decide) (k133_12))
  refine x_iastk C 1 k133_13 (vp_in_lit (by decide) (by decide)) (by decide) dX3_copyFrom_111 ?_
  obtain ⟨u14, eu14⟩ : ∃ w : HpT, w = (hup u13 133 (aI G 6 (upd (upd (fun _ => 0) 0 (0 : Int32)) 1 (0 : Int32)))) := ⟨_, rfl⟩
  refine x_heap (u2 := u14) eu14.symm ?_
  refine x_iinc C 0 [(2, .int (2 : Int32)), (0, .ref (z + 131)), (1, .ref (z + 3))] dX3_copyFrom_112 rfl (by decide) (by decide) rfl ?_
  refine x_goto C 82 dX3_copyFrom_115 (by decide) ?_
  refine x_iload_n C 0 dX3_copyFrom_82 rfl rfl ?_
  refine x_bipush (v := (6 : Int32)) C dX3_copyFrom_83 (by decide) ?_
  refine x_icmp_ge_f C 118 dX3_copyFrom_85 (by decide) (by decide) ?_
  refine x_aload_n C 1 dX3_copyFrom_88 rfl rfl ?_
  have k131_14 := (congrFun eu14 131).trans (hup_n' (by decide) (k131_13))
  refine gfX3_42 C dX3_copyFrom_89 k131_14 rfl ?_
  refine x_iload_n C 0 dX3_copyFrom_92 rfl rfl ?_
  refine x_aload_n C 2 dX3_copyFrom_93 rfl rfl ?_
  have k3_14 := (congrFun eu14 3).trans (hup_n' (by decide) (k3_13))
  refine gfX3_42 C dX3_copyFrom_94 k3_14 rfl ?_
  refine x_iload_n C 0 dX3_copyFrom_97 rfl rfl ?_
  have k4_13 := (congrFun eu13 4).trans (hup_n' (by decide) (k4_12))
  have k4_14 := (congrFun eu14 4).trans (hup_n' (by decide) (k4_13))
  refine x_ialdk C 2 k4_14 (vp_in_lit (by decide) (by decide)) (by decide) dX3_copyFrom_98 ?_
  refine x_eqi (w := (0 : Int32)) (by decide) ?_
  have k132_13 := (congrFun eu13 132).trans (hup_s _ _ _)
  have k132_14 := (congrFun eu14 132).trans (hup_n' (by decide) (k132_13))
  refine x_iastk C 2 k132_14 (vp_in_lit (by decide) (by decide)) (by decide) dX3_copyFrom_99 ?_
  obtain ⟨u15, eu15⟩ : ∃ w : HpT, w = (hup u14 132 (aI G 6 (upd (upd (upd (fun _ => 0) 0 (0 : Int32)) 1 (0 : Int32)) 2 (0 : Int32)))) := ⟨_, rfl⟩
  refine x_heap (u2 := u15) eu15.symm ?_
  refine x_aload_n C 1 dX3_copyFrom_100 rfl rfl ?_
  have k131_15 := (congrFun eu15 131).trans (hup_n' (by decide) (k131_14))
  refine gfX3_46 C dX3_copyFrom_101 k131_15 rfl ?_
  refine x_iload_n C 0 dX3_copyFrom_104 rfl rfl ?_
  refine x_aload_n C 2 dX3_copyFrom_105 rfl rfl ?_
  have k3_15 := (congrFun eu15 3).trans (hup_n' (by decide) (k3_14))
  refine gfX3_46 C dX3_copyFrom_106 k3_15 rfl ?_
  refine x_iload_n C 0 dX3_copyFrom_109 rfl rfl ?_
  have k5_14 := (congrFun eu14 5).trans (hup_n' (by decide) (k5_13))
  have k5_15 := (congrFun eu15 5).trans (hup_n' (by decide) (k5_14))
  refine x_ialdk C 2 k5_15 (vp_in_lit (by decide) (by decide)) (by decide) dX3_copyFrom_110 ?_
  refine x_eqi (w := (0 : Int32)) (by decide) ?_
  have k133_14 := (congrFun eu14 133).trans (hup_s _ _ _)
  have k133_15 := (congrFun eu15 133).trans (hup_n' (by decide) (k133_14))
  refine x_iastk C 2 k133_15 (vp_in_lit (by decide) (by decide)) (by decide) dX3_copyFrom_111 ?_
  obtain ⟨u16, eu16⟩ : ∃ w : HpT, w = (hup u15 133 (aI G 6 (upd (upd (upd (fun _ => 0) 0 (0 : Int32)) 1 (0 : Int32)) 2 (0 : Int32)))) := ⟨_, rfl⟩
  refine x_heap (u2 := u16) eu16.symm ?_
  refine x_iinc C 0 [(2, .int (3 : Int32)), (0, .ref (z + 131)), (1, .ref (z + 3))] dX3_copyFrom_112 rfl (by decide) (by decide) rfl ?_
  refine x_goto C 82 dX3_copyFrom_115 (by decide) ?_
  refine x_iload_n C 0 dX3_copyFrom_82 rfl rfl ?_
  refine x_bipush (v := (6 : Int32)) C dX3_copyFrom_83 (by decide) ?_
  refine x_icmp_ge_f C 118 dX3_copyFrom_85 (by decide) (by decide) ?_
  refine x_aload_n C 1 dX3_copyFrom_88 rfl rfl ?_
  have k131_16 := (congrFun eu16 131).trans (hup_n' (by decide) (k131_15))
  refine gfX3_42 C dX3_copyFrom_89 k131_16 rfl ?_
  refine x_iload_n C 0 dX3_copyFrom_92 rfl rfl ?_
  refine x_aload_n C 2 dX3_copyFrom_93 rfl rfl ?_
  have k3_16 := (congrFun eu16 3).trans (hup_n' (by decide) (k3_15))
  refine gfX3_42 C dX3_copyFrom_94 k3_16 rfl ?_
  refine x_iload_n C 0 dX3_copyFrom_97 rfl rfl ?_
  have k4_15 := (congrFun eu15 4).trans (hup_n' (by decide) (k4_14))
  have k4_16 := (congrFun eu16 4).trans (hup_n' (by decide) (k4_15))
  refine x_ialdk C 3 k4_16 (vp_in_lit (by decide) (by decide)) (by decide) dX3_copyFrom_98 ?_
  refine x_eqi (w := (0 : Int32)) (by decide) ?_
  have k132_15 := (congrFun eu15 132).trans (hup_s _ _ _)
  have k132_16 := (congrFun eu16 132).trans (hup_n' (by decide) (k132_15))
  refine x_iastk C 3 k132_16 (vp_in_lit (by decide) (by decide)) (by decide) dX3_copyFrom_99 ?_
  obtain ⟨u17, eu17⟩ : ∃ w : HpT, w = (hup u16 132 (aI G 6 (upd (upd (upd (upd (fun _ => 0) 0 (0 : Int32)) 1 (0 : Int32)) 2 (0 : Int32)) 3 (0 : Int32)))) := ⟨_, rfl⟩
  refine x_heap (u2 := u17) eu17.symm ?_
  refine x_aload_n C 1 dX3_copyFrom_100 rfl rfl ?_
  have k131_17 := (congrFun eu17 131).trans (hup_n' (by decide) (k131_16))
  refine gfX3_46 C dX3_copyFrom_101 k131_17 rfl ?_
  refine x_iload_n C 0 dX3_copyFrom_104 rfl rfl ?_
  refine x_aload_n C 2 dX3_copyFrom_105 rfl rfl ?_
  have k3_17 := (congrFun eu17 3).trans (hup_n' (by decide) (k3_16))
  refine gfX3_46 C dX3_copyFrom_106 k3_17 rfl ?_
  refine x_iload_n C 0 dX3_copyFrom_109 rfl rfl ?_
  have k5_16 := (congrFun eu16 5).trans (hup_n' (by decide) (k5_15))
  have k5_17 := (congrFun eu17 5).trans (hup_n' (by decide) (k5_16))
  refine x_ialdk C 3 k5_17 (vp_in_lit (by decide) (by decide)) (by decide) dX3_copyFrom_110 ?_
  refine x_eqi (w := (0 : Int32)) (by decide) ?_
  have k133_16 := (congrFun eu16 133).trans (hup_s _ _ _)
  have k133_17 := (congrFun eu17 133).trans (hup_n' (by decide) (k133_16))
  refine x_iastk C 3 k133_17 (vp_in_lit (by decide) (by decide)) (by decide) dX3_copyFrom_111 ?_
  obtain ⟨u18, eu18⟩ : ∃ w : HpT, w = (hup u17 133 (aI G 6 (upd (upd (upd (upd (fun _ => 0) 0 (0 : Int32)) 1 (0 : Int32)) 2 (0 : Int32)) 3 (0 : Int32)))) := ⟨_, rfl⟩
  refine x_heap (u2 := u18) eu18.symm ?_
  refine x_iinc C 0 [(2, .int (4 : Int32)), (0, .ref (z + 131)), (1, .ref (z + 3))] dX3_copyFrom_112 rfl (by decide) (by decide) rfl ?_
  refine x_goto C 82 dX3_copyFrom_115 (by decide) ?_
  refine x_iload_n C 0 dX3_copyFrom_82 rfl rfl ?_
  refine x_bipush (v := (6 : Int32)) C dX3_copyFrom_83 (by decide) ?_
  refine x_icmp_ge_f C 118 dX3_copyFrom_85 (by decide) (by decide) ?_
  refine x_aload_n C 1 dX3_copyFrom_88 rfl rfl ?_
  have k131_18 := (congrFun eu18 131).trans (hup_n' (by decide) (k131_17))
  refine gfX3_42 C dX3_copyFrom_89 k131_18 rfl ?_
  refine x_iload_n C 0 dX3_copyFrom_92 rfl rfl ?_
  refine x_aload_n C 2 dX3_copyFrom_93 rfl rfl ?_
  have k3_18 := (congrFun eu18 3).trans (hup_n' (by decide) (k3_17))
  refine gfX3_42 C dX3_copyFrom_94 k3_18 rfl ?_
  refine x_iload_n C 0 dX3_copyFrom_97 rfl rfl ?_
  have k4_17 := (congrFun eu17 4).trans (hup_n' (by decide) (k4_16))
  have k4_18 := (congrFun eu18 4).trans (hup_n' (by decide) (k4_17))
  refine x_ialdk C 4 k4_18 (vp_in_lit (by decide) (by decide)) (by decide) dX3_copyFrom_98 ?_
  refine x_eqi (w := (0 : Int32)) (by decide) ?_
  have k132_17 := (congrFun eu17 132).trans (hup_s _ _ _)
  have k132_18 := (congrFun eu18 132).trans (hup_n' (by decide) (k132_17))
  refine x_iastk C 4 k132_18 (vp_in_lit (by decide) (by decide)) (by decide) dX3_copyFrom_99 ?_
  obtain ⟨u19, eu19⟩ : ∃ w : HpT, w = (hup u18 132 (aI G 6 (upd (upd (upd (upd (upd (fun _ => 0) 0 (0 : Int32)) 1 (0 : Int32)) 2 (0 : Int32)) 3 (0 : Int32)) 4 (0 : Int32)))) := ⟨_, rfl⟩
  refine x_heap (u2 := u19) eu19.symm ?_
  refine x_aload_n C 1 dX3_copyFrom_100 rfl rfl ?_
  have k131_19 := (congrFun eu19 131).trans (hup_n' (by decide) (k131_18))
  refine gfX3_46 C dX3_copyFrom_101 k131_19 rfl ?_
  refine x_iload_n C 0 dX3_copyFrom_104 rfl rfl ?_
  refine x_aload_n C 2 dX3_copyFrom_105 rfl rfl ?_
  have k3_19 := (congrFun eu19 3).trans (hup_n' (by decide) (k3_18))
  refine gfX3_46 C dX3_copyFrom_106 k3_19 rfl ?_
  refine x_iload_n C 0 dX3_copyFrom_109 rfl rfl ?_
  have k5_18 := (congrFun eu18 5).trans (hup_n' (by decide) (k5_17))
  have k5_19 := (congrFun eu19 5).trans (hup_n' (by decide) (k5_18))
  refine x_ialdk C 4 k5_19 (vp_in_lit (by decide) (by decide)) (by decide) dX3_copyFrom_110 ?_
  refine x_eqi (w := (0 : Int32)) (by decide) ?_
  have k133_18 := (congrFun eu18 133).trans (hup_s _ _ _)
  have k133_19 := (congrFun eu19 133).trans (hup_n' (by decide) (k133_18))
  refine x_iastk C 4 k133_19 (vp_in_lit (by decide) (by decide)) (by decide) dX3_copyFrom_111 ?_
  obtain ⟨u20, eu20⟩ : ∃ w : HpT, w = (hup u19 133 (aI G 6 (upd (upd (upd (upd (upd (fun _ => 0) 0 (0 : Int32)) 1 (0 : Int32)) 2 (0 : Int32)) 3 (0 : Int32)) 4 (0 : Int32)))) := ⟨_, rfl⟩
  refine x_heap (u2 := u20) eu20.symm ?_
  refine x_iinc C 0 [(2, .int (5 : Int32)), (0, .ref (z + 131)), (1, .ref (z + 3))] dX3_copyFrom_112 rfl (by decide) (by decide) rfl ?_
  refine x_goto C 82 dX3_copyFrom_115 (by decide) ?_
  refine x_iload_n C 0 dX3_copyFrom_82 rfl rfl ?_
  refine x_bipush (v := (6 : Int32)) C dX3_copyFrom_83 (by decide) ?_
  refine x_icmp_ge_f C 118 dX3_copyFrom_85 (by decide) (by decide) ?_
  refine x_aload_n C 1 dX3_copyFrom_88 rfl rfl ?_
  have k131_20 := (congrFun eu20 131).trans (hup_n' (by decide) (k131_19))
  refine gfX3_42 C dX3_copyFrom_89 k131_20 rfl ?_
  refine x_iload_n C 0 dX3_copyFrom_92 rfl rfl ?_
  refine x_aload_n C 2 dX3_copyFrom_93 rfl rfl ?_
  have k3_20 := (congrFun eu20 3).trans (hup_n' (by decide) (k3_19))
  refine gfX3_42 C dX3_copyFrom_94 k3_20 rfl ?_
  refine x_iload_n C 0 dX3_copyFrom_97 rfl rfl ?_
  have k4_19 := (congrFun eu19 4).trans (hup_n' (by decide) (k4_18))
  have k4_20 := (congrFun eu20 4).trans (hup_n' (by decide) (k4_19))
  refine x_ialdk C 5 k4_20 (vp_in_lit (by decide) (by decide)) (by decide) dX3_copyFrom_98 ?_
  refine x_eqi (w := (0 : Int32)) (by decide) ?_
  have k132_19 := (congrFun eu19 132).trans (hup_s _ _ _)
  have k132_20 := (congrFun eu20 132).trans (hup_n' (by decide) (k132_19))
  refine x_iastk C 5 k132_20 (vp_in_lit (by decide) (by decide)) (by decide) dX3_copyFrom_99 ?_
  obtain ⟨u21, eu21⟩ : ∃ w : HpT, w = (hup u20 132 (aI G 6 (upd (upd (upd (upd (upd (upd (fun _ => 0) 0 (0 : Int32)) 1 (0 : Int32)) 2 (0 : Int32)) 3 (0 : Int32)) 4 (0 : Int32)) 5 (0 : Int32)))) := ⟨_, rfl⟩
  refine x_heap (u2 := u21) eu21.symm ?_
  refine x_aload_n C 1 dX3_copyFrom_100 rfl rfl ?_
  have k131_21 := (congrFun eu21 131).trans (hup_n' (by decide) (k131_20))
  refine gfX3_46 C dX3_copyFrom_101 k131_21 rfl ?_
  refine x_iload_n C 0 dX3_copyFrom_104 rfl rfl ?_
  refine x_aload_n C 2 dX3_copyFrom_105 rfl rfl ?_
  have k3_21 := (congrFun eu21 3).trans (hup_n' (by decide) (k3_20))
  refine gfX3_46 C dX3_copyFrom_106 k3_21 rfl ?_
  refine x_iload_n C 0 dX3_copyFrom_109 rfl rfl ?_
  have k5_20 := (congrFun eu20 5).trans (hup_n' (by decide) (k5_19))
  have k5_21 := (congrFun eu21 5).trans (hup_n' (by decide) (k5_20))
  refine x_ialdk C 5 k5_21 (vp_in_lit (by decide) (by decide)) (by decide) dX3_copyFrom_110 ?_
  refine x_eqi (w := (0 : Int32)) (by decide) ?_
  have k133_20 := (congrFun eu20 133).trans (hup_s _ _ _)
  have k133_21 := (congrFun eu21 133).trans (hup_n' (by decide) (k133_20))
  refine x_iastk C 5 k133_21 (vp_in_lit (by decide) (by decide)) (by decide) dX3_copyFrom_111 ?_
  obtain ⟨u22, eu22⟩ : ∃ w : HpT, w = (hup u21 133 (aI G 6 (upd (upd (upd (upd (upd (upd (fun _ => 0) 0 (0 : Int32)) 1 (0 : Int32)) 2 (0 : Int32)) 3 (0 : Int32)) 4 (0 : Int32)) 5 (0 : Int32)))) := ⟨_, rfl⟩
  refine x_heap (u2 := u22) eu22.symm ?_
  refine x_iinc C 0 [(2, .int (6 : Int32)), (0, .ref (z + 131)), (1, .ref (z + 3))] dX3_copyFrom_112 rfl (by decide) (by decide) rfl ?_
  refine x_goto C 82 dX3_copyFrom_115 (by decide) ?_
  refine x_iload_n C 0 dX3_copyFrom_82 rfl rfl ?_
  refine x_bipush (v := (6 : Int32)) C dX3_copyFrom_83 (by decide) ?_
  refine x_icmp_ge_t C 118 dX3_copyFrom_85 (by decide) (by decide) ?_
  exact x_vret C hr hlk (Nat.le_of_ble_eq_true rfl) (Nat.le_of_ble_eq_true rfl) dX3_copyFrom_118 rfl (by rw [eu22, eu21, eu20, eu19, eu18, eu17, eu16, eu15, eu14, eu13, eu12, eu11, eu10, eu9, eu8, eu7, eu6, eu5, eu4, eu3, eu2, eu1]; simp only [hup_hup, hup_sk, ne_eq, Nat.reduceEqDiff, not_false_eq_true]) rfl
set_option maxRecDepth 20000 in
theorem p_X9_keep_2 {G : GT} {l : Launch} {z n : Nat} (u : HpT) (h0 : u 0 = some (.inr (8, [.ref (z + 1), .ref (z + 3), .ref (z + 6), .ref (z + 98), .ref (z + 99), .ref (z + 101), .ref (z + 106), .ref (z + 109), .ref (z + 112), .ref (z + 119), .int (0 : Int32), .int (-1 : Int32)]))) (h3 : u 3 = some (.inr (2, [.int (0 : Int32), .int (0 : Int32), .int (0 : Int32), .int (0 : Int32), .int (-1 : Int32), .int (0 : Int32), .int (-1 : Int32), .int (0 : Int32), .int (0 : Int32), .int (0 : Int32), .ref (z + 4), .ref (z + 5)]))) (h4 : u 4 = some (aI G 6 (fun _ => 0))) (h5 : u 5 = some (aI G 6 (fun _ => 0))) (h6 : u 6 = some (.inr (5, [.ref (z + 7), .int (0 : Int32), .int (0 : Int32)]))) (h98 : u 98 = some (aM G 2 (va_up (va_up (fun _ => none) 0 (some (z + 126))) 1 (some (z + 130))))) (h130 : u 130 = some (.inr (3, [.ref (z + 131), .int (0 : Int32), .int (0 : Int32)]))) (h131 : u 131 = some (.inr (2, [.int (0 : Int32), .int (0 : Int32), .int (0 : Int32), .int (0 : Int32), .int (-1 : Int32), .int (0 : Int32), .int (-1 : Int32), .int (0 : Int32), .int (0 : Int32), .int (0 : Int32), .ref (z + 132), .ref (z + 133)]))) (h132 : u 132 = some (aI G 6 (fun _ => 0))) (h133 : u 133 = some (aI G 6 (fun _ => 0))) : Mt G l z yX9_keep cX9_keep 3 (some .int) { frames := 1, cells := 0, slots := 0, locals := 22 } [.ref (z + 0), .int (1 : Int32)] u n (some (.int (1 : Int32))) (hup (hup (hup (hup (hup u 131 (.inr (2, [.int (0 : Int32), .int (0 : Int32), .int (0 : Int32), .int (0 : Int32), .int (-1 : Int32), .int (0 : Int32), .int (-1 : Int32), .int (0 : Int32), .int (0 : Int32), .int (0 : Int32), .ref (z + 132), .ref (z + 133)]))) 132 (aI G 6 (upd (upd (upd (upd (upd (upd (fun _ => 0) 0 (0 : Int32)) 1 (0 : Int32)) 2 (0 : Int32)) 3 (0 : Int32)) 4 (0 : Int32)) 5 (0 : Int32)))) 133 (aI G 6 (upd (upd (upd (upd (upd (upd (fun _ => 0) 0 (0 : Int32)) 1 (0 : Int32)) 2 (0 : Int32)) 3 (0 : Int32)) 4 (0 : Int32)) 5 (0 : Int32)))) 130 (.inr (3, [.ref (z + 131), .int (0 : Int32), .int (1 : Int32)]))) 6 (.inr (5, [.ref (z + 7), .int (0 : Int32), .int (0 : Int32)]))) n := by
  refine mt_of (by decide +kernel) (Nat.le_of_ble_eq_true rfl) ?_
  intro p e s m below meth c C hr hlk hnm
  refine x_iload_n C 1 dX9_keep_0 rfl rfl ?_
  refine x_if_lt_f C 13 dX9_keep_1 (by decide) (by decide) ?_
  refine x_iload_n C 1 dX9_keep_4 rfl rfl ?_
  refine x_aload_n C 0 dX9_keep_5 rfl rfl ?_
  refine gfX9_32 C dX9_keep_6 h0 rfl ?_
  refine x_alen (v := (2 : Int32)) C 4 h98 rfl rfl dX9_keep_9 ?_
  refine x_icmp_lt_t C 16 dX9_keep_10 (by decide) (by decide) ?_
  refine x_aload_n C 0 dX9_keep_16 rfl rfl ?_
  refine gfX9_32 C dX9_keep_17 h0 rfl ?_
  refine x_iload_n C 1 dX9_keep_20 rfl rfl ?_
  refine x_aaldM (y := z + 130) C h98 (vp_in_lit (by decide) (by decide)) rfl dX9_keep_21 ?_
  refine x_astore_n C [(2, .ref (z + 130)), (0, .ref (z + 0)), (1, .int (1 : Int32))] dX9_keep_22 rfl (by decide) rfl ?_
  refine x_aload_n C 0 dX9_keep_23 rfl rfl ?_
  refine gfX9_327 C dX9_keep_24 h130 rfl ?_
  refine x_aload_n C 1 dX9_keep_27 rfl rfl ?_
  refine gfX9_19 C dX9_keep_28 h0 rfl ?_
  refine x_callV C cl_X3_copyFrom kmX9_328 (ci := 2) (b := 131) (As := [.ref (z + 3)]) (rest := []) rfl h131 (p_X3_copyFrom_1 u h3 h4 h5 h131 h132 h133) rfl rfl (Nat.le_of_ble_eq_true rfl) ⟨Nat.le_of_ble_eq_true rfl, Nat.le_of_ble_eq_true rfl⟩ ⟨Nat.le_of_ble_eq_true rfl, Nat.le_of_ble_eq_true rfl⟩ dX9_keep_31 ?_
  obtain ⟨u1, eu1⟩ : ∃ w : HpT, w = (hup (hup (hup u 131 (.inr (2, [.int (0 : Int32), .int (0 : Int32), .int (0 : Int32), .int (0 : Int32), .int (-1 : Int32), .int (0 : Int32), .int (-1 : Int32), .int (0 : Int32), .int (0 : Int32), .int (0 : Int32), .ref (z + 132), .ref (z + 133)]))) 132 (aI G 6 (upd (upd (upd (upd (upd (upd (fun _ => 0) 0 (0 : Int32)) 1 (0 : Int32)) 2 (0 : Int32)) 3 (0 : Int32)) 4 (0 : Int32)) 5 (0 : Int32)))) 133 (aI G 6 (upd (upd (upd (upd (upd (upd (fun _ => 0) 0 (0 : Int32)) 1 (0 : Int32)) 2 (0 : Int32)) 3 (0 : Int32)) 4 (0 : Int32)) 5 (0 : Int32)))) := ⟨_, rfl⟩
  refine x_norm (st2 := []) (kc2 := 0) (ks2 := 0) rfl rfl rfl rfl eu1.symm ?_
  refine x_aload_n C 0 dX9_keep_34 rfl rfl ?_
  refine x_aload_n C 1 dX9_keep_35 rfl rfl ?_
  have k0_1 := (congrFun eu1 0).trans (hup_n' (by decide) (hup_n' (by decide) (hup_n' (by decide) (h0))))
  refine gfX9_72 C dX9_keep_36 k0_1 rfl ?_
  have k130_1 := (congrFun eu1 130).trans (hup_n' (by decide) (hup_n' (by decide) (hup_n' (by decide) (h130))))
  obtain ⟨u2, eu2⟩ : ∃ w : HpT, w = (hup u1 130 (.inr (3, [.ref (z + 131), .int (0 : Int32), .int (0 : Int32)]))) := ⟨_, rfl⟩
  refine pfX9_331 C dX9_keep_39 k130_1 (Nat.le_of_ble_eq_true rfl) rfl eu2.symm ?_
  refine x_aload_n C 0 dX9_keep_42 rfl rfl ?_
  refine x_iconst (v := (1 : Int32)) C dX9_keep_43 (by decide) ?_
  have k130_2 := (congrFun eu2 130).trans (hup_s _ _ _)
  obtain ⟨u3, eu3⟩ : ∃ w : HpT, w = (hup u2 130 (.inr (3, [.ref (z + 131), .int (0 : Int32), .int (1 : Int32)]))) := ⟨_, rfl⟩
  refine pfX9_113 C dX9_keep_44 (by decide) (by decide) k130_2 (Nat.le_of_ble_eq_true rfl) rfl eu3.symm ?_
  refine x_aload_n C 1 dX9_keep_47 rfl rfl ?_
  have k0_2 := (congrFun eu2 0).trans (hup_n' (by decide) (k0_1))
  have k0_3 := (congrFun eu3 0).trans (hup_n' (by decide) (k0_2))
  refine gfX9_26 C dX9_keep_48 k0_3 rfl ?_
  have k6_1 := (congrFun eu1 6).trans (hup_n' (by decide) (hup_n' (by decide) (hup_n' (by decide) (h6))))
  have k6_2 := (congrFun eu2 6).trans (hup_n' (by decide) (k6_1))
  have k6_3 := (congrFun eu3 6).trans (hup_n' (by decide) (k6_2))
  refine x_callV C cl_X6_forget kmX9_109 (ci := 5) (b := 6) (As := []) (rest := []) rfl k6_3 (p_X6_forget_0 u3 k6_3) rfl rfl (Nat.le_of_ble_eq_true rfl) ⟨Nat.le_of_ble_eq_true rfl, Nat.le_of_ble_eq_true rfl⟩ ⟨Nat.le_of_ble_eq_true rfl, Nat.le_of_ble_eq_true rfl⟩ dX9_keep_51 ?_
  obtain ⟨u4, eu4⟩ : ∃ w : HpT, w = (hup u3 6 (.inr (5, [.ref (z + 7), .int (0 : Int32), .int (0 : Int32)]))) := ⟨_, rfl⟩
  refine x_norm (st2 := []) (kc2 := 0) (ks2 := 0) rfl rfl rfl rfl eu4.symm ?_
  refine x_iconst (v := (1 : Int32)) C dX9_keep_54 (by decide) ?_
  exact x_iret C hr hlk (Nat.le_of_ble_eq_true rfl) (Nat.le_of_ble_eq_true rfl) dX9_keep_55 rfl (by rw [eu4, eu3, eu2, eu1]; simp only [hup_hup, hup_sk, ne_eq, Nat.reduceEqDiff, not_false_eq_true]) rfl
