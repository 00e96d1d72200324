set_option maxRecDepth 20000 in
theorem p_X9_feed_0 {G : GT} {l : Launch} {z n : Nat} (u : HpT) (va : Int32) (hl_va : -2147483648 ≤ va.toInt) (hh_va : va.toInt ≤ -1) : Mt G l z yX9_feed cX9_feed 2 (some .int) { frames := 0, cells := 0, slots := 0, locals := 0 } [.ref (z + 0), .int va] u n (some (.int (-1000000002 : Int32))) u n := by
  refine mt_of (by decide +kernel) (Nat.le_of_ble_eq_true rfl) ?_
  intro p e s m below meth c C hr hlk hnm
  refine x_iload_n C 1 dX9_feed_0 rfl rfl ?_
  refine x_if_lt_t C 11 dX9_feed_1 (by decide) (by simp only [Int32.lt_iff_toInt_lt, Int32.le_iff_toInt_le, i_eq_iff]; have e9 : (0 : Int32).toInt = 0 := (by decide); omega) ?_
  refine x_ldc C kcX9_80 dX9_feed_11 ?_
  exact x_iret C hr hlk (Nat.le_of_ble_eq_true rfl) (Nat.le_of_ble_eq_true rfl) dX9_feed_13 rfl rfl rfl
set_option maxRecDepth 20000 in
theorem p_X10_in_0 {G : GT} {l : Launch} {z n : Nat} (u : HpT) (va : Int32) (hl_va : -2147483648 ≤ va.toInt) (hh_va : va.toInt ≤ -1) : Mt G l z yX10_in cX10_in 3 (some .boolean) { frames := 0, cells := 0, slots := 0, locals := 0 } [.int va, .int (0 : Int32), .int (255 : Int32)] u n (some (.int (0 : Int32))) u n := by
  refine mt_of (by decide +kernel) (Nat.le_of_ble_eq_true rfl) ?_
  intro p e s m below meth c C hr hlk hnm
  refine x_iload_n C 0 dX10_in_0 rfl rfl ?_
  refine x_iload_n C 1 dX10_in_1 rfl rfl ?_
  refine x_icmp_lt_t C 14 dX10_in_2 (by decide) (by simp only [Int32.lt_iff_toInt_lt, Int32.le_iff_toInt_le, i_eq_iff]; have e9 : (0 : Int32).toInt = 0 := (by decide); omega) ?_
  refine x_iconst (v := (0 : Int32)) C dX10_in_14 (by decide) ?_
  exact x_zret C hr hlk (Nat.le_of_ble_eq_true rfl) (Nat.le_of_ble_eq_true rfl) dX10_in_15 (by decide) rfl rfl rfl
set_option maxRecDepth 20000 in
theorem p_X10_feed_0 {G : GT} {l : Launch} {z n : Nat} (u : HpT) (va : Int32) (hl_va : -2147483648 ≤ va.toInt) (hh_va : va.toInt ≤ -1) : Mt G l z yX10_feed cX10_feed 2 (some .int) { frames := 1, cells := 0, slots := 0, locals := 22 } [.ref (z + 134), .int va] u n (some (.int (-1000000002 : Int32))) u n := by
  refine mt_of (by decide +kernel) (Nat.le_of_ble_eq_true rfl) ?_
  intro p e s m below meth c C hr hlk hnm
  refine x_iload_n C 1 dX10_feed_0 rfl rfl ?_
  refine x_iconst (v := (0 : Int32)) C dX10_feed_1 (by decide) ?_
  refine x_sipush (v := (255 : Int32)) C dX10_feed_2 (by decide) ?_
  refine x_callS C cl_X10_in kmX10_82 (As := [.int va, .int (0 : Int32), .int (255 : Int32)]) (rest := []) (p_X10_in_0 u va hl_va hh_va) rfl rfl (Nat.le_of_ble_eq_true rfl) ⟨Nat.le_of_ble_eq_true rfl, Nat.le_of_ble_eq_true rfl⟩ ⟨Nat.le_of_ble_eq_true rfl, Nat.le_of_ble_eq_true rfl⟩ dX10_feed_5 ?_
  refine x_norm (st2 := [.int (0 : Int32)]) (kc2 := 0) (ks2 := 0) rfl rfl rfl rfl rfl ?_
  refine x_if_ne_f C 14 dX10_feed_8 (by decide) (by decide) ?_
  refine x_ldc C kcX10_86 dX10_feed_11 ?_
  exact x_iret C hr hlk (Nat.le_of_ble_eq_true rfl) (Nat.le_of_ble_eq_true rfl) dX10_feed_13 rfl rfl rfl
set_option maxRecDepth 20000 in
theorem p_X7_add_0 {G : GT} {l : Launch} {z n : Nat} (u : HpT) (va : Int32) (hl_va : 0 ≤ va.toInt) (hh_va : va.toInt ≤ 255) (h1 : u 1 = some (.inr (6, [.ref (z + 2), .int (0 : Int32), .int (0 : Int32), .int (0 : Int32), .int (-1 : Int32)]))) (h2 : u 2 = some (aI G 240 (fun _ => 0))) : Mt G l z yX7_add cX7_add 2 (some .boolean) { frames := 0, cells := 0, slots := 0, locals := 0 } [.ref (z + 1), .int va] u n (some (.int (1 : Int32))) (hup (hup u 2 (aI G 240 (upd (fun _ => 0) 0 va))) 1 (.inr (6, [.ref (z + 2), .int (1 : Int32), .int (0 : Int32), .int (0 : Int32), .int (-1 : Int32)]))) n := by
  refine mt_of (by decide +kernel) (Nat.le_of_ble_eq_true rfl) ?_
  intro p e s m below meth c C hr hlk hnm
  refine x_aload_n C 0 dX7_add_0 rfl rfl ?_
  refine gfX7_15 C dX7_add_1 h1 rfl ?_
  refine x_aload_n C 0 dX7_add_4 rfl rfl ?_
  refine gfX7_9 C dX7_add_5 h1 rfl ?_
  refine x_alen (v := (240 : Int32)) C 0 h2 rfl rfl dX7_add_8 ?_
  refine x_icmp_lt_t C 14 dX7_add_9 (by decide) (by decide) ?_
  refine x_aload_n C 0 dX7_add_14 rfl rfl ?_
  refine gfX7_9 C dX7_add_15 h1 rfl ?_
  refine x_aload_n C 0 dX7_add_18 rfl rfl ?_
  refine gfX7_15 C dX7_add_19 h1 rfl ?_
  refine x_iload_n C 1 dX7_add_22 rfl rfl ?_
  refine x_iastk C 0 h2 (vp_in_lit (by decide) (by decide)) (by decide) dX7_add_23 ?_
  obtain ⟨u1, eu1⟩ : ∃ w : HpT, w = (hup u 2 (aI G 240 (upd (fun _ => 0) 0 va))) := ⟨_, rfl⟩
  refine x_heap (u2 := u1) eu1.symm ?_
  refine x_aload_n C 0 dX7_add_24 rfl rfl ?_
  refine x_dup C dX7_add_25 rfl ?_
  have k1_1 := (congrFun eu1 1).trans (hup_n' (by decide) (h1))
  refine gfX7_15 C dX7_add_26 k1_1 rfl ?_
  refine x_iconst (v := (1 : Int32)) C dX7_add_29 (by decide) ?_
  refine x_iadd C dX7_add_30 ?_
  refine x_eqi (w := (1 : Int32)) (by decide) ?_
  obtain ⟨u2, eu2⟩ : ∃ w : HpT, w = (hup u1 1 (.inr (6, [.ref (z + 2), .int (1 : Int32), .int (0 : Int32), .int (0 : Int32), .int (-1 : Int32)]))) := ⟨_, rfl⟩
  refine pfX7_15 C dX7_add_31 k1_1 (Nat.le_of_ble_eq_true rfl) rfl eu2.symm ?_
  refine x_iconst (v := (1 : Int32)) C dX7_add_34 (by decide) ?_
  exact x_zret C hr hlk (Nat.le_of_ble_eq_true rfl) (Nat.le_of_ble_eq_true rfl) dX7_add_35 (by decide) rfl (by rw [eu2, eu1]) rfl
set_option maxRecDepth 20000 in
theorem p_X9_feed_1 {G : GT} {l : Launch} {z n : Nat} (u : HpT) (va : Int32) (hl_va : 0 ≤ va.toInt) (hh_va : va.toInt ≤ 255) (h0 : u 0 = some (.inr (8, [.ref (z + 1), .ref (z + 3), .ref (z + 6), .ref (z + 98), .ref (z + 99), .ref (z + 101), .ref (z + 106), .ref (z + 109), .ref (z + 112), .ref (z + 119), .int (0 : Int32), .int (-1 : Int32)]))) (h1 : u 1 = some (.inr (6, [.ref (z + 2), .int (0 : Int32), .int (0 : Int32), .int (0 : Int32), .int (-1 : Int32)]))) (h2 : u 2 = some (aI G 240 (fun _ => 0))) : Mt G l z yX9_feed cX9_feed 2 (some .int) { frames := 1, cells := 0, slots := 0, locals := 21 } [.ref (z + 0), .int va] u n (some (.int (1 : Int32))) (hup (hup u 2 (aI G 240 (upd (fun _ => 0) 0 va))) 1 (.inr (6, [.ref (z + 2), .int (1 : Int32), .int (0 : Int32), .int (0 : Int32), .int (-1 : Int32)]))) n := by
  refine mt_of (by decide +kernel) (Nat.le_of_ble_eq_true rfl) ?_
  intro p e s m below meth c C hr hlk hnm
  refine x_iload_n C 1 dX9_feed_0 rfl rfl ?_
  refine x_if_lt_f C 11 dX9_feed_1 (by decide) (by simp only [Int32.lt_iff_toInt_lt, Int32.le_iff_toInt_le, i_eq_iff]; have e9 : (0 : Int32).toInt = 0 := (by decide); omega) ?_
  refine x_iload_n C 1 dX9_feed_4 rfl rfl ?_
  refine x_sipush (v := (255 : Int32)) C dX9_feed_5 (by decide) ?_
  refine x_icmp_le_t C 14 dX9_feed_8 (by decide) (by simp only [Int32.lt_iff_toInt_lt, Int32.le_iff_toInt_le, i_eq_iff]; have e9 : (255 : Int32).toInt = 255 := (by decide); omega) ?_
  refine x_aload_n C 0 dX9_feed_14 rfl rfl ?_
  refine gfX9_10 C dX9_feed_15 h0 rfl ?_
  refine x_iload_n C 1 dX9_feed_18 rfl rfl ?_
  refine x_callV C cl_X7_add kmX9_81 (ci := 6) (b := 1) (As := [.int va]) (rest := []) rfl h1 (p_X7_add_0 u va hl_va hh_va h1 h2) rfl rfl (Nat.le_of_ble_eq_true rfl) ⟨Nat.le_of_ble_eq_true rfl, Nat.le_of_ble_eq_true rfl⟩ ⟨Nat.le_of_ble_eq_true rfl, Nat.le_of_ble_eq_true rfl⟩ dX9_feed_19 ?_
  obtain ⟨u1, eu1⟩ : ∃ w : HpT, w = (hup (hup u 2 (aI G 240 (upd (fun _ => 0) 0 va))) 1 (.inr (6, [.ref (z + 2), .int (1 : Int32), .int (0 : Int32), .int (0 : Int32), .int (-1 : Int32)]))) := ⟨_, rfl⟩
  refine x_norm (st2 := [.int (1 : Int32)]) (kc2 := 0) (ks2 := 0) rfl rfl rfl rfl eu1.symm ?_
  refine x_if_eq_f C 35 dX9_feed_22 (by decide) (by decide) ?_
  refine x_aload_n C 0 dX9_feed_25 rfl rfl ?_
  have k0_1 := (congrFun eu1 0).trans (hup_n' (by decide) (hup_n' (by decide) (h0)))
  refine gfX9_10 C dX9_feed_26 k0_1 rfl ?_
  have k1_1 := (congrFun eu1 1).trans (hup_s _ _ _)
  refine gfX9_85 C dX9_feed_29 k1_1 rfl ?_
  refine x_goto C 37 dX9_feed_32 (by decide) ?_
  exact x_iret C hr hlk (Nat.le_of_ble_eq_true rfl) (Nat.le_of_ble_eq_true rfl) dX9_feed_37 rfl (by rw [eu1]) rfl
set_option maxRecDepth 20000 in
theorem p_X10_in_1 {G : GT} {l : Launch} {z n : Nat} (u : HpT) (va : Int32) (hl_va : 0 ≤ va.toInt) (hh_va : va.toInt ≤ 255) : Mt G l z yX10_in cX10_in 3 (some .boolean) { frames := 0, cells := 0, slots := 0, locals := 0 } [.int va, .int (0 : Int32), .int (255 : Int32)] u n (some (.int (1 : Int32))) u n := by
  refine mt_of (by decide +kernel) (Nat.le_of_ble_eq_true rfl) ?_
  intro p e s m below meth c C hr hlk hnm
  refine x_iload_n C 0 dX10_in_0 rfl rfl ?_
  refine x_iload_n C 1 dX10_in_1 rfl rfl ?_
  refine x_icmp_lt_f C 14 dX10_in_2 (by decide) (by simp only [Int32.lt_iff_toInt_lt, Int32.le_iff_toInt_le, i_eq_iff]; have e9 : (0 : Int32).toInt = 0 := (by decide); omega) ?_
  refine x_iload_n C 0 dX10_in_5 rfl rfl ?_
  refine x_iload_n C 2 dX10_in_6 rfl rfl ?_
  refine x_icmp_gt_f C 14 dX10_in_7 (by decide) (by simp only [Int32.lt_iff_toInt_lt, Int32.le_iff_toInt_le, i_eq_iff]; have e9 : (255 : Int32).toInt = 255 := (by decide); omega) ?_
  refine x_iconst (v := (1 : Int32)) C dX10_in_10 (by decide) ?_
  refine x_goto C 15 dX10_in_11 (by decide) ?_
  exact x_zret C hr hlk (Nat.le_of_ble_eq_true rfl) (Nat.le_of_ble_eq_true rfl) dX10_in_15 (by decide) rfl rfl rfl
set_option maxRecDepth 20000 in
theorem p_X10_feed_1 {G : GT} {l : Launch} {z n : Nat} (u : HpT) (va : Int32) (hl_va : 0 ≤ va.toInt) (hh_va : va.toInt ≤ 255) (h134 : u 134 = some (.inr (9, [.int (0 : Int32), .ref (z + 135), .int (0 : Int32), .int (0 : Int32), .int (0 : Int32), .int (-1 : Int32), .int (0 : Int32), .int (0 : Int32), .int (0 : Int32), .int (0 : Int32), .ref (z + 136), .ref (z + 137), .ref (z + 138), .ref (z + 139), .ref (z + 140), .int (0 : Int32), .int (0 : Int32), .int (0 : Int32), .int (0 : Int32), .ref (z + 141), .ref (z + 142), .ref (z + 143), .ref (z + 144), .ref (z + 145), .ref (z + 146), .int (0 : Int32), .int (0 : Int32), .ref (z + 147), .long (0 : Int64), .ref (z + 148), .int (0 : Int32), .int (0 : Int32), .int (0 : Int32), .ref (z + 149), .int (0 : Int32), .ref (z + 150), .ref (z + 151), .int (0 : Int32), .ref (z + 152), .ref (z + 153), .ref (z + 154), .ref (z + 155), .ref (z + 156)]))) (h135 : u 135 = some (aI G 240 (fun _ => 0))) : Mt G l z yX10_feed cX10_feed 2 (some .int) { frames := 1, cells := 0, slots := 0, locals := 22 } [.ref (z + 134), .int va] u n (some (.int (1 : Int32))) (hup (hup u 135 (aI G 240 (upd (fun _ => 0) 0 va))) 134 (.inr (9, [.int (1 : Int32), .ref (z + 135), .int (0 : Int32), .int (0 : Int32), .int (0 : Int32), .int (-1 : Int32), .int (0 : Int32), .int (0 : Int32), .int (0 : Int32), .int (0 : Int32), .ref (z + 136), .ref (z + 137), .ref (z + 138), .ref (z + 139), .ref (z + 140), .int (0 : Int32), .int (0 : Int32), .int (0 : Int32), .int (0 : Int32), .ref (z + 141), .ref (z + 142), .ref (z + 143), .ref (z + 144), .ref (z + 145), .ref (z + 146), .int (0 : Int32), .int (0 : Int32), .ref (z + 147), .long (0 : Int64), .ref (z + 148), .int (0 : Int32), .int (0 : Int32), .int (0 : Int32), .ref (z + 149), .int (0 : Int32), .ref (z + 150), .ref (z + 151), .int (0 : Int32), .ref (z + 152), .ref (z + 153), .ref (z + 154), .ref (z + 155), .ref (z + 156)]))) n := by
  refine mt_of (by decide +kernel) (Nat.le_of_ble_eq_true rfl) ?_
  intro p e s m below meth c C hr hlk hnm
  refine x_iload_n C 1 dX10_feed_0 rfl rfl ?_
  refine x_iconst (v := (0 : Int32)) C dX10_feed_1 (by decide) ?_
  refine x_sipush (v := (255 : Int32)) C dX10_feed_2 (by decide) ?_
  refine x_callS C cl_X10_in kmX10_82 (As := [.int va, .int (0 : Int32), .int (255 : Int32)]) (rest := []) (p_X10_in_1 u va hl_va hh_va) rfl rfl (Nat.le_of_ble_eq_true rfl) ⟨Nat.le_of_ble_eq_true rfl, Nat.le_of_ble_eq_true rfl⟩ ⟨Nat.le_of_ble_eq_true rfl, Nat.le_of_ble_eq_true rfl⟩ dX10_feed_5 ?_
  refine x_norm (st2 := [.int (1 : Int32)]) (kc2 := 0) (ks2 := 0) rfl rfl rfl rfl rfl ?_
  refine x_if_ne_t C 14 dX10_feed_8 (by decide) (by decide) ?_
  refine x_aload_n C 0 dX10_feed_14 rfl rfl ?_
  refine gfX10_87 C dX10_feed_15 h134 rfl ?_
  refine x_sipush (v := (240 : Int32)) C dX10_feed_18 (by decide) ?_
  refine x_icmp_ne_t C 27 dX10_feed_21 (by decide) (by decide) ?_
  refine x_aload_n C 0 dX10_feed_27 rfl rfl ?_
  refine gfX10_7 C dX10_feed_28 h134 rfl ?_
  refine x_aload_n C 0 dX10_feed_31 rfl rfl ?_
  refine gfX10_87 C dX10_feed_32 h134 rfl ?_
  refine x_iload_n C 1 dX10_feed_35 rfl rfl ?_
  refine x_iastk C 0 h135 (vp_in_lit (by decide) (by decide)) (by decide) dX10_feed_36 ?_
  obtain ⟨u1, eu1⟩ : ∃ w : HpT, w = (hup u 135 (aI G 240 (upd (fun _ => 0) 0 va))) := ⟨_, rfl⟩
  refine x_heap (u2 := u1) eu1.symm ?_
  refine x_aload_n C 0 dX10_feed_37 rfl rfl ?_
  refine x_dup C dX10_feed_38 rfl ?_
  have k134_1 := (congrFun eu1 134).trans (hup_n' (by decide) (h134))
  refine gfX10_87 C dX10_feed_39 k134_1 rfl ?_
  refine x_iconst (v := (1 : Int32)) C dX10_feed_42 (by decide) ?_
  refine x_iadd C dX10_feed_43 ?_
  refine x_eqi (w := (1 : Int32)) (by decide) ?_
  obtain ⟨u2, eu2⟩ : ∃ w : HpT, w = (hup u1 134 (.inr (9, [.int (1 : Int32), .ref (z + 135), .int (0 : Int32), .int (0 : Int32), .int (0 : Int32), .int (-1 : Int32), .int (0 : Int32), .int (0 : Int32), .int (0 : Int32), .int (0 : Int32), .ref (z + 136), .ref (z + 137), .ref (z + 138), .ref (z + 139), .ref (z + 140), .int (0 : Int32), .int (0 : Int32), .int (0 : Int32), .int (0 : Int32), .ref (z + 141), .ref (z + 142), .ref (z + 143), .ref (z + 144), .ref (z + 145), .ref (z + 146), .int (0 : Int32), .int (0 : Int32), .ref (z + 147), .long (0 : Int64), .ref (z + 148), .int (0 : Int32), .int (0 : Int32), .int (0 : Int32), .ref (z + 149), .int (0 : Int32), .ref (z + 150), .ref (z + 151), .int (0 : Int32), .ref (z + 152), .ref (z + 153), .ref (z + 154), .ref (z + 155), .ref (z + 156)]))) := ⟨_, rfl⟩
  refine pfX10_87 C dX10_feed_44 k134_1 (Nat.le_of_ble_eq_true rfl) rfl eu2.symm ?_
  refine x_aload_n C 0 dX10_feed_47 rfl rfl ?_
  have k134_2 := (congrFun eu2 134).trans (hup_s _ _ _)
  refine gfX10_87 C dX10_feed_48 k134_2 rfl ?_
  exact x_iret C hr hlk (Nat.le_of_ble_eq_true rfl) (Nat.le_of_ble_eq_true rfl) dX10_feed_51 rfl (by rw [eu2, eu1]) rfl
set_option maxRecDepth 20000 in
theorem p_X9_feed_2 {G : GT} {l : Launch} {z n : Nat} (u : HpT) (va : Int32) (hl_va : 256 ≤ va.toInt) (hh_va : va.toInt ≤ 2147483647) : Mt G l z yX9_feed cX9_feed 2 (some .int) { frames := 0, cells := 0, slots := 0, locals := 0 } [.ref (z + 0), .int va] u n (some (.int (-1000000002 : Int32))) u n := by
  refine mt_of (by decide +kernel) (Nat.le_of_ble_eq_true rfl) ?_
  intro p e s m below meth c C hr hlk hnm
  refine x_iload_n C 1 dX9_feed_0 rfl rfl ?_
  refine x_if_lt_f C 11 dX9_feed_1 (by decide) (by simp only [Int32.lt_iff_toInt_lt, Int32.le_iff_toInt_le, i_eq_iff]; have e9 : (0 : Int32).toInt = 0 := (by decide); omega) ?_
  refine x_iload_n C 1 dX9_feed_4 rfl rfl ?_
  refine x_sipush (v := (255 : Int32)) C dX9_feed_5 (by decide) ?_
  refine x_icmp_le_f C 14 dX9_feed_8 (by decide) (by simp only [Int32.lt_iff_toInt_lt, Int32.le_iff_toInt_le, i_eq_iff]; have e9 : (255 : Int32).toInt = 255 := (by decide); omega) ?_
  refine x_ldc C kcX9_80 dX9_feed_11 ?_
  exact x_iret C hr hlk (Nat.le_of_ble_eq_true rfl) (Nat.le_of_ble_eq_true rfl) dX9_feed_13 rfl rfl rfl
set_option maxRecDepth 20000 in
theorem p_X10_in_2 {G : GT} {l : Launch} {z n : Nat} (u : HpT) (va : Int32) (hl_va : 256 ≤ va.toInt) (hh_va : va.toInt ≤ 2147483647) : Mt G l z yX10_in cX10_in 3 (some .boolean) { frames := 0, cells := 0, slots := 0, locals := 0 } [.int va, .int (0 : Int32), .int (255 : Int32)] u n (some (.int (0 : Int32))) u n := by
  refine mt_of (by decide +kernel) (Nat.le_of_ble_eq_true rfl) ?_
  intro p e s m below meth c C hr hlk hnm
  refine x_iload_n C 0 dX10_in_0 rfl rfl ?_
  refine x_iload_n C 1 dX10_in_1 rfl rfl ?_
  refine x_icmp_lt_f C 14 dX10_in_2 (by decide) (by simp only [Int32.lt_iff_toInt_lt, Int32.le_iff_toInt_le, i_eq_iff]; have e9 : (0 : Int32).toInt = 0 := (by decide); omega) ?_
  refine x_iload_n C 0 dX10_in_5 rfl rfl ?_
  refine x_iload_n C 2 dX10_in_6 rfl rfl ?_
  refine x_icmp_gt_t C 14 dX10_in_7 (by decide) (by simp only [Int32.lt_iff_toInt_lt, Int32.le_iff_toInt_le, i_eq_iff]; have e9 : (255 : Int32).toInt = 255 := (by decide); omega) ?_
  refine x_iconst (v := (0 : Int32)) C dX10_in_14 (by decide) ?_
  exact x_zret C hr hlk (Nat.le_of_ble_eq_true rfl) (Nat.le_of_ble_eq_true rfl) dX10_in_15 (by decide) rfl rfl rfl
set_option maxRecDepth 20000 in
theorem p_X10_feed_2 {G : GT} {l : Launch} {z n : Nat} (u : HpT) (va : Int32) (hl_va : 256 ≤ va.toInt) (hh_va : va.toInt ≤ 2147483647) : Mt G l z yX10_feed cX10_feed 2 (some .int) { frames := 1, cells := 0, slots := 0, locals := 22 } [.ref (z + 134), .int va] u n (some (.int (-1000000002 : Int32))) u n := by
  refine mt_of (by decide +kernel) (Nat.le_of_ble_eq_true rfl) ?_
  intro p e s m below meth c C hr hlk hnm
  refine x_iload_n C 1 dX10_feed_0 rfl rfl ?_
  refine x_iconst (v := (0 : Int32)) C dX10_feed_1 (by decide) ?_
  refine x_sipush (v := (255 : Int32)) C dX10_feed_2 (by decide) ?_
  refine x_callS C cl_X10_in kmX10_82 (As := [.int va, .int (0 : Int32), .int (255 : Int32)]) (rest := []) (p_X10_in_2 u va hl_va hh_va) rfl rfl (Nat.le_of_ble_eq_true rfl) ⟨Nat.le_of_ble_eq_true rfl, Nat.le_of_ble_eq_true rfl⟩ ⟨Nat.le_of_ble_eq_true rfl, Nat.le_of_ble_eq_true rfl⟩ dX10_feed_5 ?_
  refine x_norm (st2 := [.int (0 : Int32)]) (kc2 := 0) (ks2 := 0) rfl rfl rfl rfl rfl ?_
  refine x_if_ne_f C 14 dX10_feed_8 (by decide) (by decide) ?_
  refine x_ldc C kcX10_86 dX10_feed_11 ?_
  exact x_iret C hr hlk (Nat.le_of_ble_eq_true rfl) (Nat.le_of_ble_eq_true rfl) dX10_feed_13 rfl rfl rfl
set_option maxRecDepth 20000 in
theorem p_X1_clear_0 {G : GT} {l : Launch} {z n : Nat} (u : HpT) (h119 : u 119 = some (.inr (0, [.int (0 : Int32), .int (0 : Int32), .int (0 : Int32), .int (0 : Int32), .ref (z + 120), .ref (z + 121), .ref (z + 122), .ref (z + 123), .ref (z + 124), .ref (z + 125)]))) : Mt G l z yX1_clear cX1_clear 1 none { frames := 0, cells := 0, slots := 0, locals := 0 } [.ref (z + 119)] u n none (hup u 119 (.inr (0, [.int (0 : Int32), .int (0 : Int32), .int (0 : Int32), .int (0 : Int32), .ref (z + 120), .ref (z + 121), .ref (z + 122), .ref (z + 123), .ref (z + 124), .ref (z + 125)]))) n := by
  refine mt_of (by decide +kernel) (Nat.le_of_ble_eq_true rfl) ?_
  intro p e s m below meth c C hr hlk hnm
  refine x_aload_n C 0 dX1_clear_0 rfl rfl ?_
  refine x_iconst (v := (0 : Int32)) C dX1_clear_1 (by decide) ?_
  obtain ⟨u1, eu1⟩ : ∃ w : HpT, w = (hup u 119 (.inr (0, [.int (0 : Int32), .int (0 : Int32), .int (0 : Int32), .int (0 : Int32), .ref (z + 120), .ref (z + 121), .ref (z + 122), .ref (z + 123), .ref (z + 124), .ref (z + 125)]))) := ⟨_, rfl⟩
  refine pfX1_9 C dX1_clear_2 h119 (Nat.le_of_ble_eq_true rfl) rfl eu1.symm ?_
  refine x_aload_n C 0 dX1_clear_5 rfl rfl ?_
  refine x_iconst (v := (0 : Int32)) C dX1_clear_6 (by decide) ?_
  have k119_1 := (congrFun eu1 119).trans (hup_s _ _ _)
  obtain ⟨u2, eu2⟩ : ∃ w : HpT, w = (hup u1 119 (.inr (0, [.int (0 : Int32), .int (0 : Int32), .int (0 : Int32), .int (0 : Int32), .ref (z + 120), .ref (z + 121), .ref (z + 122), .ref (z + 123), .ref (z + 124), .ref (z + 125)]))) := ⟨_, rfl⟩
  refine pfX1_15 C dX1_clear_7 k119_1 (Nat.le_of_ble_eq_true rfl) rfl eu2.symm ?_
  refine x_aload_n C 0 dX1_clear_10 rfl rfl ?_
  refine x_iconst (v := (0 : Int32)) C dX1_clear_11 (by decide) ?_
  have k119_2 := (congrFun eu2 119).trans (hup_s _ _ _)
  obtain ⟨u3, eu3⟩ : ∃ w : HpT, w = (hup u2 119 (.inr (0, [.int (0 : Int32), .int (0 : Int32), .int (0 : Int32), .int (0 : Int32), .ref (z + 120), .ref (z + 121), .ref (z + 122), .ref (z + 123), .ref (z + 124), .ref (z + 125)]))) := ⟨_, rfl⟩
  refine pfX1_18 C dX1_clear_12 k119_2 (Nat.le_of_ble_eq_true rfl) rfl eu3.symm ?_
  refine x_aload_n C 0 dX1_clear_15 rfl rfl ?_
  refine x_iconst (v := (0 : Int32)) C dX1_clear_16 (by decide) ?_
  have k119_3 := (congrFun eu3 119).trans (hup_s _ _ _)
  obtain ⟨u4, eu4⟩ : ∃ w : HpT, w = (hup u3 119 (.inr (0, [.int (0 : Int32), .int (0 : Int32), .int (0 : Int32), .int (0 : Int32), .ref (z + 120), .ref (z + 121), .ref (z + 122), .ref (z + 123), .ref (z + 124), .ref (z + 125)]))) := ⟨_, rfl⟩
  refine pfX1_21 C dX1_clear_17 k119_3 (Nat.le_of_ble_eq_true rfl) rfl eu4.symm ?_
  exact x_vret C hr hlk (Nat.le_of_ble_eq_true rfl) (Nat.le_of_ble_eq_true rfl) dX1_clear_20 rfl (by rw [eu4, eu3, eu2, eu1]; simp only [hup_hup, hup_sk, ne_eq, Nat.reduceEqDiff, not_false_eq_true]) rfl
set_option maxRecDepth 20000 in
theorem p_X7_skipBlanks_0 {G : GT} {l : Launch} {z n : Nat} (u : HpT) (h1 : u 1 = some (.inr (6, [.ref (z + 2), .int (0 : Int32), .int (0 : Int32), .int (0 : Int32), .int (-1 : Int32)]))) : Mt G l z yX7_skipBlanks cX7_skipBlanks 1 none { frames := 0, cells := 0, slots := 0, locals := 0 } [.ref (z + 1)] u n none u n := by
  refine mt_of (by decide +kernel) (Nat.le_of_ble_eq_true rfl) ?_
  intro p e s m below meth c C hr hlk hnm
  refine x_aload_n C 0 dX7_skipBlanks_0 rfl rfl ?_
  refine gfX7_19 C dX7_skipBlanks_1 h1 rfl ?_
  refine x_aload_n C 0 dX7_skipBlanks_4 rfl rfl ?_
  refine gfX7_15 C dX7_skipBlanks_5 h1 rfl ?_
  refine x_icmp_ge_t C 33 dX7_skipBlanks_8 (by decide) (by decide) ?_
  exact x_vret C hr hlk (Nat.le_of_ble_eq_true rfl) (Nat.le_of_ble_eq_true rfl) dX7_skipBlanks_33 rfl rfl rfl
set_option maxRecDepth 20000 in
theorem p_X9_setOfFirst_0 {G : GT} {l : Launch} {z n : Nat} (u : HpT) : Mt G l z yX9_setOfFirst cX9_setOfFirst 1 (some .int) { frames := 0, cells := 0, slots := 0, locals := 0 } [.int (0 : Int32)] u n (some (.int (0 : Int32))) u n := by
  refine mt_of (by decide +kernel) (Nat.le_of_ble_eq_true rfl) ?_
  intro p e s m below meth c C hr hlk hnm
  refine x_iconst (v := (1 : Int32)) C dX9_setOfFirst_0 (by decide) ?_
  refine x_iload_n C 0 dX9_setOfFirst_1 rfl rfl ?_
  refine x_ishl C dX9_setOfFirst_2 ?_
  refine x_eqi (w := (1 : Int32)) (by decide) ?_
  refine x_iconst (v := (1 : Int32)) C dX9_setOfFirst_3 (by decide) ?_
  refine x_isub C dX9_setOfFirst_4 ?_
  refine x_eqi (w := (0 : Int32)) (by decide) ?_
  exact x_iret C hr hlk (Nat.le_of_ble_eq_true rfl) (Nat.le_of_ble_eq_true rfl) dX9_setOfFirst_5 rfl rfl rfl
set_option maxRecDepth 20000 in
theorem p_X1_settle_0 {G : GT} {l : Launch} {z n : Nat} (u : HpT) (h119 : u 119 = some (.inr (0, [.int (0 : Int32), .int (0 : Int32), .int (0 : Int32), .int (0 : Int32), .ref (z + 120), .ref (z + 121), .ref (z + 122), .ref (z + 123), .ref (z + 124), .ref (z + 125)]))) : Mt G l z yX1_settle cX1_settle 3 none { frames := 1, cells := 0, slots := 0, locals := 20 } [.ref (z + 119)] u n none u n := by
  refine mt_of (by decide +kernel) (Nat.le_of_ble_eq_true rfl) ?_
  intro p e s m below meth c C hr hlk hnm
  refine x_aload_n C 0 dX1_settle_0 rfl rfl ?_
  refine gfX1_18 C dX1_settle_1 h119 rfl ?_
  refine x_callSN C cl_X9_setOfFirst knX1_43 (As := [.int (0 : Int32)]) (rest := []) (p_X9_setOfFirst_0 u) rfl rfl (Nat.le_of_ble_eq_true rfl) ⟨Nat.le_of_ble_eq_true rfl, Nat.le_of_ble_eq_true rfl⟩ ⟨Nat.le_of_ble_eq_true rfl, Nat.le_of_ble_eq_true rfl⟩ dX1_settle_4 ?_
  refine x_norm (st2 := [.int (0 : Int32)]) (kc2 := 0) (ks2 := 0) rfl rfl rfl rfl rfl ?_
  refine x_istore_n C [(1, .int (0 : Int32)), (0, .ref (z + 119))] dX1_settle_7 rfl (by decide) rfl ?_
  refine x_iconst (v := (0 : Int32)) C dX1_settle_8 (by decide) ?_
  refine x_istore_n C [(2, .int (0 : Int32)), (1, .int (0 : Int32)), (0, .ref (z + 119))] dX1_settle_9 rfl (by decide) rfl ?_
  refine x_iload_n C 0 dX1_settle_10 rfl rfl ?_
  refine x_aload_n C 2 dX1_settle_11 rfl rfl ?_
  refine gfX1_18 C dX1_settle_12 h119 rfl ?_
  refine x_icmp_ge_t C 34 dX1_settle_15 (by decide) (by decide) ?_
  refine x_iconst (v := (0 : Int32)) C dX1_settle_34 (by decide) ?_
  refine x_istore_n C [(2, .int (0 : Int32)), (1, .int (0 : Int32)), (0, .ref (z + 119))] dX1_settle_35 rfl (by decide) rfl ?_
  refine x_iload_n C 0 dX1_settle_36 rfl rfl ?_
  refine x_aload_n C 2 dX1_settle_37 rfl rfl ?_
  refine gfX1_21 C dX1_settle_38 h119 rfl ?_
  refine x_icmp_ge_t C 60 dX1_settle_41 (by decide) (by decide) ?_
  refine x_iconst (v := (1 : Int32)) C dX1_settle_60 (by decide) ?_
  refine x_istore_n C [(2, .int (1 : Int32)), (1, .int (0 : Int32)), (0, .ref (z + 119))] dX1_settle_61 rfl (by decide) rfl ?_
  refine x_iload_n C 0 dX1_settle_62 rfl rfl ?_
  refine x_iload_n C 1 dX1_settle_63 rfl rfl ?_
  refine x_icmp_gt_t C 84 dX1_settle_64 (by decide) (by decide) ?_
  exact x_vret C hr hlk (Nat.le_of_ble_eq_true rfl) (Nat.le_of_ble_eq_true rfl) dX1_settle_84 rfl rfl rfl
set_option maxRecDepth 20000 in
theorem p_X7_readInto_0 {G : GT} {l : Launch} {z n : Nat} (u : HpT) (h1 : u 1 = some (.inr (6, [.ref (z + 2), .int (0 : Int32), .int (0 : Int32), .int (0 : Int32), .int (-1 : Int32)]))) (h119 : u 119 = some (.inr (0, [.int (0 : Int32), .int (0 : Int32), .int (0 : Int32), .int (0 : Int32), .ref (z + 120), .ref (z + 121), .ref (z + 122), .ref (z + 123), .ref (z + 124), .ref (z + 125)]))) : Mt G l z yX7_readInto cX7_readInto 3 none { frames := 2, cells := 0, slots := 0, locals := 42 } [.ref (z + 1), .ref (z + 119)] u n none (hup (hup u 1 (.inr (6, [.ref (z + 2), .int (0 : Int32), .int (0 : Int32), .int (0 : Int32), .int (-1 : Int32)]))) 119 (.inr (0, [.int (0 : Int32), .int (0 : Int32), .int (0 : Int32), .int (0 : Int32), .ref (z + 120), .ref (z + 121), .ref (z + 122), .ref (z + 123), .ref (z + 124), .ref (z + 125)]))) n := by
  refine mt_of (by decide +kernel) (Nat.le_of_ble_eq_true rfl) ?_
  intro p e s m below meth c C hr hlk hnm
  refine x_aload_n C 0 dX7_readInto_0 rfl rfl ?_
  refine x_iconst (v := (0 : Int32)) C dX7_readInto_1 (by decide) ?_
  obtain ⟨u1, eu1⟩ : ∃ w : HpT, w = (hup u 1 (.inr (6, [.ref (z + 2), .int (0 : Int32), .int (0 : Int32), .int (0 : Int32), .int (-1 : Int32)]))) := ⟨_, rfl⟩
  refine pfX7_19 C dX7_readInto_2 h1 (Nat.le_of_ble_eq_true rfl) rfl eu1.symm ?_
  refine x_aload_n C 0 dX7_readInto_5 rfl rfl ?_
  refine x_iconst (v := (0 : Int32)) C dX7_readInto_6 (by decide) ?_
  have k1_1 := (congrFun eu1 1).trans (hup_s _ _ _)
  obtain ⟨u2, eu2⟩ : ∃ w : HpT, w = (hup u1 1 (.inr (6, [.ref (z + 2), .int (0 : Int32), .int (0 : Int32), .int (0 : Int32), .int (-1 : Int32)]))) := ⟨_, rfl⟩
  refine pfX7_22 C dX7_readInto_7 k1_1 (Nat.le_of_ble_eq_true rfl) rfl eu2.symm ?_
  refine x_aload_n C 0 dX7_readInto_10 rfl rfl ?_
  refine x_iconst (v := (-1 : Int32)) C dX7_readInto_11 (by decide) ?_
  have k1_2 := (congrFun eu2 1).trans (hup_s _ _ _)
  obtain ⟨u3, eu3⟩ : ∃ w : HpT, w = (hup u2 1 (.inr (6, [.ref (z + 2), .int (0 : Int32), .int (0 : Int32), .int (0 : Int32), .int (-1 : Int32)]))) := ⟨_, rfl⟩
  refine pfX7_25 C dX7_readInto_12 k1_2 (Nat.le_of_ble_eq_true rfl) rfl eu3.symm ?_
  refine x_aload_n C 1 dX7_readInto_15 rfl rfl ?_
  have k119_1 := (congrFun eu1 119).trans (hup_n' (by decide) (h119))
  have k119_2 := (congrFun eu2 119).trans (hup_n' (by decide) (k119_1))
  have k119_3 := (congrFun eu3 119).trans (hup_n' (by decide) (k119_2))
  refine x_callV C cl_X1_clear kmX7_28 (ci := 0) (b := 119) (As := []) (rest := []) rfl k119_3 (p_X1_clear_0 u3 k119_3) rfl rfl (Nat.le_of_ble_eq_true rfl) ⟨Nat.le_of_ble_eq_true rfl, Nat.le_of_ble_eq_true rfl⟩ ⟨Nat.le_of_ble_eq_true rfl, Nat.le_of_ble_eq_true rfl⟩ dX7_readInto_16 ?_
  obtain ⟨u4, eu4⟩ : ∃ w : HpT, w = (hup u3 119 (.inr (0, [.int (0 : Int32), .int (0 : Int32), .int (0 : Int32), .int (0 : Int32), .ref (z + 120), .ref (z + 121), .ref (z + 122), .ref (z + 123), .ref (z + 124), .ref (z + 125)]))) := ⟨_, rfl⟩
  refine x_norm (st2 := []) (kc2 := 0) (ks2 := 0) rfl rfl rfl rfl eu4.symm ?_
  refine x_aload_n C 0 dX7_readInto_19 rfl rfl ?_
  have k1_3 := (congrFun eu3 1).trans (hup_s _ _ _)
  have k1_4 := (congrFun eu4 1).trans (hup_n' (by decide) (k1_3))
  refine x_callV C cl_X7_skipBlanks kmX7_33 (ci := 6) (b := 1) (As := []) (rest := []) rfl k1_4 (p_X7_skipBlanks_0 u4 k1_4) rfl rfl (Nat.le_of_ble_eq_true rfl) ⟨Nat.le_of_ble_eq_true rfl, Nat.le_of_ble_eq_true rfl⟩ ⟨Nat.le_of_ble_eq_true rfl, Nat.le_of_ble_eq_true rfl⟩ dX7_readInto_20 ?_
  refine x_norm (st2 := []) (kc2 := 0) (ks2 := 0) rfl rfl rfl rfl rfl ?_
  refine x_iconst (v := (0 : Int32)) C dX7_readInto_23 (by decide) ?_
  refine x_istore_n C [(2, .int (0 : Int32)), (0, .ref (z + 1)), (1, .ref (z + 119))] dX7_readInto_24 rfl (by decide) rfl ?_
  refine x_iload_n C 0 dX7_readInto_25 rfl rfl ?_
  refine x_sipush (v := (240 : Int32)) C dX7_readInto_26 (by decide) ?_
  refine x_icmp_ge_f C 65 dX7_readInto_29 (by decide) (by decide) ?_
  refine x_aload_n C 1 dX7_readInto_32 rfl rfl ?_
  refine gfX7_19 C dX7_readInto_33 k1_4 rfl ?_
  refine x_aload_n C 1 dX7_readInto_36 rfl rfl ?_
  refine gfX7_15 C dX7_readInto_37 k1_4 rfl ?_
  refine x_icmp_ge_t C 65 dX7_readInto_40 (by decide) (by decide) ?_
  refine x_aload_n C 1 dX7_readInto_65 rfl rfl ?_
  refine gfX7_22 C dX7_readInto_66 k1_4 rfl ?_
  refine x_if_ne_f C 76 dX7_readInto_69 (by decide) (by decide) ?_
  refine x_aload_n C 2 dX7_readInto_72 rfl rfl ?_
  have k119_4 := (congrFun eu4 119).trans (hup_s _ _ _)
  refine x_callV C cl_X1_settle kmX7_40 (ci := 0) (b := 119) (As := []) (rest := []) rfl k119_4 (p_X1_settle_0 u4 k119_4) rfl rfl (Nat.le_of_ble_eq_true rfl) ⟨Nat.le_of_ble_eq_true rfl, Nat.le_of_ble_eq_true rfl⟩ ⟨Nat.le_of_ble_eq_true rfl, Nat.le_of_ble_eq_true rfl⟩ dX7_readInto_73 ?_
  refine x_norm (st2 := []) (kc2 := 0) (ks2 := 0) rfl rfl rfl rfl rfl ?_
  exact x_vret C hr hlk (Nat.le_of_ble_eq_true rfl) (Nat.le_of_ble_eq_true rfl) dX7_readInto_76 rfl (by rw [eu4, eu3, eu2, eu1]; simp only [hup_hup, hup_sk, ne_eq, Nat.reduceEqDiff, not_false_eq_true]) rfl
set_option maxRecDepth 20000 in
theorem p_X7_empty_0 {G : GT} {l : Launch} {z n : Nat} (u : HpT) (h1 : u 1 = some (.inr (6, [.ref (z + 2), .int (0 : Int32), .int (0 : Int32), .int (0 : Int32), .int (-1 : Int32)]))) : Mt G l z yX7_empty cX7_empty 1 none { frames := 0, cells := 0, slots := 0, locals := 0 } [.ref (z + 1)] u n none (hup u 1 (.inr (6, [.ref (z + 2), .int (0 : Int32), .int (0 : Int32), .int (0 : Int32), .int (-1 : Int32)]))) n := by
  refine mt_of (by decide +kernel) (Nat.le_of_ble_eq_true rfl) ?_
  intro p e s m below meth c C hr hlk hnm
  refine x_aload_n C 0 dX7_empty_0 rfl rfl ?_
  refine x_iconst (v := (0 : Int32)) C dX7_empty_1 (by decide) ?_
  obtain ⟨u1, eu1⟩ : ∃ w : HpT, w = (hup u 1 (.inr (6, [.ref (z + 2), .int (0 : Int32), .int (0 : Int32), .int (0 : Int32), .int (-1 : Int32)]))) := ⟨_, rfl⟩
  refine pfX7_15 C dX7_empty_2 h1 (Nat.le_of_ble_eq_true rfl) rfl eu1.symm ?_
  exact x_vret C hr hlk (Nat.le_of_ble_eq_true rfl) (Nat.le_of_ble_eq_true rfl) dX7_empty_5 rfl (by rw [eu1]) rfl
set_option maxRecDepth 20000 in
theorem p_X3_emptySeat_0 {G : GT} {l : Launch} {z n : Nat} (u : HpT) (h3 : u 3 = some (.inr (2, [.int (0 : Int32), .int (0 : Int32), .int (0 : Int32), .int (0 : Int32), .int (-1 : Int32), .int (0 : Int32), .int (-1 : Int32), .int (0 : Int32), .int (0 : Int32), .int (0 : Int32), .ref (z + 4), .ref (z + 5)]))) : Mt G l z yX3_emptySeat cX3_emptySeat 1 none { frames := 0, cells := 0, slots := 0, locals := 0 } [.ref (z + 3)] u n none (hup u 3 (.inr (2, [.int (0 : Int32), .int (0 : Int32), .int (0 : Int32), .int (0 : Int32), .int (-1 : Int32), .int (0 : Int32), .int (-1 : Int32), .int (0 : Int32), .int (0 : Int32), .int (0 : Int32), .ref (z + 4), .ref (z + 5)]))) n := by
  refine mt_of (by decide +kernel) (Nat.le_of_ble_eq_true rfl) ?_
  intro p e s m below meth c C hr hlk hnm
  refine x_aload_n C 0 dX3_emptySeat_0 rfl rfl ?_
  refine x_iconst (v := (-1 : Int32)) C dX3_emptySeat_1 (by decide) ?_
  obtain ⟨u1, eu1⟩ : ∃ w : HpT, w = (hup u 3 (.inr (2, [.int (0 : Int32), .int (0 : Int32), .int (0 : Int32), .int (0 : Int32), .int (-1 : Int32), .int (0 : Int32), .int (-1 : Int32), .int (0 : Int32), .int (0 : Int32), .int (0 : Int32), .ref (z + 4), .ref (z + 5)]))) := ⟨_, rfl⟩
  refine pfX3_24 C dX3_emptySeat_2 h3 (Nat.le_of_ble_eq_true rfl) rfl eu1.symm ?_
  refine x_aload_n C 0 dX3_emptySeat_5 rfl rfl ?_
  refine x_iconst (v := (0 : Int32)) C dX3_emptySeat_6 (by decide) ?_
  have k3_1 := (congrFun eu1 3).trans (hup_s _ _ _)
  obtain ⟨u2, eu2⟩ : ∃ w : HpT, w = (hup u1 3 (.inr (2, [.int (0 : Int32), .int (0 : Int32), .int (0 : Int32), .int (0 : Int32), .int (-1 : Int32), .int (0 : Int32), .int (-1 : Int32), .int (0 : Int32), .int (0 : Int32), .int (0 : Int32), .ref (z + 4), .ref (z + 5)]))) := ⟨_, rfl⟩
  refine pfX3_27 C dX3_emptySeat_7 k3_1 (Nat.le_of_ble_eq_true rfl) rfl eu2.symm ?_
  refine x_aload_n C 0 dX3_emptySeat_10 rfl rfl ?_
  refine x_iconst (v := (-1 : Int32)) C dX3_emptySeat_11 (by decide) ?_
  have k3_2 := (congrFun eu2 3).trans (hup_s _ _ _)
  obtain ⟨u3, eu3⟩ : ∃ w : HpT, w = (hup u2 3 (.inr (2, [.int (0 : Int32), .int (0 : Int32), .int (0 : Int32), .int (0 : Int32), .int (-1 : Int32), .int (0 : Int32), .int (-1 : Int32), .int (0 : Int32), .int (0 : Int32), .int (0 : Int32), .ref (z + 4), .ref (z + 5)]))) := ⟨_, rfl⟩
  refine pfX3_30 C dX3_emptySeat_12 k3_2 (Nat.le_of_ble_eq_true rfl) rfl eu3.symm ?_
  exact x_vret C hr hlk (Nat.le_of_ble_eq_true rfl) (Nat.le_of_ble_eq_true rfl) dX3_emptySeat_15 rfl (by rw [eu3, eu2, eu1]; simp only [hup_hup, hup_sk, ne_eq, Nat.reduceEqDiff, not_false_eq_true]) rfl
set_option maxRecDepth 20000 in
theorem p_X3_gather_0 {G : GT} {l : Launch} {z n : Nat} (u : HpT) (h3 : u 3 = some (.inr (2, [.int (0 : Int32), .int (0 : Int32), .int (0 : Int32), .int (0 : Int32), .int (-1 : Int32), .int (0 : Int32), .int (-1 : Int32), .int (0 : Int32), .int (0 : Int32), .int (0 : Int32), .ref (z + 4), .ref (z + 5)]))) (h4 : u 4 = some (aI G 6 (fun _ => 0))) (h5 : u 5 = some (aI G 6 (fun _ => 0))) (h119 : u 119 = some (.inr (0, [.int (0 : Int32), .int (0 : Int32), .int (0 : Int32), .int (0 : Int32), .ref (z + 120), .ref (z + 121), .ref (z + 122), .ref (z + 123), .ref (z + 124), .ref (z + 125)]))) : Mt G l z yX3_gather cX3_gather 3 none { frames := 1, cells := 0, slots := 0, locals := 20 } [.ref (z + 3), .ref (z + 119)] u n none (hup (hup (hup u 3 (.inr (2, [.int (0 : Int32), .int (0 : Int32), .int (0 : Int32), .int (0 : Int32), .int (-1 : Int32), .int (0 : Int32), .int (-1 : Int32), .int (0 : Int32), .int (0 : Int32), .int (0 : Int32), .ref (z + 4), .ref (z + 5)]))) 4 (aI G 6 (upd (upd (upd (upd (upd (upd (fun _ => 0) 0 (0 : Int32)) 1 (0 : Int32)) 2 (0 : Int32)) 3 (0 : Int32)) 4 (0 : Int32)) 5 (0 : Int32)))) 5 (aI G 6 (upd (upd (upd (upd (upd (upd (fun _ => 0) 0 (0 : Int32)) 1 (0 : Int32)) 2 (0 : Int32)) 3 (0 : Int32)) 4 (0 : Int32)) 5 (0 : Int32)))) n := by
  refine mt_of (by decide +kernel) (Nat.le_of_ble_eq_true rfl) ?_
  intro p e s m below meth c C hr hlk hnm
  refine x_aload_n C 0 dX3_gather_0 rfl rfl ?_
  refine x_callV C cl_X3_emptySeat kmX3_58 (ci := 2) (b := 3) (As := []) (rest := []) rfl h3 (p_X3_emptySeat_0 u h3) rfl rfl (Nat.le_of_ble_eq_true rfl) ⟨Nat.le_of_ble_eq_true rfl, Nat.le_of_ble_eq_true rfl⟩ ⟨Nat.le_of_ble_eq_true rfl, Nat.le_of_ble_eq_true rfl⟩ dX3_gather_1 ?_
  obtain ⟨u1, eu1⟩ : ∃ w : HpT, w = (hup u 3 (.inr (2, [.int (0 : Int32), .int (0 : Int32), .int (0 : Int32), .int (0 : Int32), .int (-1 : Int32), .int (0 : Int32), .int (-1 : Int32), .int (0 : Int32), .int (0 : Int32), .int (0 : Int32), .ref (z + 4), .ref (z + 5)]))) := ⟨_, rfl⟩
  refine x_norm (st2 := []) (kc2 := 0) (ks2 := 0) rfl rfl rfl rfl eu1.symm ?_
  refine x_aload_n C 0 dX3_gather_4 rfl rfl ?_
  refine x_aload_n C 1 dX3_gather_5 rfl rfl ?_
  have k119_1 := (congrFun eu1 119).trans (hup_n' (by decide) (h119))
  refine gfX3_61 C dX3_gather_6 k119_1 rfl ?_
  refine x_callSN C cl_X9_setOfFirst knX3_64 (As := [.int (0 : Int32)]) (rest := [.ref (z + 3)]) (p_X9_setOfFirst_0 u1) rfl rfl (Nat.le_of_ble_eq_true rfl) ⟨Nat.le_of_ble_eq_true rfl, Nat.le_of_ble_eq_true rfl⟩ ⟨Nat.le_of_ble_eq_true rfl, Nat.le_of_ble_eq_true rfl⟩ dX3_gather_9 ?_
  refine x_norm (st2 := [.int (0 : Int32), .ref (z + 3)]) (kc2 := 0) (ks2 := 0) rfl rfl rfl rfl rfl ?_
  have k3_1 := (congrFun eu1 3).trans (hup_s _ _ _)
  obtain ⟨u2, eu2⟩ : ∃ w : HpT, w = (hup u1 3 (.inr (2, [.int (0 : Int32), .int (0 : Int32), .int (0 : Int32), .int (0 : Int32), .int (-1 : Int32), .int (0 : Int32), .int (-1 : Int32), .int (0 : Int32), .int (0 : Int32), .int (0 : Int32), .ref (z + 4), .ref (z + 5)]))) := ⟨_, rfl⟩
  refine pfX3_33 C dX3_gather_12 k3_1 (Nat.le_of_ble_eq_true rfl) rfl eu2.symm ?_
  refine x_aload_n C 0 dX3_gather_15 rfl rfl ?_
  refine x_iconst (v := (0 : Int32)) C dX3_gather_16 (by decide) ?_
  have k3_2 := (congrFun eu2 3).trans (hup_s _ _ _)
  obtain ⟨u3, eu3⟩ : ∃ w : HpT, w = (hup u2 3 (.inr (2, [.int (0 : Int32), .int (0 : Int32), .int (0 : Int32), .int (0 : Int32), .int (-1 : Int32), .int (0 : Int32), .int (-1 : Int32), .int (0 : Int32), .int (0 : Int32), .int (0 : Int32), .ref (z + 4), .ref (z + 5)]))) := ⟨_, rfl⟩
  refine pfX3_36 C dX3_gather_17 k3_2 (Nat.le_of_ble_eq_true rfl) rfl eu3.symm ?_
  refine x_aload_n C 0 dX3_gather_20 rfl rfl ?_
  refine x_iconst (v := (0 : Int32)) C dX3_gather_21 (by decide) ?_
  have k3_3 := (congrFun eu3 3).trans (hup_s _ _ _)
  obtain ⟨u4, eu4⟩ : ∃ w : HpT, w = (hup u3 3 (.inr (2, [.int (0 : Int32), .int (0 : Int32), .int (0 : Int32), .int (0 : Int32), .int (-1 : Int32), .int (0 : Int32), .int (-1 : Int32), .int (0 : Int32), .int (0 : Int32), .int (0 : Int32), .ref (z + 4), .ref (z + 5)]))) := ⟨_, rfl⟩
  refine pfX3_39 C dX3_gather_22 k3_3 (Nat.le_of_ble_eq_true rfl) rfl eu4.symm ?_
  refine x_iconst (v := (0 : Int32)) C dX3_gather_25 (by decide) ?_
  refine x_istore_n C [(2, .int (0 : Int32)), (0, .ref (z + 3)), (1, .ref (z + 119))] dX3_gather_26 rfl (by decide) rfl ?_
  refine x_iload_n C 0 dX3_gather_27 rfl rfl ?_
  refine x_bipush (v := (6 : Int32)) C dX3_gather_28 (by decide) ?_
  refine x_icmp_ge_f C 53 dX3_gather_30 (by decide) (by decide) ?_
  refine x_aload_n C 1 dX3_gather_33 rfl rfl ?_
  have k3_4 := (congrFun eu4 3).trans (hup_s _ _ _)
  refine gfX3_42 C dX3_gather_34 k3_4 rfl ?_
  refine x_iload_n C 0 dX3_gather_37 rfl rfl ?_
  refine x_iconst (v := (0 : Int32)) C dX3_gather_38 (by decide) ?_
  have k4_1 := (congrFun eu1 4).trans (hup_n' (by decide) (h4))
  have k4_2 := (congrFun eu2 4).trans (hup_n' (by decide) (k4_1))
  have k4_3 := (congrFun eu3 4).trans (hup_n' (by decide) (k4_2))
  have k4_4 := (congrFun eu4 4).trans (hup_n' (by decide) (k4_3))
  refine x_iastk C 0 k4_4 (vp_in_lit (by decide) (by decide)) (by decide) dX3_gather_39 ?_
  obtain ⟨u5, eu5⟩ : ∃ w : HpT, w = (hup u4 4 (aI G 6 (upd (fun _ => 0) 0 (0 : Int32)))) := ⟨_, rfl⟩
  refine x_heap (u2 := u5) eu5.symm ?_
  refine x_aload_n C 1 dX3_gather_40 rfl rfl ?_
  have k3_5 := (congrFun eu5 3).trans (hup_n' (by decide) (k3_4))
  refine gfX3_46 C dX3_gather_41 k3_5 rfl ?_
  refine x_iload_n C 0 dX3_gather_44 rfl rfl ?_
  refine x_iconst (v := (0 : Int32)) C dX3_gather_45 (by decide) ?_
  have k5_1 := (congrFun eu1 5).trans (hup_n' (by decide) (h5))
  have k5_2 := (congrFun eu2 5).trans (hup_n' (by decide) (k5_1))
  have k5_3 := (congrFun eu3 5).trans (hup_n' (by decide) (k5_2))
  have k5_4 := (congrFun eu4 5).trans (hup_n' (by decide) (k5_3))
  have k5_5 := (congrFun eu5 5).trans (hup_n' (by decide) (k5_4))
  refine x_iastk C 0 k5_5 (vp_in_lit (by decide) (by decide)) (by decide) dX3_gather_46 ?_
  obtain ⟨u6, eu6⟩ : ∃ w : HpT, w = (hup u5 5 (aI G 6 (upd (fun _ => 0) 0 (0 : Int32)))) := ⟨_, rfl⟩
  refine x_heap (u2 := u6) eu6.symm ?_
  refine x_iinc C 0 [(2, .int (1 : Int32)), (0, .ref (z + 3)), (1, .ref (z + 119))] dX3_gather_47 rfl (by decide) (by decide) rfl ?_
  refine x_goto C 27 dX3_gather_50 (by decide) ?_
  refine x_iload_n C 0 dX3_gather_27 rfl rfl ?_
  refine x_bipush (v := (6 : Int32)) C dX3_gather_28 (by decide) ?_
  refine x_icmp_ge_f C 53 dX3_gather_30 (by decide) (by decide) ?_
  refine x_aload_n C 1 dX3_gather_33 rfl rfl ?_
  have k3_6 := (congrFun eu6 3).trans (hup_n' (by decide) (k3_5))
  refine gfX3_42 C dX3_gather_34 k3_6 rfl ?_
  refine x_iload_n C 0 dX3_gather_37 rfl rfl ?_
  refine x_iconst (v := (0 : Int32)) C dX3_gather_38 (by decide) ?_
  have k4_5 := (congrFun eu5 4).trans (hup_s _ _ _)
  have k4_6 := (congrFun eu6 4).trans (hup_n' (by decide) (k4_5))
  refine x_iastk C 1 k4_6 (vp_in_lit (by decide) (by decide)) (by decide) dX3_gather_39 ?_
  obtain ⟨u7, eu7⟩ : ∃ w : HpT, w = (hup u6 4 (aI G 6 (upd (upd (fun _ => 0) 0 (0 : Int32)) 1 (0 : Int32)))) := ⟨_, rfl⟩
  refine x_heap (u2 := u7) eu7.symm ?_
  refine x_aload_n C 1 dX3_gather_40 rfl rfl ?_
  have k3_7 := (congrFun eu7 3).trans (hup_n' (by decide) (k3_6))
  refine gfX3_46 C dX3_gather_41 k3_7 rfl ?_
  refine x_iload_n C 0 dX3_gather_44 rfl rfl ?_
  refine x_iconst (v := (0 : Int32)) C dX3_gather_45 (by decide) ?_
  have k5_6 := (congrFun eu6 5).trans (hup_s _ _ _)
  have k5_7 := (congrFun eu7 5).trans (hup_n' (by decide) (k5_6))
  refine x_iastk C 1 k5_7 (vp_in_lit (by decide) (by decide)) (by decide) dX3_gather_46 ?_
  obtain ⟨u8, eu8⟩ : ∃ w : HpT, w = (hup u7 5 (aI G 6 (upd (upd (fun _ => 0) 0 (0 : Int32)) 1 (0 : Int32)))) := ⟨_, rfl⟩
  refine x_heap (u2 := u8) eu8.symm ?_
  refine x_iinc C 0 [(2, .int (2 : Int32)), (0, .ref (z + 3)), (1, .ref (z + 119))] dX3_gather_47 rfl (by decide) (by decide) rfl ?_
  refine x_goto C 27 dX3_gather_50 (by decide) ?_
  refine x_iload_n C 0 dX3_gather_27 rfl rfl ?_
  refine x_bipush (v := (6 : Int32)) C dX3_gather_28 (by decide) ?_
  refine x_icmp_ge_f C 53 dX3_gather_30 (by decide) (by decide) ?_
  refine x_aload_n C 1 dX3_gather_33 rfl rfl ?_
  have k3_8 := (congrFun eu8 3).trans (hup_n' (by decide) (k3_7))
  refine gfX3_42 C dX3_gather_34 k3_8 rfl ?_
  refine x_iload_n C 0 dX3_gather_37 rfl rfl ?_
  refine x_iconst (v := (0 : Int32)) C dX3_gather_38 (by decide) ?_
  have k4_7 := (congrFun eu7 4).trans (hup_s _ _ _)
  have k4_8 := (congrFun eu8 4).trans (hup_n' (by decide) (k4_7))
  refine x_iastk C 2 k4_8 (vp_in_lit (by decide) (by decide)) (by decide) dX3_gather_39 ?_
  obtain ⟨u9, eu9⟩ : ∃ w : HpT, w = (hup u8 4 (aI G 6 (upd (upd (upd (fun _ => 0) 0 (0 : Int32)) 1 (0 : Int32)) 2 (0 : Int32)))) := ⟨_, rfl⟩
  refine x_heap (u2 := u9) eu9.symm ?_
  refine x_aload_n C 1 dX3_gather_40 rfl rfl ?_
  have k3_9 := (congrFun eu9 3).trans (hup_n' (by decide) (k3_8))
  refine gfX3_46 C dX3_gather_41 k3_9 rfl ?_
  refine x_iload_n C 0 dX3_gather_44 rfl rfl ?_
  refine x_iconst (v := (0 : Int32)) C dX3_gather_45 (by decide) ?_
  have k5_8 := (congrFun eu8 5).trans (hup_s _ _ _)
  have k5_9 := (congrFun eu9 5).trans (hup_n' (by decide) (k5_8))
  refine x_iastk C 2 k5_9 (vp_in_lit (by decide) (by decide)) (by decide) dX3_gather_46 ?_
  obtain ⟨u10, eu10⟩ : ∃ w : HpT, w = (hup u9 5 (aI G 6 (upd (upd (upd (fun _ => 0) 0 (0 : Int32)) 1 (0 : Int32)) 2 (0 : Int32)))) := ⟨_, rfl⟩
  refine x_heap (u2 := u10) eu10.symm ?_
  refine x_iinc C 0 [(2, .int (3 : Int32)), (0, .ref (z + 3)), (1, .ref (z + 119))] dX3_gather_47 rfl (by decide) (by decide) rfl ?_
  refine x_goto C 27 dX3_gather_50 (by decide) ?_
  refine x_iload_n C 0 dX3_gather_27 rfl rfl ?_
  refine x_bipush (v := (6 : Int32)) C dX3_gather_28 (by decide) ?_
  refine x_icmp_ge_f C 53 dX3_gather_30 (by decide) (by decide) ?_
  refine x_aload_n C 1 dX3_gather_33 rfl rfl ?_
  have k3_10 := (congrFun eu10 3).trans (hup_n' (by decide) (k3_9))
  refine gfX3_42 C dX3_gather_34 k3_10 rfl ?_
  refine x_iload_n C 0 dX3_gather_37 rfl rfl ?_
  refine x_iconst (v := (0 : Int32)) C dX3_gather_38 (by decide) ?_
  have k4_9 := (congrFun eu9 4).trans (hup_s _ _ _)
  have k4_10 := (congrFun eu10 4).trans (hup_n' (by decide) (k4_9))
  refine x_iastk C 3 k4_10 (vp_in_lit (by decide) (by decide)) (by decide) dX3_gather_39 ?_
  obtain ⟨u11, eu11⟩ : ∃ w : HpT, w = (hup u10 4 (aI G 6 (upd (upd (upd (upd (fun _ => 0) 0 (0 : Int32)) 1 (0 : Int32)) 2 (0 : Int32)) 3 (0 : Int32)))) := ⟨_, rfl⟩
  refine x_heap (u2 := u11) eu11.symm ?_
  refine x_aload_n C 1 dX3_gather_40 rfl rfl ?_
  have k3_11 := (congrFun eu11 3).trans (hup_n' (by decide) (k3_10))
  refine gfX3_46 C dX3_gather_41 k3_11 rfl ?_
  refine x_iload_n C 0 dX3_gather_44 rfl rfl ?_
  refine x_iconst (v := (0 : Int32)) C dX3_gather_45 (by decide) ?_
  have k5_10 := (congrFun eu10 5).trans (hup_s _ _ _)
  have k5_11 := (congrFun eu11 5).trans (hup_n' (by decide) (k5_10))
  refine x_iastk C 3 k5_11 (vp_in_lit (by decide) (by decide)) (by decide) dX3_gather_46 ?_
  obtain ⟨u12, eu12⟩ : ∃ w : HpT, w = (hup u11 5 (aI G 6 (upd (upd (upd (upd (fun _ => 0) 0 (0 : Int32)) 1 (0 : Int32)) 2 (0 : Int32)) 3 (0 : Int32)))) := ⟨_, rfl⟩
  refine x_heap (u2 := u12) eu12.symm ?_
  refine x_iinc C 0 [(2, .int (4 : Int32)), (0, .ref (z + 3)), (1, .ref (z + 119))] dX3_gather_47 rfl (by decide) (by decide) rfl ?_
  refine x_goto C 27 dX3_gather_50 (by decide) ?_
  refine x_iload_n C 0 dX3_gather_27 rfl rfl ?_
  refine x_bipush (v := (6 : Int32)) C dX3_gather_28 (by decide) ?_
  refine x_icmp_ge_f C 53 dX3_gather_30 (by decide) (by decide) ?_
  refine x_aload_n C 1 dX3_gather_33 rfl rfl ?_
  have k3_12 := (congrFun eu12 3).trans (hup_n' (by decide) (k3_11))
  refine gfX3_42 C dX3_gather_34 k3_12 rfl ?_
  refine x_iload_n C 0 dX3_gather_37 rfl rfl ?_
  refine x_iconst (v := (0 : Int32)) C dX3_gather_38 (by decide) ?_
  have k4_11 := (congrFun eu11 4).trans (hup_s _ _ _)
  have k4_12 := (congrFun eu12 4).trans (hup_n' (by decide) (k4_11))
  refine x_iastk C 4 k4_12 (vp_in_lit (by decide) (by decide)) (by decide) dX3_gather_39 ?_
  obtain ⟨u13, eu13⟩ : ∃ w : HpT, w = (hup u12 4 (aI G 6 (upd (upd (upd (upd (upd (fun _ => 0) 0 (0 : Int32)) 1 (0 : Int32)) 2 (0 : Int32)) 3 (0 : Int32)) 4 (0 : Int32)))) := ⟨_, rfl⟩
  refine x_heap (u2 := u13) eu13.symm ?_
  refine x_aload_n C 1 dX3_gather_40 rfl rfl ?_
  have k3_13 := (congrFun eu13 3).trans (hup_n' (by decide) (k3_12))
  refine gfX3_46 C dX3_gather_41 k3_13 rfl ?_
  refine x_iload_n C 0 dX3_gather_44 rfl rfl ?_
  refine x_iconst (v := (0 : Int32)) C dX3_gather_45 (by decide) ?_
  have k5_12 := (congrFun eu12 5).trans (hup_s _ _ _)
  have k5_13 := (congrFun eu13 5).trans (hup_n' (by decide) (k5_12))
  refine x_iastk C 4 k5_13 (vp_in_lit (by decide) (by decide)) (by decide) dX3_gather_46 ?_
  obtain ⟨u14, eu14⟩ : ∃ w : HpT, w = (hup u13 5 (aI G 6 (upd (upd (upd (upd (upd (fun _ => 0) 0 (0 : Int32)) 1 (0 : Int32)) 2 (0 : Int32)) 3 (0 : Int32)) 4 (0 : Int32)))) := ⟨_, rfl⟩
  refine x_heap (u2 := u14) eu14.symm ?_
  refine x_iinc C 0 [(2, .int (5 : Int32)), (0, .ref (z + 3)), (1, .ref (z + 119))] dX3_gather_47 rfl (by decide) (by decide) rfl ?_
  refine x_goto C 27 dX3_gather_50 (by decide) ?_
  refine x_iload_n C 0 dX3_gather_27 rfl rfl ?_
  refine x_bipush (v := (6 : Int32)) C dX3_gather_28 (by decide) ?_
  refine x_icmp_ge_f C 53 dX3_gather_30 (by decide) (by decide) ?_
  refine x_aload_n C 1 dX3_gather_33 rfl rfl ?_
  have k3_14 := (congrFun eu14 3).trans (hup_n' (by decide) (k3_13))
  refine gfX3_42 C dX3_gather_34 k3_14 rfl ?_
  refine x_iload_n C 0 dX3_gather_37 rfl rfl ?_
  refine x_iconst (v := (0 : Int32)) C dX3_gather_38 (by decide) ?_
  have k4_13 := (congrFun eu13 4).trans (hup_s _ _ _)
  have k4_14 := (congrFun eu14 4).trans (hup_n' (by decide) (k4_13))
  refine x_iastk C 5 k4_14 (vp_in_lit (by decide) (by decide)) (by decide) dX3_gather_39 ?_
  obtain ⟨u15, eu15⟩ : ∃ w : HpT, w = (hup u14 4 (aI G 6 (upd (upd (upd (upd (upd (upd (fun _ => 0) 0 (0 : Int32)) 1 (0 : Int32)) 2 (0 : Int32)) 3 (0 : Int32)) 4 (0 : Int32)) 5 (0 : Int32)))) := ⟨_, rfl⟩
  refine x_heap (u2 := u15) eu15.symm ?_
  refine x_aload_n C 1 dX3_gather_40 rfl rfl ?_
  have k3_15 := (congrFun eu15 3).trans (hup_n' (by decide) (k3_14))
  refine gfX3_46 C dX3_gather_41 k3_15 rfl ?_
  refine x_iload_n C 0 dX3_gather_44 rfl rfl ?_
  refine x_iconst (v := (0 : Int32)) C dX3_gather_45 (by decide) ?_
  have k5_14 := (congrFun eu14 5).trans (hup_s _ _ _)
  have k5_15 := (congrFun eu15 5).trans (hup_n' (by decide) (k5_14))
  refine x_iastk C 5 k5_15 (vp_in_lit (by decide) (by decide)) (by decide) dX3_gather_46 ?_
  obtain ⟨u16, eu16⟩ : ∃ w : HpT, w = (hup u15 5 (aI G 6 (upd (upd (upd (upd (upd (upd (fun _ => 0) 0 (0 : Int32)) 1 (0 : Int32)) 2 (0 : Int32)) 3 (0 : Int32)) 4 (0 : Int32)) 5 (0 : Int32)))) := ⟨_, rfl⟩
  refine x_heap (u2 := u16) eu16.symm ?_
  refine x_iinc C 0 [(2, .int (6 : Int32)), (0, .ref (z + 3)), (1, .ref (z + 119))] dX3_gather_47 rfl (by decide) (by decide) rfl ?_
  refine x_goto C 27 dX3_gather_50 (by decide) ?_
  refine x_iload_n C 0 dX3_gather_27 rfl rfl ?_
  refine x_bipush (v := (6 : Int32)) C dX3_gather_28 (by decide) ?_
  refine x_icmp_ge_t C 53 dX3_gather_30 (by decide) (by decide) ?_
  exact x_vret C hr hlk (Nat.le_of_ble_eq_true rfl) (Nat.le_of_ble_eq_true rfl) dX3_gather_53 rfl (by rw [eu16, eu15, eu14, eu13, eu12, eu11, eu10, eu9, eu8, eu7, eu6, eu5, eu4, eu3, eu2, eu1]; simp only [hup_hup, hup_sk, ne_eq, Nat.reduceEqDiff, not_false_eq_true]) rfl
set_option maxRecDepth 20000 in
theorem p_X3_begin_0 {G : GT} {l : Launch} {z n : Nat} (u : HpT) (h3 : u 3 = some (.inr (2, [.int (0 : Int32), .int (0 : Int32), .int (0 : Int32), .int (0 : Int32), .int (-1 : Int32), .int (0 : Int32), .int (-1 : Int32), .int (0 : Int32), .int (0 : Int32), .int (0 : Int32), .ref (z + 4), .ref (z + 5)]))) (h4 : u 4 = some (aI G 6 (fun _ => 0))) (h5 : u 5 = some (aI G 6 (fun _ => 0))) (h119 : u 119 = some (.inr (0, [.int (0 : Int32), .int (0 : Int32), .int (0 : Int32), .int (0 : Int32), .ref (z + 120), .ref (z + 121), .ref (z + 122), .ref (z + 123), .ref (z + 124), .ref (z + 125)]))) : Mt G l z yX3_begin cX3_begin 2 none { frames := 2, cells := 0, slots := 0, locals := 42 } [.ref (z + 3), .ref (z + 119)] u n none (hup (hup (hup u 3 (.inr (2, [.int (0 : Int32), .int (0 : Int32), .int (0 : Int32), .int (0 : Int32), .int (-1 : Int32), .int (0 : Int32), .int (-1 : Int32), .int (0 : Int32), .int (0 : Int32), .int (0 : Int32), .ref (z + 4), .ref (z + 5)]))) 4 (aI G 6 (upd (upd (upd (upd (upd (upd (fun _ => 0) 0 (0 : Int32)) 1 (0 : Int32)) 2 (0 : Int32)) 3 (0 : Int32)) 4 (0 : Int32)) 5 (0 : Int32)))) 5 (aI G 6 (upd (upd (upd (upd (upd (upd (fun _ => 0) 0 (0 : Int32)) 1 (0 : Int32)) 2 (0 : Int32)) 3 (0 : Int32)) 4 (0 : Int32)) 5 (0 : Int32)))) n := by
  refine mt_of (by decide +kernel) (Nat.le_of_ble_eq_true rfl) ?_
  intro p e s m below meth c C hr hlk hnm
  refine x_aload_n C 0 dX3_begin_0 rfl rfl ?_
  refine x_iconst (v := (0 : Int32)) C dX3_begin_1 (by decide) ?_
  obtain ⟨u1, eu1⟩ : ∃ w : HpT, w = (hup u 3 (.inr (2, [.int (0 : Int32), .int (0 : Int32), .int (0 : Int32), .int (0 : Int32), .int (-1 : Int32), .int (0 : Int32), .int (-1 : Int32), .int (0 : Int32), .int (0 : Int32), .int (0 : Int32), .ref (z + 4), .ref (z + 5)]))) := ⟨_, rfl⟩
  refine pfX3_9 C dX3_begin_2 h3 (Nat.le_of_ble_eq_true rfl) rfl eu1.symm ?_
  refine x_aload_n C 0 dX3_begin_5 rfl rfl ?_
  refine x_iconst (v := (0 : Int32)) C dX3_begin_6 (by decide) ?_
  have k3_1 := (congrFun eu1 3).trans (hup_s _ _ _)
  obtain ⟨u2, eu2⟩ : ∃ w : HpT, w = (hup u1 3 (.inr (2, [.int (0 : Int32), .int (0 : Int32), .int (0 : Int32), .int (0 : Int32), .int (-1 : Int32), .int (0 : Int32), .int (-1 : Int32), .int (0 : Int32), .int (0 : Int32), .int (0 : Int32), .ref (z + 4), .ref (z + 5)]))) := ⟨_, rfl⟩
  refine pfX3_15 C dX3_begin_7 k3_1 (Nat.le_of_ble_eq_true rfl) rfl eu2.symm ?_
  refine x_aload_n C 0 dX3_begin_10 rfl rfl ?_
  refine x_iconst (v := (0 : Int32)) C dX3_begin_11 (by decide) ?_
  have k3_2 := (congrFun eu2 3).trans (hup_s _ _ _)
  obtain ⟨u3, eu3⟩ : ∃ w : HpT, w = (hup u2 3 (.inr (2, [.int (0 : Int32), .int (0 : Int32), .int (0 : Int32), .int (0 : Int32), .int (-1 : Int32), .int (0 : Int32), .int (-1 : Int32), .int (0 : Int32), .int (0 : Int32), .int (0 : Int32), .ref (z + 4), .ref (z + 5)]))) := ⟨_, rfl⟩
  refine pfX3_18 C dX3_begin_12 k3_2 (Nat.le_of_ble_eq_true rfl) rfl eu3.symm ?_
  refine x_aload_n C 0 dX3_begin_15 rfl rfl ?_
  refine x_aload_n C 1 dX3_begin_16 rfl rfl ?_
  have k119_1 := (congrFun eu1 119).trans (hup_n' (by decide) (h119))
  have k119_2 := (congrFun eu2 119).trans (hup_n' (by decide) (k119_1))
  have k119_3 := (congrFun eu3 119).trans (hup_n' (by decide) (k119_2))
  refine gfX3_49 C dX3_begin_17 k119_3 rfl ?_
  refine x_if_le_t C 27 dX3_begin_20 (by decide) (by decide) ?_
  refine x_iconst (v := (0 : Int32)) C dX3_begin_27 (by decide) ?_
  have k3_3 := (congrFun eu3 3).trans (hup_s _ _ _)
  obtain ⟨u4, eu4⟩ : ∃ w : HpT, w = (hup u3 3 (.inr (2, [.int (0 : Int32), .int (0 : Int32), .int (0 : Int32), .int (0 : Int32), .int (-1 : Int32), .int (0 : Int32), .int (-1 : Int32), .int (0 : Int32), .int (0 : Int32), .int (0 : Int32), .ref (z + 4), .ref (z + 5)]))) := ⟨_, rfl⟩
  refine pfX3_21 C dX3_begin_28 k3_3 (Nat.le_of_ble_eq_true rfl) rfl eu4.symm ?_
  refine x_aload_n C 0 dX3_begin_31 rfl rfl ?_
  refine x_aload_n C 1 dX3_begin_32 rfl rfl ?_
  have k3_4 := (congrFun eu4 3).trans (hup_s _ _ _)
  have k4_1 := (congrFun eu1 4).trans (hup_n' (by decide) (h4))
  have k4_2 := (congrFun eu2 4).trans (hup_n' (by decide) (k4_1))
  have k4_3 := (congrFun eu3 4).trans (hup_n' (by decide) (k4_2))
  have k4_4 := (congrFun eu4 4).trans (hup_n' (by decide) (k4_3))
  have k5_1 := (congrFun eu1 5).trans (hup_n' (by decide) (h5))
  have k5_2 := (congrFun eu2 5).trans (hup_n' (by decide) (k5_1))
  have k5_3 := (congrFun eu3 5).trans (hup_n' (by decide) (k5_2))
  have k5_4 := (congrFun eu4 5).trans (hup_n' (by decide) (k5_3))
  have k119_4 := (congrFun eu4 119).trans (hup_n' (by decide) (k119_3))
  refine x_callV C cl_X3_gather kmX3_54 (ci := 2) (b := 3) (As := [.ref (z + 119)]) (rest := []) rfl k3_4 (p_X3_gather_0 u4 k3_4 k4_4 k5_4 k119_4) rfl rfl (Nat.le_of_ble_eq_true rfl) ⟨Nat.le_of_ble_eq_true rfl, Nat.le_of_ble_eq_true rfl⟩ ⟨Nat.le_of_ble_eq_true rfl, Nat.le_of_ble_eq_true rfl⟩ dX3_begin_33 ?_
  obtain ⟨u5, eu5⟩ : ∃ w : HpT, w = (hup (hup (hup u4 3 (.inr (2, [.int (0 : Int32), .int (0 : Int32), .int (0 : Int32), .int (0 : Int32), .int (-1 : Int32), .int (0 : Int32), .int (-1 : Int32), .int (0 : Int32), .int (0 : Int32), .int (0 : Int32), .ref (z + 4), .ref (z + 5)]))) 4 (aI G 6 (upd (upd (upd (upd (upd (upd (fun _ => 0) 0 (0 : Int32)) 1 (0 : Int32)) 2 (0 : Int32)) 3 (0 : Int32)) 4 (0 : Int32)) 5 (0 : Int32)))) 5 (aI G 6 (upd (upd (upd (upd (upd (upd (fun _ => 0) 0 (0 : Int32)) 1 (0 : Int32)) 2 (0 : Int32)) 3 (0 : Int32)) 4 (0 : Int32)) 5 (0 : Int32)))) := ⟨_, rfl⟩
  refine x_norm (st2 := []) (kc2 := 0) (ks2 := 0) rfl rfl rfl rfl eu5.symm ?_
  exact x_vret C hr hlk (Nat.le_of_ble_eq_true rfl) (Nat.le_of_ble_eq_true rfl) dX3_begin_36 rfl (by rw [eu5, eu4, eu3, eu2, eu1]; simp only [hup_hup, hup_sk, ne_eq, Nat.reduceEqDiff, not_false_eq_true]) rfl
set_option maxRecDepth 20000 in
theorem p_X6_forget_0 {G : GT} {l : Launch} {z n : Nat} (u : HpT) (h6 : u 6 = some (.inr (5, [.ref (z + 7), .int (0 : Int32), .int (0 : Int32)]))) : Mt G l z yX6_forget cX6_forget 1 none { frames := 0, cells := 0, slots := 0, locals := 0 } [.ref (z + 6)] u n none (hup u 6 (.inr (5, [.ref (z + 7), .int (0 : Int32), .int (0 : Int32)]))) n := by
  refine mt_of (by decide +kernel) (Nat.le_of_ble_eq_true rfl) ?_
  intro p e s m below meth c C hr hlk hnm
  refine x_aload_n C 0 dX6_forget_0 rfl rfl ?_
  refine x_iconst (v := (0 : Int32)) C dX6_forget_1 (by decide) ?_
  obtain ⟨u1, eu1⟩ : ∃ w : HpT, w = (hup u 6 (.inr (5, [.ref (z + 7), .int (0 : Int32), .int (0 : Int32)]))) := ⟨_, rfl⟩
  refine pfX6_17 C dX6_forget_2 h6 (Nat.le_of_ble_eq_true rfl) rfl eu1.symm ?_
  exact x_vret C hr hlk (Nat.le_of_ble_eq_true rfl) (Nat.le_of_ble_eq_true rfl) dX6_forget_5 rfl (by rw [eu1]) rfl
set_option maxRecDepth 20000 in
theorem p_X2_forget_0 {G : GT} {l : Launch} {z n : Nat} (u : HpT) (h106 : u 106 = some (.inr (1, [.ref (z + 107), .ref (z + 108), .int (0 : Int32)]))) : Mt G l z yX2_forget cX2_forget 1 none { frames := 0, cells := 0, slots := 0, locals := 0 } [.ref (z + 106)] u n none (hup u 106 (.inr (1, [.ref (z + 107), .ref (z + 108), .int (0 : Int32)]))) n := by
  refine mt_of (by decide +kernel) (Nat.le_of_ble_eq_true rfl) ?_
  intro p e s m below meth c C hr hlk hnm
  refine x_aload_n C 0 dX2_forget_0 rfl rfl ?_
  refine x_iconst (v := (0 : Int32)) C dX2_forget_1 (by decide) ?_
  obtain ⟨u1, eu1⟩ : ∃ w : HpT, w = (hup u 106 (.inr (1, [.ref (z + 107), .ref (z + 108), .int (0 : Int32)]))) := ⟨_, rfl⟩
  refine pfX2_9 C dX2_forget_2 h106 (Nat.le_of_ble_eq_true rfl) rfl eu1.symm ?_
  exact x_vret C hr hlk (Nat.le_of_ble_eq_true rfl) (Nat.le_of_ble_eq_true rfl) dX2_forget_5 rfl (by rw [eu1]) rfl
set_option maxRecDepth 20000 in
theorem p_X2_forget_1 {G : GT} {l : Launch} {z n : Nat} (u : HpT) (h109 : u 109 = some (.inr (1, [.ref (z + 110), .ref (z + 111), .int (0 : Int32)]))) : Mt G l z yX2_forget cX2_forget 1 none { frames := 0, cells := 0, slots := 0, locals := 0 } [.ref (z + 109)] u n none (hup u 109 (.inr (1, [.ref (z + 110), .ref (z + 111), .int (0 : Int32)]))) n := by
  refine mt_of (by decide +kernel) (Nat.le_of_ble_eq_true rfl) ?_
  intro p e s m below meth c C hr hlk hnm
  refine x_aload_n C 0 dX2_forget_0 rfl rfl ?_
  refine x_iconst (v := (0 : Int32)) C dX2_forget_1 (by decide) ?_
  obtain ⟨u1, eu1⟩ : ∃ w : HpT, w = (hup u 109 (.inr (1, [.ref (z + 110), .ref (z + 111), .int (0 : Int32)]))) := ⟨_, rfl⟩
  refine pfX2_9 C dX2_forget_2 h109 (Nat.le_of_ble_eq_true rfl) rfl eu1.symm ?_
  exact x_vret C hr hlk (Nat.le_of_ble_eq_true rfl) (Nat.le_of_ble_eq_true rfl) dX2_forget_5 rfl (by rw [eu1]) rfl
set_option maxRecDepth 20000 in
theorem p_X9_beginBridge_0 {G : GT} {l : Launch} {z n : Nat} (u : HpT) (h0 : u 0 = some (.inr (8, [.ref (z + 1), .ref (z + 3), .ref (z + 6), .ref (z + 98), .ref (z + 99), .ref (z + 101), .ref (z + 106), .ref (z + 109), .ref (z + 119), .ref (z + 112), .int (0 : Int32), .int (-1 : Int32)]))) (h3 : u 3 = some (.inr (2, [.int (0 : Int32), .int (0 : Int32), .int (0 : Int32), .int (0 : Int32), .int (-1 : Int32), .int (0 : Int32), .int (-1 : Int32), .int (0 : Int32), .int (0 : Int32), .int (0 : Int32), .ref (z + 4), .ref (z + 5)]))) (h4 : u 4 = some (aI G 6 (fun _ => 0))) (h5 : u 5 = some (aI G 6 (fun _ => 0))) (h6 : u 6 = some (.inr (5, [.ref (z + 7), .int (0 : Int32), .int (0 : Int32)]))) (h98 : u 98 = some (aM G 2 (va_up (va_up (fun _ => none) 0 (some (z + 126))) 1 (some (z + 130))))) (h106 : u 106 = some (.inr (1, [.ref (z + 107), .ref (z + 108), .int (0 : Int32)]))) (h109 : u 109 = some (.inr (1, [.ref (z + 110), .ref (z + 111), .int (0 : Int32)]))) (h119 : u 119 = some (.inr (0, [.int (0 : Int32), .int (0 : Int32), .int (0 : Int32), .int (0 : Int32), .ref (z + 120), .ref (z + 121), .ref (z + 122), .ref (z + 123), .ref (z + 124), .ref (z + 125)]))) (h126 : u 126 = some (.inr (3, [.ref (z + 127), .int (0 : Int32), .int (0 : Int32)]))) (h130 : u 130 = some (.inr (3, [.ref (z + 131), .int (0 : Int32), .int (0 : Int32)]))) : Mt G l z yX9_beginBridge cX9_beginBridge 2 none { frames := 3, cells := 0, slots := 0, locals := 63 } [.ref (z + 0)] u n none (hup (hup (hup (hup (hup (hup (hup (hup u 3 (.inr (2, [.int (0 : Int32), .int (0 : Int32), .int (0 : Int32), .int (0 : Int32), .int (-1 : Int32), .int (0 : Int32), .int (-1 : Int32), .int (0 : Int32), .int (0 : Int32), .int (0 : Int32), .ref (z + 4), .ref (z + 5)]))) 4 (aI G 6 (upd (upd (upd (upd (upd (upd (fun _ => 0) 0 (0 : Int32)) 1 (0 : Int32)) 2 (0 : Int32)) 3 (0 : Int32)) 4 (0 : Int32)) 5 (0 : Int32)))) 5 (aI G 6 (upd (upd (upd (upd (upd (upd (fun _ => 0) 0 (0 : Int32)) 1 (0 : Int32)) 2 (0 : Int32)) 3 (0 : Int32)) 4 (0 : Int32)) 5 (0 : Int32)))) 6 (.inr (5, [.ref (z + 7), .int (0 : Int32), .int (0 : Int32)]))) 106 (.inr (1, [.ref (z + 107), .ref (z + 108), .int (0 : Int32)]))) 109 (.inr (1, [.ref (z + 110), .ref (z + 111), .int (0 : Int32)]))) 126 (.inr (3, [.ref (z + 127), .int (0 : Int32), .int (0 : Int32)]))) 130 (.inr (3, [.ref (z + 131), .int (0 : Int32), .int (0 : Int32)]))) n := by
  refine mt_of (by decide +kernel) (Nat.le_of_ble_eq_true rfl) ?_
  intro p e s m below meth c C hr hlk hnm
  refine x_aload_n C 0 dX9_beginBridge_0 rfl rfl ?_
  refine gfX9_19 C dX9_beginBridge_1 h0 rfl ?_
  refine x_aload_n C 0 dX9_beginBridge_4 rfl rfl ?_
  refine gfX9_65 C dX9_beginBridge_5 h0 rfl ?_
  refine x_callV C cl_X3_begin kmX9_106 (ci := 2) (b := 3) (As := [.ref (z + 119)]) (rest := []) rfl h3 (p_X3_begin_0 u h3 h4 h5 h119) rfl rfl (Nat.le_of_ble_eq_true rfl) ⟨Nat.le_of_ble_eq_true rfl, Nat.le_of_ble_eq_true rfl⟩ ⟨Nat.le_of_ble_eq_true rfl, Nat.le_of_ble_eq_true rfl⟩ dX9_beginBridge_8 ?_
  obtain ⟨u1, eu1⟩ : ∃ w : HpT, w = (hup (hup (hup u 3 (.inr (2, [.int (0 : Int32), .int (0 : Int32), .int (0 : Int32), .int (0 : Int32), .int (-1 : Int32), .int (0 : Int32), .int (-1 : Int32), .int (0 : Int32), .int (0 : Int32), .int (0 : Int32), .ref (z + 4), .ref (z + 5)]))) 4 (aI G 6 (upd (upd (upd (upd (upd (upd (fun _ => 0) 0 (0 : Int32)) 1 (0 : Int32)) 2 (0 : Int32)) 3 (0 : Int32)) 4 (0 : Int32)) 5 (0 : Int32)))) 5 (aI G 6 (upd (upd (upd (upd (upd (upd (fun _ => 0) 0 (0 : Int32)) 1 (0 : Int32)) 2 (0 : Int32)) 3 (0 : Int32)) 4 (0 : Int32)) 5 (0 : Int32)))) := ⟨_, rfl⟩
  refine x_norm (st2 := []) (kc2 := 0) (ks2 := 0) rfl rfl rfl rfl eu1.symm ?_
  refine x_aload_n C 0 dX9_beginBridge_11 rfl rfl ?_
  have k0_1 := (congrFun eu1 0).trans (hup_n' (by decide) (hup_n' (by decide) (hup_n' (by decide) (h0))))
  refine gfX9_26 C dX9_beginBridge_12 k0_1 rfl ?_
  have k6_1 := (congrFun eu1 6).trans (hup_n' (by decide) (hup_n' (by decide) (hup_n' (by decide) (h6))))
  refine x_callV C cl_X6_forget kmX9_109 (ci := 5) (b := 6) (As := []) (rest := []) rfl k6_1 (p_X6_forget_0 u1 k6_1) rfl rfl (Nat.le_of_ble_eq_true rfl) ⟨Nat.le_of_ble_eq_true rfl, Nat.le_of_ble_eq_true rfl⟩ ⟨Nat.le_of_ble_eq_true rfl, Nat.le_of_ble_eq_true rfl⟩ dX9_beginBridge_15 ?_
  obtain ⟨u2, eu2⟩ : ∃ w : HpT, w = (hup u1 6 (.inr (5, [.ref (z + 7), .int (0 : Int32), .int (0 : Int32)]))) := ⟨_, rfl⟩
  refine x_norm (st2 := []) (kc2 := 0) (ks2 := 0) rfl rfl rfl rfl eu2.symm ?_
  refine x_aload_n C 0 dX9_beginBridge_18 rfl rfl ?_
  have k0_2 := (congrFun eu2 0).trans (hup_n' (by decide) (k0_1))
  refine gfX9_55 C dX9_beginBridge_19 k0_2 rfl ?_
  have k106_1 := (congrFun eu1 106).trans (hup_n' (by decide) (hup_n' (by decide) (hup_n' (by decide) (h106))))
  have k106_2 := (congrFun eu2 106).trans (hup_n' (by decide) (k106_1))
  refine x_callV C cl_X2_forget kmX9_112 (ci := 1) (b := 106) (As := []) (rest := []) rfl k106_2 (p_X2_forget_0 u2 k106_2) rfl rfl (Nat.le_of_ble_eq_true rfl) ⟨Nat.le_of_ble_eq_true rfl, Nat.le_of_ble_eq_true rfl⟩ ⟨Nat.le_of_ble_eq_true rfl, Nat.le_of_ble_eq_true rfl⟩ dX9_beginBridge_22 ?_
  obtain ⟨u3, eu3⟩ : ∃ w : HpT, w = (hup u2 106 (.inr (1, [.ref (z + 107), .ref (z + 108), .int (0 : Int32)]))) := ⟨_, rfl⟩
  refine x_norm (st2 := []) (kc2 := 0) (ks2 := 0) rfl rfl rfl rfl eu3.symm ?_
  refine x_aload_n C 0 dX9_beginBridge_25 rfl rfl ?_
  have k0_3 := (congrFun eu3 0).trans (hup_n' (by decide) (k0_2))
  refine gfX9_59 C dX9_beginBridge_26 k0_3 rfl ?_
  have k109_1 := (congrFun eu1 109).trans (hup_n' (by decide) (hup_n' (by decide) (hup_n' (by decide) (h109))))
  have k109_2 := (congrFun eu2 109).trans (hup_n' (by decide) (k109_1))
  have k109_3 := (congrFun eu3 109).trans (hup_n' (by decide) (k109_2))
  refine x_callV C cl_X2_forget kmX9_112 (ci := 1) (b := 109) (As := []) (rest := []) rfl k109_3 (p_X2_forget_1 u3 k109_3) rfl rfl (Nat.le_of_ble_eq_true rfl) ⟨Nat.le_of_ble_eq_true rfl, Nat.le_of_ble_eq_true rfl⟩ ⟨Nat.le_of_ble_eq_true rfl, Nat.le_of_ble_eq_true rfl⟩ dX9_beginBridge_29 ?_
  obtain ⟨u4, eu4⟩ : ∃ w : HpT, w = (hup u3 109 (.inr (1, [.ref (z + 110), .ref (z + 111), .int (0 : Int32)]))) := ⟨_, rfl⟩
  refine x_norm (st2 := []) (kc2 := 0) (ks2 := 0) rfl rfl rfl rfl eu4.symm ?_
  refine x_iconst (v := (0 : Int32)) C dX9_beginBridge_32 (by decide) ?_
  refine x_istore_n C [(1, .int (0 : Int32)), (0, .ref (z + 0))] dX9_beginBridge_33 rfl (by decide) rfl ?_
  refine x_iload_n C 0 dX9_beginBridge_34 rfl rfl ?_
  refine x_aload_n C 1 dX9_beginBridge_35 rfl rfl ?_
  have k0_4 := (congrFun eu4 0).trans (hup_n' (by decide) (k0_3))
  refine gfX9_32 C dX9_beginBridge_36 k0_4 rfl ?_
  have k98_1 := (congrFun eu1 98).trans (hup_n' (by decide) (hup_n' (by decide) (hup_n' (by decide) (h98))))
  have k98_2 := (congrFun eu2 98).trans (hup_n' (by decide) (k98_1))
  have k98_3 := (congrFun eu3 98).trans (hup_n' (by decide) (k98_2))
  have k98_4 := (congrFun eu4 98).trans (hup_n' (by decide) (k98_3))
  refine x_alen (v := (2 : Int32)) C 4 k98_4 rfl rfl dX9_beginBridge_39 ?_
  refine x_icmp_ge_f C 59 dX9_beginBridge_40 (by decide) (by decide) ?_
  refine x_aload_n C 1 dX9_beginBridge_43 rfl rfl ?_
  refine gfX9_32 C dX9_beginBridge_44 k0_4 rfl ?_
  refine x_iload_n C 0 dX9_beginBridge_47 rfl rfl ?_
  refine x_aaldM (y := z + 126) C k98_4 (vp_in_lit (by decide) (by decide)) rfl dX9_beginBridge_48 ?_
  refine x_iconst (v := (0 : Int32)) C dX9_beginBridge_49 (by decide) ?_
  have k126_1 := (congrFun eu1 126).trans (hup_n' (by decide) (hup_n' (by decide) (hup_n' (by decide) (h126))))
  have k126_2 := (congrFun eu2 126).trans (hup_n' (by decide) (k126_1))
  have k126_3 := (congrFun eu3 126).trans (hup_n' (by decide) (k126_2))
  have k126_4 := (congrFun eu4 126).trans (hup_n' (by decide) (k126_3))
  obtain ⟨u5, eu5⟩ : ∃ w : HpT, w = (hup u4 126 (.inr (3, [.ref (z + 127), .int (0 : Int32), .int (0 : Int32)]))) := ⟨_, rfl⟩
  refine pfX9_113 C dX9_beginBridge_50 (by decide) (by decide) k126_4 (Nat.le_of_ble_eq_true rfl) rfl eu5.symm ?_
  refine x_iinc C 0 [(1, .int (1 : Int32)), (0, .ref (z + 0))] dX9_beginBridge_53 rfl (by decide) (by decide) rfl ?_
  refine x_goto C 34 dX9_beginBridge_56 (by decide) ?_
  refine x_iload_n C 0 dX9_beginBridge_34 rfl rfl ?_
  refine x_aload_n C 1 dX9_beginBridge_35 rfl rfl ?_
  have k0_5 := (congrFun eu5 0).trans (hup_n' (by decide) (k0_4))
  refine gfX9_32 C dX9_beginBridge_36 k0_5 rfl ?_
  have k98_5 := (congrFun eu5 98).trans (hup_n' (by decide) (k98_4))
  refine x_alen (v := (2 : Int32)) C 4 k98_5 rfl rfl dX9_beginBridge_39 ?_
  refine x_icmp_ge_f C 59 dX9_beginBridge_40 (by decide) (by decide) ?_
  refine x_aload_n C 1 dX9_beginBridge_43 rfl rfl ?_
  refine gfX9_32 C dX9_beginBridge_44 k0_5 rfl ?_
  refine x_iload_n C 0 dX9_beginBridge_47 rfl rfl ?_
  refine x_aaldM (y := z + 130) C k98_5 (vp_in_lit (by decide) (by decide)) rfl dX9_beginBridge_48 ?_
  refine x_iconst (v := (0 : Int32)) C dX9_beginBridge_49 (by decide) ?_
  have k130_1 := (congrFun eu1 130).trans (hup_n' (by decide) (hup_n' (by decide) (hup_n' (by decide) (h130))))
  have k130_2 := (congrFun eu2 130).trans (hup_n' (by decide) (k130_1))
  have k130_3 := (congrFun eu3 130).trans (hup_n' (by decide) (k130_2))
  have k130_4 := (congrFun eu4 130).trans (hup_n' (by decide) (k130_3))
  have k130_5 := (congrFun eu5 130).trans (hup_n' (by decide) (k130_4))
  obtain ⟨u6, eu6⟩ : ∃ w : HpT, w = (hup u5 130 (.inr (3, [.ref (z + 131), .int (0 : Int32), .int (0 : Int32)]))) := ⟨_, rfl⟩
  refine pfX9_113 C dX9_beginBridge_50 (by decide) (by decide) k130_5 (Nat.le_of_ble_eq_true rfl) rfl eu6.symm ?_
  refine x_iinc C 0 [(1, .int (2 : Int32)), (0, .ref (z + 0))] dX9_beginBridge_53 rfl (by decide) (by decide) rfl ?_
  refine x_goto C 34 dX9_beginBridge_56 (by decide) ?_
  refine x_iload_n C 0 dX9_beginBridge_34 rfl rfl ?_
  refine x_aload_n C 1 dX9_beginBridge_35 rfl rfl ?_
  have k0_6 := (congrFun eu6 0).trans (hup_n' (by decide) (k0_5))
  refine gfX9_32 C dX9_beginBridge_36 k0_6 rfl ?_
  have k98_6 := (congrFun eu6 98).trans (hup_n' (by decide) (k98_5))
  refine x_alen (v := (2 : Int32)) C 4 k98_6 rfl rfl dX9_beginBridge_39 ?_
  refine x_icmp_ge_t C 59 dX9_beginBridge_40 (by decide) (by decide) ?_
  exact x_vret C hr hlk (Nat.le_of_ble_eq_true rfl) (Nat.le_of_ble_eq_true rfl) dX9_beginBridge_59 rfl (by rw [eu6, eu5, eu4, eu3, eu2, eu1]) rfl
set_option maxRecDepth 20000 in
theorem p_X9_bridge_0 {G : GT} {l : Launch} {z n : Nat} (u : HpT) (h0 : u 0 = some (.inr (8, [.ref (z + 1), .ref (z + 3), .ref (z + 6), .ref (z + 98), .ref (z + 99), .ref (z + 101), .ref (z + 106), .ref (z + 109), .ref (z + 112), .ref (z + 119), .int (0 : Int32), .int (-1 : Int32)]))) (h1 : u 1 = some (.inr (6, [.ref (z + 2), .int (0 : Int32), .int (0 : Int32), .int (0 : Int32), .int (-1 : Int32)]))) (h3 : u 3 = some (.inr (2, [.int (0 : Int32), .int (0 : Int32), .int (0 : Int32), .int (0 : Int32), .int (-1 : Int32), .int (0 : Int32), .int (-1 : Int32), .int (0 : Int32), .int (0 : Int32), .int (0 : Int32), .ref (z + 4), .ref (z + 5)]))) (h4 : u 4 = some (aI G 6 (fun _ => 0))) (h5 : u 5 = some (aI G 6 (fun _ => 0))) (h6 : u 6 = some (.inr (5, [.ref (z + 7), .int (0 : Int32), .int (0 : Int32)]))) (h98 : u 98 = some (aM G 2 (va_up (va_up (fun _ => none) 0 (some (z + 126))) 1 (some (z + 130))))) (h106 : u 106 = some (.inr (1, [.ref (z + 107), .ref (z + 108), .int (0 : Int32)]))) (h109 : u 109 = some (.inr (1, [.ref (z + 110), .ref (z + 111), .int (0 : Int32)]))) (h119 : u 119 = some (.inr (0, [.int (0 : Int32), .int (0 : Int32), .int (0 : Int32), .int (0 : Int32), .ref (z + 120), .ref (z + 121), .ref (z + 122), .ref (z + 123), .ref (z + 124), .ref (z + 125)]))) (h126 : u 126 = some (.inr (3, [.ref (z + 127), .int (0 : Int32), .int (0 : Int32)]))) (h130 : u 130 = some (.inr (3, [.ref (z + 131), .int (0 : Int32), .int (0 : Int32)]))) : Mt G l z yX9_bridge cX9_bridge 2 (some .int) { frames := 4, cells := 0, slots := 0, locals := 84 } [.ref (z + 0)] u n (some (.int (0 : Int32))) (hup (hup (hup (hup (hup (hup (hup (hup (hup (hup (hup u 119 (.inr (0, [.int (0 : Int32), .int (0 : Int32), .int (0 : Int32), .int (0 : Int32), .ref (z + 120), .ref (z + 121), .ref (z + 122), .ref (z + 123), .ref (z + 124), .ref (z + 125)]))) 1 (.inr (6, [.ref (z + 2), .int (0 : Int32), .int (0 : Int32), .int (0 : Int32), .int (-1 : Int32)]))) 0 (.inr (8, [.ref (z + 1), .ref (z + 3), .ref (z + 6), .ref (z + 98), .ref (z + 99), .ref (z + 101), .ref (z + 106), .ref (z + 109), .ref (z + 119), .ref (z + 112), .int (0 : Int32), .int (-1 : Int32)]))) 3 (.inr (2, [.int (0 : Int32), .int (0 : Int32), .int (0 : Int32), .int (0 : Int32), .int (-1 : Int32), .int (0 : Int32), .int (-1 : Int32), .int (0 : Int32), .int (0 : Int32), .int (0 : Int32), .ref (z + 4), .ref (z + 5)]))) 4 (aI G 6 (upd (upd (upd (upd (upd (upd (fun _ => 0) 0 (0 : Int32)) 1 (0 : Int32)) 2 (0 : Int32)) 3 (0 : Int32)) 4 (0 : Int32)) 5 (0 : Int32)))) 5 (aI G 6 (upd (upd (upd (upd (upd (upd (fun _ => 0) 0 (0 : Int32)) 1 (0 : Int32)) 2 (0 : Int32)) 3 (0 : Int32)) 4 (0 : Int32)) 5 (0 : Int32)))) 6 (.inr (5, [.ref (z + 7), .int (0 : Int32), .int (0 : Int32)]))) 106 (.inr (1, [.ref (z + 107), .ref (z + 108), .int (0 : Int32)]))) 109 (.inr (1, [.ref (z + 110), .ref (z + 111), .int (0 : Int32)]))) 126 (.inr (3, [.ref (z + 127), .int (0 : Int32), .int (0 : Int32)]))) 130 (.inr (3, [.ref (z + 131), .int (0 : Int32), .int (0 : Int32)]))) n := by
  refine mt_of (by decide +kernel) (Nat.le_of_ble_eq_true rfl) ?_
  intro p e s m below meth c C hr hlk hnm
  refine x_aload_n C 0 dX9_bridge_0 rfl rfl ?_
  refine gfX9_10 C dX9_bridge_1 h0 rfl ?_
  refine x_aload_n C 0 dX9_bridge_4 rfl rfl ?_
  refine gfX9_69 C dX9_bridge_5 h0 rfl ?_
  refine x_callV C cl_X7_readInto kmX9_89 (ci := 6) (b := 1) (As := [.ref (z + 119)]) (rest := []) rfl h1 (p_X7_readInto_0 u h1 h119) rfl rfl (Nat.le_of_ble_eq_true rfl) ⟨Nat.le_of_ble_eq_true rfl, Nat.le_of_ble_eq_true rfl⟩ ⟨Nat.le_of_ble_eq_true rfl, Nat.le_of_ble_eq_true rfl⟩ dX9_bridge_8 ?_
  obtain ⟨u1, eu1⟩ : ∃ w : HpT, w = (hup (hup u 1 (.inr (6, [.ref (z + 2), .int (0 : Int32), .int (0 : Int32), .int (0 : Int32), .int (-1 : Int32)]))) 119 (.inr (0, [.int (0 : Int32), .int (0 : Int32), .int (0 : Int32), .int (0 : Int32), .ref (z + 120), .ref (z + 121), .ref (z + 122), .ref (z + 123), .ref (z + 124), .ref (z + 125)]))) := ⟨_, rfl⟩
  refine x_norm (st2 := []) (kc2 := 0) (ks2 := 0) rfl rfl rfl rfl eu1.symm ?_
  refine x_aload_n C 0 dX9_bridge_11 rfl rfl ?_
  have k0_1 := (congrFun eu1 0).trans (hup_n' (by decide) (hup_n' (by decide) (h0)))
  refine gfX9_10 C dX9_bridge_12 k0_1 rfl ?_
  have k1_1 := (congrFun eu1 1).trans (hup_n' (by decide) (hup_s _ _ _))
  refine x_callV C cl_X7_empty kmX9_93 (ci := 6) (b := 1) (As := []) (rest := []) rfl k1_1 (p_X7_empty_0 u1 k1_1) rfl rfl (Nat.le_of_ble_eq_true rfl) ⟨Nat.le_of_ble_eq_true rfl, Nat.le_of_ble_eq_true rfl⟩ ⟨Nat.le_of_ble_eq_true rfl, Nat.le_of_ble_eq_true rfl⟩ dX9_bridge_15 ?_
  obtain ⟨u2, eu2⟩ : ∃ w : HpT, w = (hup u1 1 (.inr (6, [.ref (z + 2), .int (0 : Int32), .int (0 : Int32), .int (0 : Int32), .int (-1 : Int32)]))) := ⟨_, rfl⟩
  refine x_norm (st2 := []) (kc2 := 0) (ks2 := 0) rfl rfl rfl rfl eu2.symm ?_
  refine x_aload_n C 0 dX9_bridge_18 rfl rfl ?_
  refine x_aload_n C 0 dX9_bridge_19 rfl rfl ?_
  have k0_2 := (congrFun eu2 0).trans (hup_n' (by decide) (k0_1))
  refine gfX9_10 C dX9_bridge_20 k0_2 rfl ?_
  have k1_2 := (congrFun eu2 1).trans (hup_s _ _ _)
  refine gfX9_96 C dX9_bridge_23 k1_2 rfl ?_
  obtain ⟨u3, eu3⟩ : ∃ w : HpT, w = (hup u2 0 (.inr (8, [.ref (z + 1), .ref (z + 3), .ref (z + 6), .ref (z + 98), .ref (z + 99), .ref (z + 101), .ref (z + 106), .ref (z + 109), .ref (z + 112), .ref (z + 119), .int (0 : Int32), .int (-1 : Int32)]))) := ⟨_, rfl⟩
  refine pfX9_76 C dX9_bridge_26 k0_2 (Nat.le_of_ble_eq_true rfl) rfl eu3.symm ?_
  refine x_aload_n C 0 dX9_bridge_29 rfl rfl ?_
  have k0_3 := (congrFun eu3 0).trans (hup_s _ _ _)
  refine gfX9_10 C dX9_bridge_30 k0_3 rfl ?_
  have k1_3 := (congrFun eu3 1).trans (hup_n' (by decide) (k1_2))
  refine gfX9_97 C dX9_bridge_33 k1_3 rfl ?_
  refine x_if_eq_t C 50 dX9_bridge_36 (by decide) (by decide) ?_
  refine x_aload_n C 0 dX9_bridge_50 rfl rfl ?_
  refine gfX9_65 C dX9_bridge_51 k0_3 rfl ?_
  refine x_astore_n C [(1, .ref (z + 112)), (0, .ref (z + 0))] dX9_bridge_54 rfl (by decide) rfl ?_
  refine x_aload_n C 1 dX9_bridge_55 rfl rfl ?_
  refine x_aload_n C 1 dX9_bridge_56 rfl rfl ?_
  refine gfX9_69 C dX9_bridge_57 k0_3 rfl ?_
  obtain ⟨u4, eu4⟩ : ∃ w : HpT, w = (hup u3 0 (.inr (8, [.ref (z + 1), .ref (z + 3), .ref (z + 6), .ref (z + 98), .ref (z + 99), .ref (z + 101), .ref (z + 106), .ref (z + 109), .ref (z + 119), .ref (z + 119), .int (0 : Int32), .int (-1 : Int32)]))) := ⟨_, rfl⟩
  refine pfX9_65 C dX9_bridge_60 k0_3 (Nat.le_of_ble_eq_true rfl) rfl eu4.symm ?_
  refine x_aload_n C 1 dX9_bridge_63 rfl rfl ?_
  refine x_aload_n C 0 dX9_bridge_64 rfl rfl ?_
  have k0_4 := (congrFun eu4 0).trans (hup_s _ _ _)
  obtain ⟨u5, eu5⟩ : ∃ w : HpT, w = (hup u4 0 (.inr (8, [.ref (z + 1), .ref (z + 3), .ref (z + 6), .ref (z + 98), .ref (z + 99), .ref (z + 101), .ref (z + 106), .ref (z + 109), .ref (z + 119), .ref (z + 112), .int (0 : Int32), .int (-1 : Int32)]))) := ⟨_, rfl⟩
  refine pfX9_69 C dX9_bridge_65 k0_4 (Nat.le_of_ble_eq_true rfl) rfl eu5.symm ?_
  refine x_aload_n C 1 dX9_bridge_68 rfl rfl ?_
  have k0_5 := (congrFun eu5 0).trans (hup_s _ _ _)
  have k3_1 := (congrFun eu1 3).trans (hup_n' (by decide) (hup_n' (by decide) (h3)))
  have k3_2 := (congrFun eu2 3).trans (hup_n' (by decide) (k3_1))
  have k3_3 := (congrFun eu3 3).trans (hup_n' (by decide) (k3_2))
  have k3_4 := (congrFun eu4 3).trans (hup_n' (by decide) (k3_3))
  have k3_5 := (congrFun eu5 3).trans (hup_n' (by decide) (k3_4))
  have k4_1 := (congrFun eu1 4).trans (hup_n' (by decide) (hup_n' (by decide) (h4)))
  have k4_2 := (congrFun eu2 4).trans (hup_n' (by decide) (k4_1))
  have k4_3 := (congrFun eu3 4).trans (hup_n' (by decide) (k4_2))
  have k4_4 := (congrFun eu4 4).trans (hup_n' (by decide) (k4_3))
  have k4_5 := (congrFun eu5 4).trans (hup_n' (by decide) (k4_4))
  have k5_1 := (congrFun eu1 5).trans (hup_n' (by decide) (hup_n' (by decide) (h5)))
  have k5_2 := (congrFun eu2 5).trans (hup_n' (by decide) (k5_1))
  have k5_3 := (congrFun eu3 5).trans (hup_n' (by decide) (k5_2))
  have k5_4 := (congrFun eu4 5).trans (hup_n' (by decide) (k5_3))
  have k5_5 := (congrFun eu5 5).trans (hup_n' (by decide) (k5_4))
  have k6_1 := (congrFun eu1 6).trans (hup_n' (by decide) (hup_n' (by decide) (h6)))
  have k6_2 := (congrFun eu2 6).trans (hup_n' (by decide) (k6_1))
  have k6_3 := (congrFun eu3 6).trans (hup_n' (by decide) (k6_2))
  have k6_4 := (congrFun eu4 6).trans (hup_n' (by decide) (k6_3))
  have k6_5 := (congrFun eu5 6).trans (hup_n' (by decide) (k6_4))
  have k98_1 := (congrFun eu1 98).trans (hup_n' (by decide) (hup_n' (by decide) (h98)))
  have k98_2 := (congrFun eu2 98).trans (hup_n' (by decide) (k98_1))
  have k98_3 := (congrFun eu3 98).trans (hup_n' (by decide) (k98_2))
  have k98_4 := (congrFun eu4 98).trans (hup_n' (by decide) (k98_3))
  have k98_5 := (congrFun eu5 98).trans (hup_n' (by decide) (k98_4))
  have k106_1 := (congrFun eu1 106).trans (hup_n' (by decide) (hup_n' (by decide) (h106)))
  have k106_2 := (congrFun eu2 106).trans (hup_n' (by decide) (k106_1))
  have k106_3 := (congrFun eu3 106).trans (hup_n' (by decide) (k106_2))
  have k106_4 := (congrFun eu4 106).trans (hup_n' (by decide) (k106_3))
  have k106_5 := (congrFun eu5 106).trans (hup_n' (by decide) (k106_4))
  have k109_1 := (congrFun eu1 109).trans (hup_n' (by decide) (hup_n' (by decide) (h109)))
  have k109_2 := (congrFun eu2 109).trans (hup_n' (by decide) (k109_1))
  have k109_3 := (congrFun eu3 109).trans (hup_n' (by decide) (k109_2))
  have k109_4 := (congrFun eu4 109).trans (hup_n' (by decide) (k109_3))
  have k109_5 := (congrFun eu5 109).trans (hup_n' (by decide) (k109_4))
  have k119_1 := (congrFun eu1 119).trans (hup_s _ _ _)
  have k119_2 := (congrFun eu2 119).trans (hup_n' (by decide) (k119_1))
  have k119_3 := (congrFun eu3 119).trans (hup_n' (by decide) (k119_2))
  have k119_4 := (congrFun eu4 119).trans (hup_n' (by decide) (k119_3))
  have k119_5 := (congrFun eu5 119).trans (hup_n' (by decide) (k119_4))
  have k126_1 := (congrFun eu1 126).trans (hup_n' (by decide) (hup_n' (by decide) (h126)))
  have k126_2 := (congrFun eu2 126).trans (hup_n' (by decide) (k126_1))
  have k126_3 := (congrFun eu3 126).trans (hup_n' (by decide) (k126_2))
  have k126_4 := (congrFun eu4 126).trans (hup_n' (by decide) (k126_3))
  have k126_5 := (congrFun eu5 126).trans (hup_n' (by decide) (k126_4))
  have k130_1 := (congrFun eu1 130).trans (hup_n' (by decide) (hup_n' (by decide) (h130)))
  have k130_2 := (congrFun eu2 130).trans (hup_n' (by decide) (k130_1))
  have k130_3 := (congrFun eu3 130).trans (hup_n' (by decide) (k130_2))
  have k130_4 := (congrFun eu4 130).trans (hup_n' (by decide) (k130_3))
  have k130_5 := (congrFun eu5 130).trans (hup_n' (by decide) (k130_4))
  refine x_callV C cl_X9_beginBridge kmX9_100 (ci := 8) (b := 0) (As := []) (rest := []) rfl k0_5 (p_X9_beginBridge_0 u5 k0_5 k3_5 k4_5 k5_5 k6_5 k98_5 k106_5 k109_5 k119_5 k126_5 k130_5) rfl rfl (Nat.le_of_ble_eq_true rfl) ⟨Nat.le_of_ble_eq_true rfl, Nat.le_of_ble_eq_true rfl⟩ ⟨Nat.le_of_ble_eq_true rfl, Nat.le_of_ble_eq_true rfl⟩ dX9_bridge_69 ?_
  obtain ⟨u6, eu6⟩ : ∃ w : HpT, w = (hup (hup (hup (hup (hup (hup (hup (hup u5 3 (.inr (2, [.int (0 : Int32), .int (0 : Int32), .int (0 : Int32), .int (0 : Int32), .int (-1 : Int32), .int (0 : Int32), .int (-1 : Int32), .int (0 : Int32), .int (0 : Int32), .int (0 : Int32), .ref (z + 4), .ref (z + 5)]))) 4 (aI G 6 (upd (upd (upd (upd (upd (upd (fun _ => 0) 0 (0 : Int32)) 1 (0 : Int32)) 2 (0 : Int32)) 3 (0 : Int32)) 4 (0 : Int32)) 5 (0 : Int32)))) 5 (aI G 6 (upd (upd (upd (upd (upd (upd (fun _ => 0) 0 (0 : Int32)) 1 (0 : Int32)) 2 (0 : Int32)) 3 (0 : Int32)) 4 (0 : Int32)) 5 (0 : Int32)))) 6 (.inr (5, [.ref (z + 7), .int (0 : Int32), .int (0 : Int32)]))) 106 (.inr (1, [.ref (z + 107), .ref (z + 108), .int (0 : Int32)]))) 109 (.inr (1, [.ref (z + 110), .ref (z + 111), .int (0 : Int32)]))) 126 (.inr (3, [.ref (z + 127), .int (0 : Int32), .int (0 : Int32)]))) 130 (.inr (3, [.ref (z + 131), .int (0 : Int32), .int (0 : Int32)]))) := ⟨_, rfl⟩
  refine x_norm (st2 := []) (kc2 := 0) (ks2 := 0) rfl rfl rfl rfl eu6.symm ?_
  refine x_aload_n C 1 dX9_bridge_72 rfl rfl ?_
  have k0_6 := (congrFun eu6 0).trans (hup_n' (by decide) (hup_n' (by decide) (hup_n' (by decide) (hup_n' (by decide) (hup_n' (by decide) (hup_n' (by decide) (hup_n' (by decide) (hup_n' (by decide) (k0_5)))))))))
  refine gfX9_65 C dX9_bridge_73 k0_6 rfl ?_
  have k119_6 := (congrFun eu6 119).trans (hup_n' (by decide) (hup_n' (by decide) (hup_n' (by decide) (hup_n' (by decide) (hup_n' (by decide) (hup_n' (by decide) (hup_n' (by decide) (hup_n' (by decide) (k119_5)))))))))
  refine gfX9_103 C dX9_bridge_76 k119_6 rfl ?_
  exact x_iret C hr hlk (Nat.le_of_ble_eq_true rfl) (Nat.le_of_ble_eq_true rfl) dX9_bridge_79 rfl (by rw [eu6, eu5, eu4, eu3, eu2, eu1]; simp only [hup_hup, hup_sk, ne_eq, Nat.reduceEqDiff, not_false_eq_true]) rfl
set_option maxRecDepth 20000 in
theorem p_X10_letterAt_0 {G : GT} {l : Launch} {z n : Nat} (u : HpT) (h134 : u 134 = some (.inr (9, [.int (0 : Int32), .ref (z + 135), .int (0 : Int32), .int (0 : Int32), .int (0 : Int32), .int (-1 : Int32), .int (0 : Int32), .int (0 : Int32), .int (0 : Int32), .int (0 : Int32), .ref (z + 136), .ref (z + 137), .ref (z + 138), .ref (z + 139), .ref (z + 140), .int (0 : Int32), .int (0 : Int32), .int (0 : Int32), .int (0 : Int32), .ref (z + 141), .ref (z + 142), .ref (z + 143), .ref (z + 144), .ref (z + 145), .ref (z + 146), .int (0 : Int32), .int (0 : Int32), .ref (z + 147), .long (0 : Int64), .ref (z + 148), .int (0 : Int32), .int (0 : Int32), .int (0 : Int32), .ref (z + 149), .int (0 : Int32), .ref (z + 150), .ref (z + 151), .int (0 : Int32), .ref (z + 152), .ref (z + 153), .ref (z + 154), .ref (z + 155), .ref (z + 156)]))) : Mt G l z yX10_letterAt cX10_letterAt 2 (some .int) { frames := 0, cells := 0, slots := 0, locals := 0 } [.ref (z + 134), .int (0 : Int32)] u n (some (.int (-1 : Int32))) u n := by
  refine mt_of (by decide +kernel) (Nat.le_of_ble_eq_true rfl) ?_
  intro p e s m below meth c C hr hlk hnm
  refine x_iload_n C 1 dX10_letterAt_0 rfl rfl ?_
  refine x_aload_n C 0 dX10_letterAt_1 rfl rfl ?_
  refine gfX10_87 C dX10_letterAt_2 h134 rfl ?_
  refine x_icmp_ge_t C 17 dX10_letterAt_5 (by decide) (by decide) ?_
  refine x_iconst (v := (-1 : Int32)) C dX10_letterAt_17 (by decide) ?_
  exact x_iret C hr hlk (Nat.le_of_ble_eq_true rfl) (Nat.le_of_ble_eq_true rfl) dX10_letterAt_18 rfl rfl rfl
set_option maxRecDepth 20000 in
theorem p_X10_nextLetter_0 {G : GT} {l : Launch} {z n : Nat} (u : HpT) (h134 : u 134 = some (.inr (9, [.int (0 : Int32), .ref (z + 135), .int (0 : Int32), .int (0 : Int32), .int (0 : Int32), .int (-1 : Int32), .int (0 : Int32), .int (0 : Int32), .int (0 : Int32), .int (0 : Int32), .ref (z + 136), .ref (z + 137), .ref (z + 138), .ref (z + 139), .ref (z + 140), .int (0 : Int32), .int (0 : Int32), .int (0 : Int32), .int (0 : Int32), .ref (z + 141), .ref (z + 142), .ref (z + 143), .ref (z + 144), .ref (z + 145), .ref (z + 146), .int (0 : Int32), .int (0 : Int32), .ref (z + 147), .long (0 : Int64), .ref (z + 148), .int (0 : Int32), .int (0 : Int32), .int (0 : Int32), .ref (z + 149), .int (0 : Int32), .ref (z + 150), .ref (z + 151), .int (0 : Int32), .ref (z + 152), .ref (z + 153), .ref (z + 154), .ref (z + 155), .ref (z + 156)]))) : Mt G l z yX10_nextLetter cX10_nextLetter 1 (some .int) { frames := 1, cells := 0, slots := 0, locals := 21 } [.ref (z + 134)] u n (some (.int (-1 : Int32))) u n := by
  refine mt_of (by decide +kernel) (Nat.le_of_ble_eq_true rfl) ?_
  intro p e s m below meth c C hr hlk hnm
  refine x_aload_n C 0 dX10_nextLetter_0 rfl rfl ?_
  refine x_aload_n C 0 dX10_nextLetter_1 rfl rfl ?_
  refine gfX10_91 C dX10_nextLetter_2 h134 rfl ?_
  refine x_callV C cl_X10_letterAt kmX10_94 (ci := 9) (b := 134) (As := [.int (0 : Int32)]) (rest := []) rfl h134 (p_X10_letterAt_0 u h134) rfl rfl (Nat.le_of_ble_eq_true rfl) ⟨Nat.le_of_ble_eq_true rfl, Nat.le_of_ble_eq_true rfl⟩ ⟨Nat.le_of_ble_eq_true rfl, Nat.le_of_ble_eq_true rfl⟩ dX10_nextLetter_5 ?_
  refine x_norm (st2 := [.int (-1 : Int32)]) (kc2 := 0) (ks2 := 0) rfl rfl rfl rfl rfl ?_
  refine x_bipush (v := (32 : Int32)) C dX10_nextLetter_8 (by decide) ?_
  refine x_icmp_ne_t C 26 dX10_nextLetter_10 (by decide) (by decide) ?_
  refine x_aload_n C 0 dX10_nextLetter_26 rfl rfl ?_
  refine x_aload_n C 0 dX10_nextLetter_27 rfl rfl ?_
  refine gfX10_91 C dX10_nextLetter_28 h134 rfl ?_
  refine x_callV C cl_X10_letterAt kmX10_94 (ci := 9) (b := 134) (As := [.int (0 : Int32)]) (rest := []) rfl h134 (p_X10_letterAt_0 u h134) rfl rfl (Nat.le_of_ble_eq_true rfl) ⟨Nat.le_of_ble_eq_true rfl, Nat.le_of_ble_eq_true rfl⟩ ⟨Nat.le_of_ble_eq_true rfl, Nat.le_of_ble_eq_true rfl⟩ dX10_nextLetter_31 ?_
  refine x_norm (st2 := [.int (-1 : Int32)]) (kc2 := 0) (ks2 := 0) rfl rfl rfl rfl rfl ?_
  exact x_iret C hr hlk (Nat.le_of_ble_eq_true rfl) (Nat.le_of_ble_eq_true rfl) dX10_nextLetter_34 rfl rfl rfl
set_option maxRecDepth 20000 in
theorem p_X10_readsBridge_0 {G : GT} {l : Launch} {z n : Nat} (u : HpT) (h134 : u 134 = some (.inr (9, [.int (0 : Int32), .ref (z + 135), .int (0 : Int32), .int (0 : Int32), .int (0 : Int32), .int (-1 : Int32), .int (0 : Int32), .int (0 : Int32), .int (0 : Int32), .int (0 : Int32), .ref (z + 136), .ref (z + 137), .ref (z + 138), .ref (z + 139), .ref (z + 140), .int (0 : Int32), .int (0 : Int32), .int (0 : Int32), .int (0 : Int32), .ref (z + 141), .ref (z + 142), .ref (z + 143), .ref (z + 144), .ref (z + 145), .ref (z + 146), .int (0 : Int32), .int (0 : Int32), .ref (z + 147), .long (0 : Int64), .ref (z + 148), .int (0 : Int32), .int (0 : Int32), .int (0 : Int32), .ref (z + 149), .int (0 : Int32), .ref (z + 150), .ref (z + 151), .int (0 : Int32), .ref (z + 152), .ref (z + 153), .ref (z + 154), .ref (z + 155), .ref (z + 156)]))) : Mt G l z yX10_readsBridge cX10_readsBridge 2 (some .boolean) { frames := 2, cells := 0, slots := 0, locals := 41 } [.ref (z + 134)] u n (some (.int (1 : Int32))) (hup u 134 (.inr (9, [.int (0 : Int32), .ref (z + 135), .int (0 : Int32), .int (0 : Int32), .int (0 : Int32), .int (-1 : Int32), .int (0 : Int32), .int (0 : Int32), .int (0 : Int32), .int (0 : Int32), .ref (z + 136), .ref (z + 137), .ref (z + 138), .ref (z + 139), .ref (z + 140), .int (0 : Int32), .int (0 : Int32), .int (0 : Int32), .int (0 : Int32), .ref (z + 141), .ref (z + 142), .ref (z + 143), .ref (z + 144), .ref (z + 145), .ref (z + 146), .int (0 : Int32), .int (0 : Int32), .ref (z + 147), .long (0 : Int64), .ref (z + 148), .int (0 : Int32), .int (0 : Int32), .int (0 : Int32), .ref (z + 149), .int (0 : Int32), .ref (z + 150), .ref (z + 151), .int (0 : Int32), .ref (z + 152), .ref (z + 153), .ref (z + 154), .ref (z + 155), .ref (z + 156)]))) n := by
  refine mt_of (by decide +kernel) (Nat.le_of_ble_eq_true rfl) ?_
  intro p e s m below meth c C hr hlk hnm
  refine x_aload_n C 0 dX10_readsBridge_0 rfl rfl ?_
  refine x_iconst (v := (0 : Int32)) C dX10_readsBridge_1 (by decide) ?_
  obtain ⟨u1, eu1⟩ : ∃ w : HpT, w = (hup u 134 (.inr (9, [.int (0 : Int32), .ref (z + 135), .int (0 : Int32), .int (0 : Int32), .int (0 : Int32), .int (-1 : Int32), .int (0 : Int32), .int (0 : Int32), .int (0 : Int32), .int (0 : Int32), .ref (z + 136), .ref (z + 137), .ref (z + 138), .ref (z + 139), .ref (z + 140), .int (0 : Int32), .int (0 : Int32), .int (0 : Int32), .int (0 : Int32), .ref (z + 141), .ref (z + 142), .ref (z + 143), .ref (z + 144), .ref (z + 145), .ref (z + 146), .int (0 : Int32), .int (0 : Int32), .ref (z + 147), .long (0 : Int64), .ref (z + 148), .int (0 : Int32), .int (0 : Int32), .int (0 : Int32), .ref (z + 149), .int (0 : Int32), .ref (z + 150), .ref (z + 151), .int (0 : Int32), .ref (z + 152), .ref (z + 153), .ref (z + 154), .ref (z + 155), .ref (z + 156)]))) := ⟨_, rfl⟩
  refine pfX10_91 C dX10_readsBridge_2 h134 (Nat.le_of_ble_eq_true rfl) rfl eu1.symm ?_
  refine x_aload_n C 0 dX10_readsBridge_5 rfl rfl ?_
  refine x_iconst (v := (0 : Int32)) C dX10_readsBridge_6 (by decide) ?_
  have k134_1 := (congrFun eu1 134).trans (hup_s _ _ _)
  obtain ⟨u2, eu2⟩ : ∃ w : HpT, w = (hup u1 134 (.inr (9, [.int (0 : Int32), .ref (z + 135), .int (0 : Int32), .int (0 : Int32), .int (0 : Int32), .int (-1 : Int32), .int (0 : Int32), .int (0 : Int32), .int (0 : Int32), .int (0 : Int32), .ref (z + 136), .ref (z + 137), .ref (z + 138), .ref (z + 139), .ref (z + 140), .int (0 : Int32), .int (0 : Int32), .int (0 : Int32), .int (0 : Int32), .ref (z + 141), .ref (z + 142), .ref (z + 143), .ref (z + 144), .ref (z + 145), .ref (z + 146), .int (0 : Int32), .int (0 : Int32), .ref (z + 147), .long (0 : Int64), .ref (z + 148), .int (0 : Int32), .int (0 : Int32), .int (0 : Int32), .ref (z + 149), .int (0 : Int32), .ref (z + 150), .ref (z + 151), .int (0 : Int32), .ref (z + 152), .ref (z + 153), .ref (z + 154), .ref (z + 155), .ref (z + 156)]))) := ⟨_, rfl⟩
  refine pfX10_115 C dX10_readsBridge_7 k134_1 (Nat.le_of_ble_eq_true rfl) rfl eu2.symm ?_
  refine x_aload_n C 0 dX10_readsBridge_10 rfl rfl ?_
  refine x_iconst (v := (0 : Int32)) C dX10_readsBridge_11 (by decide) ?_
  have k134_2 := (congrFun eu2 134).trans (hup_s _ _ _)
  obtain ⟨u3, eu3⟩ : ∃ w : HpT, w = (hup u2 134 (.inr (9, [.int (0 : Int32), .ref (z + 135), .int (0 : Int32), .int (0 : Int32), .int (0 : Int32), .int (-1 : Int32), .int (0 : Int32), .int (0 : Int32), .int (0 : Int32), .int (0 : Int32), .ref (z + 136), .ref (z + 137), .ref (z + 138), .ref (z + 139), .ref (z + 140), .int (0 : Int32), .int (0 : Int32), .int (0 : Int32), .int (0 : Int32), .ref (z + 141), .ref (z + 142), .ref (z + 143), .ref (z + 144), .ref (z + 145), .ref (z + 146), .int (0 : Int32), .int (0 : Int32), .ref (z + 147), .long (0 : Int64), .ref (z + 148), .int (0 : Int32), .int (0 : Int32), .int (0 : Int32), .ref (z + 149), .int (0 : Int32), .ref (z + 150), .ref (z + 151), .int (0 : Int32), .ref (z + 152), .ref (z + 153), .ref (z + 154), .ref (z + 155), .ref (z + 156)]))) := ⟨_, rfl⟩
  refine pfX10_118 C dX10_readsBridge_12 k134_2 (Nat.le_of_ble_eq_true rfl) rfl eu3.symm ?_
  refine x_aload_n C 0 dX10_readsBridge_15 rfl rfl ?_
  refine x_iconst (v := (0 : Int32)) C dX10_readsBridge_16 (by decide) ?_
  have k134_3 := (congrFun eu3 134).trans (hup_s _ _ _)
  obtain ⟨u4, eu4⟩ : ∃ w : HpT, w = (hup u3 134 (.inr (9, [.int (0 : Int32), .ref (z + 135), .int (0 : Int32), .int (0 : Int32), .int (0 : Int32), .int (-1 : Int32), .int (0 : Int32), .int (0 : Int32), .int (0 : Int32), .int (0 : Int32), .ref (z + 136), .ref (z + 137), .ref (z + 138), .ref (z + 139), .ref (z + 140), .int (0 : Int32), .int (0 : Int32), .int (0 : Int32), .int (0 : Int32), .ref (z + 141), .ref (z + 142), .ref (z + 143), .ref (z + 144), .ref (z + 145), .ref (z + 146), .int (0 : Int32), .int (0 : Int32), .ref (z + 147), .long (0 : Int64), .ref (z + 148), .int (0 : Int32), .int (0 : Int32), .int (0 : Int32), .ref (z + 149), .int (0 : Int32), .ref (z + 150), .ref (z + 151), .int (0 : Int32), .ref (z + 152), .ref (z + 153), .ref (z + 154), .ref (z + 155), .ref (z + 156)]))) := ⟨_, rfl⟩
  refine pfX10_125 C dX10_readsBridge_17 k134_3 (Nat.le_of_ble_eq_true rfl) rfl eu4.symm ?_
  refine x_aload_n C 0 dX10_readsBridge_20 rfl rfl ?_
  refine x_iconst (v := (0 : Int32)) C dX10_readsBridge_21 (by decide) ?_
  have k134_4 := (congrFun eu4 134).trans (hup_s _ _ _)
  obtain ⟨u5, eu5⟩ : ∃ w : HpT, w = (hup u4 134 (.inr (9, [.int (0 : Int32), .ref (z + 135), .int (0 : Int32), .int (0 : Int32), .int (0 : Int32), .int (-1 : Int32), .int (0 : Int32), .int (0 : Int32), .int (0 : Int32), .int (0 : Int32), .ref (z + 136), .ref (z + 137), .ref (z + 138), .ref (z + 139), .ref (z + 140), .int (0 : Int32), .int (0 : Int32), .int (0 : Int32), .int (0 : Int32), .ref (z + 141), .ref (z + 142), .ref (z + 143), .ref (z + 144), .ref (z + 145), .ref (z + 146), .int (0 : Int32), .int (0 : Int32), .ref (z + 147), .long (0 : Int64), .ref (z + 148), .int (0 : Int32), .int (0 : Int32), .int (0 : Int32), .ref (z + 149), .int (0 : Int32), .ref (z + 150), .ref (z + 151), .int (0 : Int32), .ref (z + 152), .ref (z + 153), .ref (z + 154), .ref (z + 155), .ref (z + 156)]))) := ⟨_, rfl⟩
  refine pfX10_128 C dX10_readsBridge_22 k134_4 (Nat.le_of_ble_eq_true rfl) rfl eu5.symm ?_
  refine x_iconst (v := (1 : Int32)) C dX10_readsBridge_25 (by decide) ?_
  refine x_istore_n C [(1, .int (1 : Int32)), (0, .ref (z + 134))] dX10_readsBridge_26 rfl (by decide) rfl ?_
  refine x_iload_n C 0 dX10_readsBridge_27 rfl rfl ?_
  refine x_if_eq_f C 47 dX10_readsBridge_28 (by decide) (by decide) ?_
  refine x_aload_n C 1 dX10_readsBridge_31 rfl rfl ?_
  have k134_5 := (congrFun eu5 134).trans (hup_s _ _ _)
  refine x_callV C cl_X10_nextLetter kmX10_101 (ci := 9) (b := 134) (As := []) (rest := []) rfl k134_5 (p_X10_nextLetter_0 u5 k134_5) rfl rfl (Nat.le_of_ble_eq_true rfl) ⟨Nat.le_of_ble_eq_true rfl, Nat.le_of_ble_eq_true rfl⟩ ⟨Nat.le_of_ble_eq_true rfl, Nat.le_of_ble_eq_true rfl⟩ dX10_readsBridge_32 ?_
  refine x_norm (st2 := [.int (-1 : Int32)]) (kc2 := 0) (ks2 := 0) rfl rfl rfl rfl rfl ?_
  refine x_iconst (v := (-1 : Int32)) C dX10_readsBridge_35 (by decide) ?_
  refine x_icmp_eq_t C 47 dX10_readsBridge_36 (by decide) (by decide) ?_
  refine x_iload_n C 0 dX10_readsBridge_47 rfl rfl ?_
  exact x_zret C hr hlk (Nat.le_of_ble_eq_true rfl) (Nat.le_of_ble_eq_true rfl) dX10_readsBridge_48 (by decide) rfl (by rw [eu5, eu4, eu3, eu2, eu1]; simp only [hup_hup, hup_sk, ne_eq, Nat.reduceEqDiff, not_false_eq_true]) rfl
