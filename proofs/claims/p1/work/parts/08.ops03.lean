set_option maxRecDepth 20000 in
theorem p_X10_in_19 {G : GT} {l : Launch} {z n : Nat} (u : HpT) (vb : Int32) (hl_vb : 101 ≤ vb.toInt) (hh_vb : vb.toInt ≤ 2147483647) : Mt G l z yX10_in cX10_in 3 (some .boolean) { frames := 0, cells := 0, slots := 0, locals := 0 } [.int vb, .int (0 : Int32), .int (100 : Int32)] u n (some (.int (0 : Int32))) u n := by
  refine mt_of (by decide +kernel) (Nat.le_of_ble_eq_true rfl) ?_
  intro p e s m below meth c C hr hlk hnm
  refine x_iload_n C 0 dX10_in_0 rfl rfl ?_
  refine x_iload_n C 1 dX10_in_1 rfl rfl ?_
  refine x_icmp_lt_f C 14 dX10_in_2 (by decide) (by simp only [Int32.lt_iff_toInt_lt, Int32.le_iff_toInt_le, i_eq_iff]; have e9 : (0 : Int32).toInt = 0 := (by decide); omega) ?_
  refine x_iload_n C 0 dX10_in_5 rfl rfl ?_
  refine x_iload_n C 2 dX10_in_6 rfl rfl ?_
  refine x_icmp_gt_t C 14 dX10_in_7 (by decide) (by simp only [Int32.lt_iff_toInt_lt, Int32.le_iff_toInt_le, i_eq_iff]; have e9 : (100 : Int32).toInt = 100 := (by decide); omega) ?_
  refine x_iconst (v := (0 : Int32)) C dX10_in_14 (by decide) ?_
  exact x_zret C hr hlk (Nat.le_of_ble_eq_true rfl) (Nat.le_of_ble_eq_true rfl) dX10_in_15 (by decide) rfl rfl rfl
set_option maxRecDepth 20000 in
theorem p_X10_dry_3 {G : GT} {l : Launch} {z n : Nat} (u : HpT) (va : Int32) (hl_va : 0 ≤ va.toInt) (hh_va : va.toInt ≤ 60) (vb : Int32) (hl_vb : 101 ≤ vb.toInt) (hh_vb : vb.toInt ≤ 2147483647) : Mt G l z yX10_dry cX10_dry 6 (some .int) { frames := 1, cells := 0, slots := 0, locals := 22 } [.ref (z + 134), .int va, .int vb] u n (some (.int (-1000000002 : Int32))) u n := by
  refine mt_of (by decide +kernel) (Nat.le_of_ble_eq_true rfl) ?_
  intro p e s m below meth c C hr hlk hnm
  refine x_iload_n C 1 dX10_dry_0 rfl rfl ?_
  refine x_iconst (v := (0 : Int32)) C dX10_dry_1 (by decide) ?_
  refine x_bipush (v := (60 : Int32)) C dX10_dry_2 (by decide) ?_
  refine x_callS C cl_X10_in kmX10_82 (As := [.int va, .int (0 : Int32), .int (60 : Int32)]) (rest := []) (p_X10_in_16 u va hl_va hh_va) rfl rfl (Nat.le_of_ble_eq_true rfl) ⟨Nat.le_of_ble_eq_true rfl, Nat.le_of_ble_eq_true rfl⟩ ⟨Nat.le_of_ble_eq_true rfl, Nat.le_of_ble_eq_true rfl⟩ dX10_dry_4 ?_
  refine x_norm (st2 := [.int (1 : Int32)]) (kc2 := 0) (ks2 := 0) rfl rfl rfl rfl rfl ?_
  refine x_if_eq_f C 20 dX10_dry_7 (by decide) (by decide) ?_
  refine x_iload_n C 2 dX10_dry_10 rfl rfl ?_
  refine x_iconst (v := (0 : Int32)) C dX10_dry_11 (by decide) ?_
  refine x_bipush (v := (100 : Int32)) C dX10_dry_12 (by decide) ?_
  refine x_callS C cl_X10_in kmX10_82 (As := [.int vb, .int (0 : Int32), .int (100 : Int32)]) (rest := []) (p_X10_in_19 u vb hl_vb hh_vb) rfl rfl (Nat.le_of_ble_eq_true rfl) ⟨Nat.le_of_ble_eq_true rfl, Nat.le_of_ble_eq_true rfl⟩ ⟨Nat.le_of_ble_eq_true rfl, Nat.le_of_ble_eq_true rfl⟩ dX10_dry_14 ?_
  refine x_norm (st2 := [.int (0 : Int32)]) (kc2 := 0) (ks2 := 0) rfl rfl rfl rfl rfl ?_
  refine x_if_ne_f C 23 dX10_dry_17 (by decide) (by decide) ?_
  refine x_ldc C kcX10_86 dX10_dry_20 ?_
  exact x_iret C hr hlk (Nat.le_of_ble_eq_true rfl) (Nat.le_of_ble_eq_true rfl) dX10_dry_22 rfl rfl rfl
set_option maxRecDepth 20000 in
theorem p_X9_dry_4 {G : GT} {l : Launch} {z n : Nat} (u : HpT) (va : Int32) (hl_va : 61 ≤ va.toInt) (hh_va : va.toInt ≤ 2147483647) (vb : Int32) (hl_vb : -2147483648 ≤ vb.toInt) (hh_vb : vb.toInt ≤ 2147483647) : Mt G l z yX9_dry cX9_dry 6 (some .int) { frames := 0, cells := 0, slots := 0, locals := 0 } [.ref (z + 0), .int va, .int vb] u n (some (.int (-1000000002 : Int32))) u n := by
  refine mt_of (by decide +kernel) (Nat.le_of_ble_eq_true rfl) ?_
  intro p e s m below meth c C hr hlk hnm
  refine x_iload_n C 1 dX9_dry_0 rfl rfl ?_
  refine x_if_lt_f C 20 dX9_dry_1 (by decide) (by simp only [Int32.lt_iff_toInt_lt, Int32.le_iff_toInt_le, i_eq_iff]; have e9 : (0 : Int32).toInt = 0 := (by decide); omega) ?_
  refine x_iload_n C 1 dX9_dry_4 rfl rfl ?_
  refine x_bipush (v := (60 : Int32)) C dX9_dry_5 (by decide) ?_
  refine x_icmp_gt_t C 20 dX9_dry_7 (by decide) (by simp only [Int32.lt_iff_toInt_lt, Int32.le_iff_toInt_le, i_eq_iff]; have e9 : (60 : Int32).toInt = 60 := (by decide); omega) ?_
  refine x_ldc C kcX9_80 dX9_dry_20 ?_
  exact x_iret C hr hlk (Nat.le_of_ble_eq_true rfl) (Nat.le_of_ble_eq_true rfl) dX9_dry_22 rfl rfl rfl
set_option maxRecDepth 20000 in
theorem p_X10_in_20 {G : GT} {l : Launch} {z n : Nat} (u : HpT) (va : Int32) (hl_va : 61 ≤ va.toInt) (hh_va : va.toInt ≤ 2147483647) : Mt G l z yX10_in cX10_in 3 (some .boolean) { frames := 0, cells := 0, slots := 0, locals := 0 } [.int va, .int (0 : Int32), .int (60 : Int32)] u n (some (.int (0 : Int32))) u n := by
  refine mt_of (by decide +kernel) (Nat.le_of_ble_eq_true rfl) ?_
  intro p e s m below meth c C hr hlk hnm
  refine x_iload_n C 0 dX10_in_0 rfl rfl ?_
  refine x_iload_n C 1 dX10_in_1 rfl rfl ?_
  refine x_icmp_lt_f C 14 dX10_in_2 (by decide) (by simp only [Int32.lt_iff_toInt_lt, Int32.le_iff_toInt_le, i_eq_iff]; have e9 : (0 : Int32).toInt = 0 := (by decide); omega) ?_
  refine x_iload_n C 0 dX10_in_5 rfl rfl ?_
  refine x_iload_n C 2 dX10_in_6 rfl rfl ?_
  refine x_icmp_gt_t C 14 dX10_in_7 (by decide) (by simp only [Int32.lt_iff_toInt_lt, Int32.le_iff_toInt_le, i_eq_iff]; have e9 : (60 : Int32).toInt = 60 := (by decide); omega) ?_
  refine x_iconst (v := (0 : Int32)) C dX10_in_14 (by decide) ?_
  exact x_zret C hr hlk (Nat.le_of_ble_eq_true rfl) (Nat.le_of_ble_eq_true rfl) dX10_in_15 (by decide) rfl rfl rfl
set_option maxRecDepth 20000 in
theorem p_X10_dry_4 {G : GT} {l : Launch} {z n : Nat} (u : HpT) (va : Int32) (hl_va : 61 ≤ va.toInt) (hh_va : va.toInt ≤ 2147483647) (vb : Int32) (hl_vb : -2147483648 ≤ vb.toInt) (hh_vb : vb.toInt ≤ 2147483647) : Mt G l z yX10_dry cX10_dry 6 (some .int) { frames := 1, cells := 0, slots := 0, locals := 22 } [.ref (z + 134), .int va, .int vb] u n (some (.int (-1000000002 : Int32))) u n := by
  refine mt_of (by decide +kernel) (Nat.le_of_ble_eq_true rfl) ?_
  intro p e s m below meth c C hr hlk hnm
  refine x_iload_n C 1 dX10_dry_0 rfl rfl ?_
  refine x_iconst (v := (0 : Int32)) C dX10_dry_1 (by decide) ?_
  refine x_bipush (v := (60 : Int32)) C dX10_dry_2 (by decide) ?_
  refine x_callS C cl_X10_in kmX10_82 (As := [.int va, .int (0 : Int32), .int (60 : Int32)]) (rest := []) (p_X10_in_20 u va hl_va hh_va) rfl rfl (Nat.le_of_ble_eq_true rfl) ⟨Nat.le_of_ble_eq_true rfl, Nat.le_of_ble_eq_true rfl⟩ ⟨Nat.le_of_ble_eq_true rfl, Nat.le_of_ble_eq_true rfl⟩ dX10_dry_4 ?_
  refine x_norm (st2 := [.int (0 : Int32)]) (kc2 := 0) (ks2 := 0) rfl rfl rfl rfl rfl ?_
  refine x_if_eq_t C 20 dX10_dry_7 (by decide) (by decide) ?_
  refine x_ldc C kcX10_86 dX10_dry_20 ?_
  exact x_iret C hr hlk (Nat.le_of_ble_eq_true rfl) (Nat.le_of_ble_eq_true rfl) dX10_dry_22 rfl rfl rfl
set_option maxRecDepth 20000 in
theorem p_X9_stayed_0 {G : GT} {l : Launch} {z n : Nat} (u : HpT) (va : Int32) (hl_va : -2147483648 ≤ va.toInt) (hh_va : va.toInt ≤ -1) (vb : Int32) (hl_vb : -2147483648 ≤ vb.toInt) (hh_vb : vb.toInt ≤ 2147483647) (h0 : u 0 = some (.inr (8, [.ref (z + 1), .ref (z + 3), .ref (z + 6), .ref (z + 98), .ref (z + 99), .ref (z + 101), .ref (z + 106), .ref (z + 109), .ref (z + 112), .ref (z + 119), .int (0 : Int32), .int (-1 : Int32)]))) (h112 : u 112 = some (.inr (0, [.int (0 : Int32), .int (0 : Int32), .int (0 : Int32), .int (0 : Int32), .ref (z + 113), .ref (z + 114), .ref (z + 115), .ref (z + 116), .ref (z + 117), .ref (z + 118)]))) : Mt G l z yX9_stayed cX9_stayed 3 (some .int) { frames := 1, cells := 0, slots := 0, locals := 21 } [.ref (z + 0), .int va, .int vb] u n (some (.int (-1000000001 : Int32))) u n := by
  refine mt_of (by decide +kernel) (Nat.le_of_ble_eq_true rfl) ?_
  intro p e s m below meth c C hr hlk hnm
  refine x_aload_n C 0 dX9_stayed_0 rfl rfl ?_
  refine gfX9_65 C dX9_stayed_1 h0 rfl ?_
  refine x_iload_n C 1 dX9_stayed_4 rfl rfl ?_
  refine x_callV C cl_X1_hasTraveller kmX9_193 (ci := 0) (b := 112) (As := [.int va]) (rest := []) rfl h112 (p_X1_hasTraveller_0 u va hl_va hh_va) rfl rfl (Nat.le_of_ble_eq_true rfl) ⟨Nat.le_of_ble_eq_true rfl, Nat.le_of_ble_eq_true rfl⟩ ⟨Nat.le_of_ble_eq_true rfl, Nat.le_of_ble_eq_true rfl⟩ dX9_stayed_5 ?_
  refine x_norm (st2 := [.int (0 : Int32)]) (kc2 := 0) (ks2 := 0) rfl rfl rfl rfl rfl ?_
  refine x_if_ne_f C 14 dX9_stayed_8 (by decide) (by decide) ?_
  refine x_ldc C kcX9_179 dX9_stayed_11 ?_
  exact x_iret C hr hlk (Nat.le_of_ble_eq_true rfl) (Nat.le_of_ble_eq_true rfl) dX9_stayed_13 rfl rfl rfl
set_option maxRecDepth 20000 in
theorem p_X10_stayed_0 {G : GT} {l : Launch} {z n : Nat} (u : HpT) (va : Int32) (hl_va : -2147483648 ≤ va.toInt) (hh_va : va.toInt ≤ -1) (vb : Int32) (hl_vb : -2147483648 ≤ vb.toInt) (hh_vb : vb.toInt ≤ 2147483647) (h134 : u 134 = some (.inr (9, [.int (0 : Int32), .ref (z + 135), .int (0 : Int32), .int (0 : Int32), .int (0 : Int32), .int (-1 : Int32), .int (0 : Int32), .int (0 : Int32), .int (0 : Int32), .int (0 : Int32), .ref (z + 136), .ref (z + 137), .ref (z + 138), .ref (z + 139), .ref (z + 140), .int (0 : Int32), .int (0 : Int32), .int (0 : Int32), .int (0 : Int32), .ref (z + 141), .ref (z + 142), .ref (z + 143), .ref (z + 144), .ref (z + 145), .ref (z + 146), .int (0 : Int32), .int (0 : Int32), .ref (z + 147), .long (0 : Int64), .ref (z + 148), .int (0 : Int32), .int (0 : Int32), .int (0 : Int32), .ref (z + 149), .int (0 : Int32), .ref (z + 150), .ref (z + 151), .int (0 : Int32), .ref (z + 152), .ref (z + 153), .ref (z + 154), .ref (z + 155), .ref (z + 156)]))) : Mt G l z yX10_stayed cX10_stayed 3 (some .int) { frames := 2, cells := 0, slots := 0, locals := 43 } [.ref (z + 134), .int va, .int vb] u n (some (.int (-1000000001 : Int32))) u n := by
  refine mt_of (by decide +kernel) (Nat.le_of_ble_eq_true rfl) ?_
  intro p e s m below meth c C hr hlk hnm
  refine x_aload_n C 0 dX10_stayed_0 rfl rfl ?_
  refine x_iload_n C 1 dX10_stayed_1 rfl rfl ?_
  refine x_callV C cl_X10_isTraveller kmX10_203 (ci := 9) (b := 134) (As := [.int va]) (rest := []) rfl h134 (p_X10_isTraveller_0 u va hl_va hh_va h134) rfl rfl (Nat.le_of_ble_eq_true rfl) ⟨Nat.le_of_ble_eq_true rfl, Nat.le_of_ble_eq_true rfl⟩ ⟨Nat.le_of_ble_eq_true rfl, Nat.le_of_ble_eq_true rfl⟩ dX10_stayed_2 ?_
  refine x_norm (st2 := [.int (0 : Int32)]) (kc2 := 0) (ks2 := 0) rfl rfl rfl rfl rfl ?_
  refine x_if_ne_f C 11 dX10_stayed_5 (by decide) (by decide) ?_
  refine x_ldc C kcX10_193 dX10_stayed_8 ?_
  exact x_iret C hr hlk (Nat.le_of_ble_eq_true rfl) (Nat.le_of_ble_eq_true rfl) dX10_stayed_10 rfl rfl rfl
set_option maxRecDepth 20000 in
theorem p_X9_stayed_1 {G : GT} {l : Launch} {z n : Nat} (u : HpT) (va : Int32) (hl_va : 0 ≤ va.toInt) (hh_va : va.toInt ≤ 2147483647) (vb : Int32) (hl_vb : -2147483648 ≤ vb.toInt) (hh_vb : vb.toInt ≤ 2147483647) (h0 : u 0 = some (.inr (8, [.ref (z + 1), .ref (z + 3), .ref (z + 6), .ref (z + 98), .ref (z + 99), .ref (z + 101), .ref (z + 106), .ref (z + 109), .ref (z + 112), .ref (z + 119), .int (0 : Int32), .int (-1 : Int32)]))) (h112 : u 112 = some (.inr (0, [.int (0 : Int32), .int (0 : Int32), .int (0 : Int32), .int (0 : Int32), .ref (z + 113), .ref (z + 114), .ref (z + 115), .ref (z + 116), .ref (z + 117), .ref (z + 118)]))) : Mt G l z yX9_stayed cX9_stayed 3 (some .int) { frames := 1, cells := 0, slots := 0, locals := 21 } [.ref (z + 0), .int va, .int vb] u n (some (.int (-1000000001 : Int32))) u n := by
  refine mt_of (by decide +kernel) (Nat.le_of_ble_eq_true rfl) ?_
  intro p e s m below meth c C hr hlk hnm
  refine x_aload_n C 0 dX9_stayed_0 rfl rfl ?_
  refine gfX9_65 C dX9_stayed_1 h0 rfl ?_
  refine x_iload_n C 1 dX9_stayed_4 rfl rfl ?_
  refine x_callV C cl_X1_hasTraveller kmX9_193 (ci := 0) (b := 112) (As := [.int va]) (rest := []) rfl h112 (p_X1_hasTraveller_1 u va hl_va hh_va h112) rfl rfl (Nat.le_of_ble_eq_true rfl) ⟨Nat.le_of_ble_eq_true rfl, Nat.le_of_ble_eq_true rfl⟩ ⟨Nat.le_of_ble_eq_true rfl, Nat.le_of_ble_eq_true rfl⟩ dX9_stayed_5 ?_
  refine x_norm (st2 := [.int (0 : Int32)]) (kc2 := 0) (ks2 := 0) rfl rfl rfl rfl rfl ?_
  refine x_if_ne_f C 14 dX9_stayed_8 (by decide) (by decide) ?_
  refine x_ldc C kcX9_179 dX9_stayed_11 ?_
  exact x_iret C hr hlk (Nat.le_of_ble_eq_true rfl) (Nat.le_of_ble_eq_true rfl) dX9_stayed_13 rfl rfl rfl
set_option maxRecDepth 20000 in
theorem p_X10_stayed_1 {G : GT} {l : Launch} {z n : Nat} (u : HpT) (va : Int32) (hl_va : 0 ≤ va.toInt) (hh_va : va.toInt ≤ 2147483647) (vb : Int32) (hl_vb : -2147483648 ≤ vb.toInt) (hh_vb : vb.toInt ≤ 2147483647) (h134 : u 134 = some (.inr (9, [.int (0 : Int32), .ref (z + 135), .int (0 : Int32), .int (0 : Int32), .int (0 : Int32), .int (-1 : Int32), .int (0 : Int32), .int (0 : Int32), .int (0 : Int32), .int (0 : Int32), .ref (z + 136), .ref (z + 137), .ref (z + 138), .ref (z + 139), .ref (z + 140), .int (0 : Int32), .int (0 : Int32), .int (0 : Int32), .int (0 : Int32), .ref (z + 141), .ref (z + 142), .ref (z + 143), .ref (z + 144), .ref (z + 145), .ref (z + 146), .int (0 : Int32), .int (0 : Int32), .ref (z + 147), .long (0 : Int64), .ref (z + 148), .int (0 : Int32), .int (0 : Int32), .int (0 : Int32), .ref (z + 149), .int (0 : Int32), .ref (z + 150), .ref (z + 151), .int (0 : Int32), .ref (z + 152), .ref (z + 153), .ref (z + 154), .ref (z + 155), .ref (z + 156)]))) : Mt G l z yX10_stayed cX10_stayed 3 (some .int) { frames := 2, cells := 0, slots := 0, locals := 43 } [.ref (z + 134), .int va, .int vb] u n (some (.int (-1000000001 : Int32))) u n := by
  refine mt_of (by decide +kernel) (Nat.le_of_ble_eq_true rfl) ?_
  intro p e s m below meth c C hr hlk hnm
  refine x_aload_n C 0 dX10_stayed_0 rfl rfl ?_
  refine x_iload_n C 1 dX10_stayed_1 rfl rfl ?_
  refine x_callV C cl_X10_isTraveller kmX10_203 (ci := 9) (b := 134) (As := [.int va]) (rest := []) rfl h134 (p_X10_isTraveller_1 u va hl_va hh_va h134) rfl rfl (Nat.le_of_ble_eq_true rfl) ⟨Nat.le_of_ble_eq_true rfl, Nat.le_of_ble_eq_true rfl⟩ ⟨Nat.le_of_ble_eq_true rfl, Nat.le_of_ble_eq_true rfl⟩ dX10_stayed_2 ?_
  refine x_norm (st2 := [.int (0 : Int32)]) (kc2 := 0) (ks2 := 0) rfl rfl rfl rfl rfl ?_
  refine x_if_ne_f C 11 dX10_stayed_5 (by decide) (by decide) ?_
  refine x_ldc C kcX10_193 dX10_stayed_8 ?_
  exact x_iret C hr hlk (Nat.le_of_ble_eq_true rfl) (Nat.le_of_ble_eq_true rfl) dX10_stayed_10 rfl rfl rfl
set_option maxRecDepth 20000 in
theorem p_X2_fitting_0 {G : GT} {l : Launch} {z n : Nat} (u : HpT) (h112 : u 112 = some (.inr (0, [.int (0 : Int32), .int (0 : Int32), .int (0 : Int32), .int (0 : Int32), .ref (z + 113), .ref (z + 114), .ref (z + 115), .ref (z + 116), .ref (z + 117), .ref (z + 118)]))) : Mt G l z yX2_fitting cX2_fitting 4 (some .int) { frames := 0, cells := 0, slots := 0, locals := 0 } [.ref (z + 106), .ref (z + 112)] u n (some (.int (0 : Int32))) u n := by
  refine mt_of (by decide +kernel) (Nat.le_of_ble_eq_true rfl) ?_
  intro p e s m below meth c C hr hlk hnm
  refine x_iconst (v := (0 : Int32)) C dX2_fitting_0 (by decide) ?_
  refine x_istore_n C [(2, .int (0 : Int32)), (0, .ref (z + 106)), (1, .ref (z + 112))] dX2_fitting_1 rfl (by decide) rfl ?_
  refine x_iconst (v := (0 : Int32)) C dX2_fitting_2 (by decide) ?_
  refine x_istore_n C [(3, .int (0 : Int32)), (2, .int (0 : Int32)), (0, .ref (z + 106)), (1, .ref (z + 112))] dX2_fitting_3 rfl (by decide) rfl ?_
  refine x_iload_n C 0 dX2_fitting_4 rfl rfl ?_
  refine x_aload_n C 3 dX2_fitting_5 rfl rfl ?_
  refine gfX2_28 C dX2_fitting_6 h112 rfl ?_
  refine x_icmp_ge_t C 33 dX2_fitting_9 (by decide) (by decide) ?_
  refine x_iload_n C 1 dX2_fitting_33 rfl rfl ?_
  exact x_iret C hr hlk (Nat.le_of_ble_eq_true rfl) (Nat.le_of_ble_eq_true rfl) dX2_fitting_34 rfl rfl rfl
set_option maxRecDepth 20000 in
theorem p_X9_couldBe_0 {G : GT} {l : Launch} {z n : Nat} (u : HpT) (h0 : u 0 = some (.inr (8, [.ref (z + 1), .ref (z + 3), .ref (z + 6), .ref (z + 98), .ref (z + 99), .ref (z + 101), .ref (z + 106), .ref (z + 109), .ref (z + 112), .ref (z + 119), .int (0 : Int32), .int (-1 : Int32)]))) (h106 : u 106 = some (.inr (1, [.ref (z + 107), .ref (z + 108), .int (0 : Int32)]))) (h112 : u 112 = some (.inr (0, [.int (0 : Int32), .int (0 : Int32), .int (0 : Int32), .int (0 : Int32), .ref (z + 113), .ref (z + 114), .ref (z + 115), .ref (z + 116), .ref (z + 117), .ref (z + 118)]))) : Mt G l z yX9_couldBe cX9_couldBe 1 (some .int) { frames := 1, cells := 0, slots := 0, locals := 23 } [.ref (z + 0)] u n (some (.int (0 : Int32))) u n := by
  refine mt_of (by decide +kernel) (Nat.le_of_ble_eq_true rfl) ?_
  intro p e s m below meth c C hr hlk hnm
  refine x_aload_n C 0 dX9_couldBe_0 rfl rfl ?_
  refine gfX9_55 C dX9_couldBe_1 h0 rfl ?_
  refine x_aload_n C 0 dX9_couldBe_4 rfl rfl ?_
  refine gfX9_65 C dX9_couldBe_5 h0 rfl ?_
  refine x_callV C cl_X2_fitting kmX9_315 (ci := 1) (b := 106) (As := [.ref (z + 112)]) (rest := []) rfl h106 (p_X2_fitting_0 u h112) rfl rfl (Nat.le_of_ble_eq_true rfl) ⟨Nat.le_of_ble_eq_true rfl, Nat.le_of_ble_eq_true rfl⟩ ⟨Nat.le_of_ble_eq_true rfl, Nat.le_of_ble_eq_true rfl⟩ dX9_couldBe_8 ?_
  refine x_norm (st2 := [.int (0 : Int32)]) (kc2 := 0) (ks2 := 0) rfl rfl rfl rfl rfl ?_
  exact x_iret C hr hlk (Nat.le_of_ble_eq_true rfl) (Nat.le_of_ble_eq_true rfl) dX9_couldBe_11 rfl rfl rfl
set_option maxRecDepth 20000 in
theorem p_X10_couldBe_0 {G : GT} {l : Launch} {z n : Nat} (u : HpT) (h134 : u 134 = some (.inr (9, [.int (0 : Int32), .ref (z + 135), .int (0 : Int32), .int (0 : Int32), .int (0 : Int32), .int (-1 : Int32), .int (0 : Int32), .int (0 : Int32), .int (0 : Int32), .int (0 : Int32), .ref (z + 136), .ref (z + 137), .ref (z + 138), .ref (z + 139), .ref (z + 140), .int (0 : Int32), .int (0 : Int32), .int (0 : Int32), .int (0 : Int32), .ref (z + 141), .ref (z + 142), .ref (z + 143), .ref (z + 144), .ref (z + 145), .ref (z + 146), .int (0 : Int32), .int (0 : Int32), .ref (z + 147), .long (0 : Int64), .ref (z + 148), .int (0 : Int32), .int (0 : Int32), .int (0 : Int32), .ref (z + 149), .int (0 : Int32), .ref (z + 150), .ref (z + 151), .int (0 : Int32), .ref (z + 152), .ref (z + 153), .ref (z + 154), .ref (z + 155), .ref (z + 156)]))) : Mt G l z yX10_couldBe cX10_couldBe 5 (some .int) { frames := 0, cells := 0, slots := 0, locals := 0 } [.ref (z + 134)] u n (some (.int (0 : Int32))) u n := by
  refine mt_of (by decide +kernel) (Nat.le_of_ble_eq_true rfl) ?_
  intro p e s m below meth c C hr hlk hnm
  refine x_iconst (v := (0 : Int32)) C dX10_couldBe_0 (by decide) ?_
  refine x_istore_n C [(1, .int (0 : Int32)), (0, .ref (z + 134))] dX10_couldBe_1 rfl (by decide) rfl ?_
  refine x_iconst (v := (0 : Int32)) C dX10_couldBe_2 (by decide) ?_
  refine x_istore_n C [(2, .int (0 : Int32)), (1, .int (0 : Int32)), (0, .ref (z + 134))] dX10_couldBe_3 rfl (by decide) rfl ?_
  refine x_iload_n C 0 dX10_couldBe_4 rfl rfl ?_
  refine x_aload_n C 2 dX10_couldBe_5 rfl rfl ?_
  refine gfX10_153 C dX10_couldBe_6 h134 rfl ?_
  refine x_icmp_ge_t C 84 dX10_couldBe_9 (by decide) (by decide) ?_
  refine x_iload_n C 1 dX10_couldBe_84 rfl rfl ?_
  exact x_iret C hr hlk (Nat.le_of_ble_eq_true rfl) (Nat.le_of_ble_eq_true rfl) dX10_couldBe_85 rfl rfl rfl
set_option maxRecDepth 20000 in
theorem p_J6_bitCount_0f7a4_0 {G : GT} {l : Launch} {z n : Nat} (u : HpT) : Mt G l z yJ6_bitCount_0f7a4 cJ6_bitCount_0f7a4 1 (some .int) { frames := 0, cells := 0, slots := 0, locals := 0 } [.int (0 : Int32)] u n (some (.int (0 : Int32))) u n := by
  refine mt_of (by decide +kernel) (Nat.le_of_ble_eq_true rfl) ?_
  intro p e s m below meth c C hr hlk hnm
  refine x_iload_n C 0 dJ6_bitCount_0f7a4_0 rfl rfl ?_
  refine x_iload_n C 0 dJ6_bitCount_0f7a4_1 rfl rfl ?_
  refine x_iconst (v := (1 : Int32)) C dJ6_bitCount_0f7a4_2 (by decide) ?_
  refine x_iushr C dJ6_bitCount_0f7a4_3 ?_
  refine x_eqi (w := (0 : Int32)) (by decide) ?_
  refine x_ldcw C kcJ6_265 dJ6_bitCount_0f7a4_4 ?_
  refine x_iand C dJ6_bitCount_0f7a4_7 ?_
  refine x_eqi (w := (0 : Int32)) (by decide) ?_
  refine x_isub C dJ6_bitCount_0f7a4_8 ?_
  refine x_eqi (w := (0 : Int32)) (by decide) ?_
  refine x_istore_n C [(0, .int (0 : Int32))] dJ6_bitCount_0f7a4_9 rfl (by decide) rfl ?_
  refine x_iload_n C 0 dJ6_bitCount_0f7a4_10 rfl rfl ?_
  refine x_ldcw C kcJ6_266 dJ6_bitCount_0f7a4_11 ?_
  refine x_iand C dJ6_bitCount_0f7a4_14 ?_
  refine x_eqi (w := (0 : Int32)) (by decide) ?_
  refine x_iload_n C 0 dJ6_bitCount_0f7a4_15 rfl rfl ?_
  refine x_iconst (v := (2 : Int32)) C dJ6_bitCount_0f7a4_16 (by decide) ?_
  refine x_iushr C dJ6_bitCount_0f7a4_17 ?_
  refine x_eqi (w := (0 : Int32)) (by decide) ?_
  refine x_ldcw C kcJ6_266 dJ6_bitCount_0f7a4_18 ?_
  refine x_iand C dJ6_bitCount_0f7a4_21 ?_
  refine x_eqi (w := (0 : Int32)) (by decide) ?_
  refine x_iadd C dJ6_bitCount_0f7a4_22 ?_
  refine x_eqi (w := (0 : Int32)) (by decide) ?_
  refine x_istore_n C [(0, .int (0 : Int32))] dJ6_bitCount_0f7a4_23 rfl (by decide) rfl ?_
  refine x_iload_n C 0 dJ6_bitCount_0f7a4_24 rfl rfl ?_
  refine x_iload_n C 0 dJ6_bitCount_0f7a4_25 rfl rfl ?_
  refine x_iconst (v := (4 : Int32)) C dJ6_bitCount_0f7a4_26 (by decide) ?_
  refine x_iushr C dJ6_bitCount_0f7a4_27 ?_
  refine x_eqi (w := (0 : Int32)) (by decide) ?_
  refine x_iadd C dJ6_bitCount_0f7a4_28 ?_
  refine x_eqi (w := (0 : Int32)) (by decide) ?_
  refine x_ldcw C kcJ6_267 dJ6_bitCount_0f7a4_29 ?_
  refine x_iand C dJ6_bitCount_0f7a4_32 ?_
  refine x_eqi (w := (0 : Int32)) (by decide) ?_
  refine x_istore_n C [(0, .int (0 : Int32))] dJ6_bitCount_0f7a4_33 rfl (by decide) rfl ?_
  refine x_iload_n C 0 dJ6_bitCount_0f7a4_34 rfl rfl ?_
  refine x_iload_n C 0 dJ6_bitCount_0f7a4_35 rfl rfl ?_
  refine x_bipush (v := (8 : Int32)) C dJ6_bitCount_0f7a4_36 (by decide) ?_
  refine x_iushr C dJ6_bitCount_0f7a4_38 ?_
  refine x_eqi (w := (0 : Int32)) (by decide) ?_
  refine x_iadd C dJ6_bitCount_0f7a4_39 ?_
  refine x_eqi (w := (0 : Int32)) (by decide) ?_
  refine x_istore_n C [(0, .int (0 : Int32))] dJ6_bitCount_0f7a4_40 rfl (by decide) rfl ?_
  refine x_iload_n C 0 dJ6_bitCount_0f7a4_41 rfl rfl ?_
  refine x_iload_n C 0 dJ6_bitCount_0f7a4_42 rfl rfl ?_
  refine x_bipush (v := (16 : Int32)) C dJ6_bitCount_0f7a4_43 (by decide) ?_
  refine x_iushr C dJ6_bitCount_0f7a4_45 ?_
  refine x_eqi (w := (0 : Int32)) (by decide) ?_
  refine x_iadd C dJ6_bitCount_0f7a4_46 ?_
  refine x_eqi (w := (0 : Int32)) (by decide) ?_
  refine x_istore_n C [(0, .int (0 : Int32))] dJ6_bitCount_0f7a4_47 rfl (by decide) rfl ?_
  refine x_iload_n C 0 dJ6_bitCount_0f7a4_48 rfl rfl ?_
  refine x_bipush (v := (63 : Int32)) C dJ6_bitCount_0f7a4_49 (by decide) ?_
  refine x_iand C dJ6_bitCount_0f7a4_51 ?_
  refine x_eqi (w := (0 : Int32)) (by decide) ?_
  exact x_iret C hr hlk (Nat.le_of_ble_eq_true rfl) (Nat.le_of_ble_eq_true rfl) dJ6_bitCount_0f7a4_52 rfl rfl rfl
set_option maxRecDepth 20000 in
theorem p_X0_bestOf_0 {G : GT} {l : Launch} {z n : Nat} (u : HpT) (h112 : u 112 = some (.inr (0, [.int (0 : Int32), .int (0 : Int32), .int (0 : Int32), .int (0 : Int32), .ref (z + 113), .ref (z + 114), .ref (z + 115), .ref (z + 116), .ref (z + 117), .ref (z + 118)]))) : Mt G l z yX0_bestOf cX0_bestOf 6 (some .int) { frames := 1, cells := 0, slots := 0, locals := 20 } [.ref (z + 112), .int (0 : Int32)] u n (some (.int (-1 : Int32))) u n := by
  refine mt_of (by decide +kernel) (Nat.le_of_ble_eq_true rfl) ?_
  intro p e s m below meth c C hr hlk hnm
  refine x_iconst (v := (-1 : Int32)) C dX0_bestOf_0 (by decide) ?_
  refine x_istore_n C [(2, .int (-1 : Int32)), (0, .ref (z + 112)), (1, .int (0 : Int32))] dX0_bestOf_1 rfl (by decide) rfl ?_
  refine x_iload_n C 2 dX0_bestOf_2 rfl rfl ?_
  refine x_callS C cl_J6_bitCount_0f7a4 kmX0_9 (As := [.int (0 : Int32)]) (rest := []) (p_J6_bitCount_0f7a4_0 u) rfl rfl (Nat.le_of_ble_eq_true rfl) ⟨Nat.le_of_ble_eq_true rfl, Nat.le_of_ble_eq_true rfl⟩ ⟨Nat.le_of_ble_eq_true rfl, Nat.le_of_ble_eq_true rfl⟩ dX0_bestOf_3 ?_
  refine x_norm (st2 := [.int (0 : Int32)]) (kc2 := 0) (ks2 := 0) rfl rfl rfl rfl rfl ?_
  refine x_istore_n C [(3, .int (0 : Int32)), (2, .int (-1 : Int32)), (0, .ref (z + 112)), (1, .int (0 : Int32))] dX0_bestOf_6 rfl (by decide) rfl ?_
  refine x_iconst (v := (0 : Int32)) C dX0_bestOf_7 (by decide) ?_
  refine x_istore C [(4, .int (0 : Int32)), (3, .int (0 : Int32)), (2, .int (-1 : Int32)), (0, .ref (z + 112)), (1, .int (0 : Int32))] dX0_bestOf_8 (by decide) rfl ?_
  refine x_iload C 0 dX0_bestOf_10 rfl ?_
  refine x_aload_n C 3 dX0_bestOf_12 rfl rfl ?_
  refine gfX0_15 C dX0_bestOf_13 h112 rfl ?_
  refine x_icmp_ge_t C 46 dX0_bestOf_16 (by decide) (by decide) ?_
  refine x_iload_n C 2 dX0_bestOf_46 rfl rfl ?_
  exact x_iret C hr hlk (Nat.le_of_ble_eq_true rfl) (Nat.le_of_ble_eq_true rfl) dX0_bestOf_47 rfl rfl rfl
set_option maxRecDepth 20000 in
theorem p_X9_ask_0 {G : GT} {l : Launch} {z n : Nat} (u : HpT) (h0 : u 0 = some (.inr (8, [.ref (z + 1), .ref (z + 3), .ref (z + 6), .ref (z + 98), .ref (z + 99), .ref (z + 101), .ref (z + 106), .ref (z + 109), .ref (z + 112), .ref (z + 119), .int (0 : Int32), .int (-1 : Int32)]))) (h106 : u 106 = some (.inr (1, [.ref (z + 107), .ref (z + 108), .int (0 : Int32)]))) (h112 : u 112 = some (.inr (0, [.int (0 : Int32), .int (0 : Int32), .int (0 : Int32), .int (0 : Int32), .ref (z + 113), .ref (z + 114), .ref (z + 115), .ref (z + 116), .ref (z + 117), .ref (z + 118)]))) : Mt G l z yX9_ask cX9_ask 1 (some .int) { frames := 2, cells := 0, slots := 0, locals := 45 } [.ref (z + 0)] u n (some (.int (-1 : Int32))) u n := by
  refine mt_of (by decide +kernel) (Nat.le_of_ble_eq_true rfl) ?_
  intro p e s m below meth c C hr hlk hnm
  refine x_aload_n C 0 dX9_ask_0 rfl rfl ?_
  refine gfX9_65 C dX9_ask_1 h0 rfl ?_
  refine x_aload_n C 0 dX9_ask_4 rfl rfl ?_
  refine gfX9_55 C dX9_ask_5 h0 rfl ?_
  refine x_aload_n C 0 dX9_ask_8 rfl rfl ?_
  refine gfX9_65 C dX9_ask_9 h0 rfl ?_
  refine x_callV C cl_X2_fitting kmX9_315 (ci := 1) (b := 106) (As := [.ref (z + 112)]) (rest := [.ref (z + 112)]) rfl h106 (p_X2_fitting_0 u h112) rfl rfl (Nat.le_of_ble_eq_true rfl) ⟨Nat.le_of_ble_eq_true rfl, Nat.le_of_ble_eq_true rfl⟩ ⟨Nat.le_of_ble_eq_true rfl, Nat.le_of_ble_eq_true rfl⟩ dX9_ask_12 ?_
  refine x_norm (st2 := [.int (0 : Int32), .ref (z + 112)]) (kc2 := 0) (ks2 := 0) rfl rfl rfl rfl rfl ?_
  refine x_callS C cl_X0_bestOf kmX9_318 (As := [.ref (z + 112), .int (0 : Int32)]) (rest := []) (p_X0_bestOf_0 u h112) rfl rfl (Nat.le_of_ble_eq_true rfl) ⟨Nat.le_of_ble_eq_true rfl, Nat.le_of_ble_eq_true rfl⟩ ⟨Nat.le_of_ble_eq_true rfl, Nat.le_of_ble_eq_true rfl⟩ dX9_ask_15 ?_
  refine x_norm (st2 := [.int (-1 : Int32)]) (kc2 := 0) (ks2 := 0) rfl rfl rfl rfl rfl ?_
  exact x_iret C hr hlk (Nat.le_of_ble_eq_true rfl) (Nat.le_of_ble_eq_true rfl) dX9_ask_18 rfl rfl rfl
set_option maxRecDepth 20000 in
theorem p_X10_bits_0 {G : GT} {l : Launch} {z n : Nat} (u : HpT) : Mt G l z yX10_bits cX10_bits 3 (some .int) { frames := 0, cells := 0, slots := 0, locals := 0 } [.int (0 : Int32)] u n (some (.int (0 : Int32))) u n := by
  refine mt_of (by decide +kernel) (Nat.le_of_ble_eq_true rfl) ?_
  intro p e s m below meth c C hr hlk hnm
  refine x_iconst (v := (0 : Int32)) C dX10_bits_0 (by decide) ?_
  refine x_istore_n C [(1, .int (0 : Int32)), (0, .int (0 : Int32))] dX10_bits_1 rfl (by decide) rfl ?_
  refine x_iload_n C 1 dX10_bits_2 rfl rfl ?_
  refine x_istore_n C [(2, .int (0 : Int32)), (1, .int (0 : Int32)), (0, .int (0 : Int32))] dX10_bits_3 rfl (by decide) rfl ?_
  refine x_iload_n C 0 dX10_bits_4 rfl rfl ?_
  refine x_if_eq_t C 20 dX10_bits_5 (by decide) (by decide) ?_
  refine x_iload_n C 1 dX10_bits_20 rfl rfl ?_
  exact x_iret C hr hlk (Nat.le_of_ble_eq_true rfl) (Nat.le_of_ble_eq_true rfl) dX10_bits_21 rfl rfl rfl
set_option maxRecDepth 20000 in
theorem p_X10_ask_0 {G : GT} {l : Launch} {z n : Nat} (u : HpT) (h134 : u 134 = some (.inr (9, [.int (0 : Int32), .ref (z + 135), .int (0 : Int32), .int (0 : Int32), .int (0 : Int32), .int (-1 : Int32), .int (0 : Int32), .int (0 : Int32), .int (0 : Int32), .int (0 : Int32), .ref (z + 136), .ref (z + 137), .ref (z + 138), .ref (z + 139), .ref (z + 140), .int (0 : Int32), .int (0 : Int32), .int (0 : Int32), .int (0 : Int32), .ref (z + 141), .ref (z + 142), .ref (z + 143), .ref (z + 144), .ref (z + 145), .ref (z + 146), .int (0 : Int32), .int (0 : Int32), .ref (z + 147), .long (0 : Int64), .ref (z + 148), .int (0 : Int32), .int (0 : Int32), .int (0 : Int32), .ref (z + 149), .int (0 : Int32), .ref (z + 150), .ref (z + 151), .int (0 : Int32), .ref (z + 152), .ref (z + 153), .ref (z + 154), .ref (z + 155), .ref (z + 156)]))) : Mt G l z yX10_ask cX10_ask 6 (some .int) { frames := 1, cells := 0, slots := 0, locals := 24 } [.ref (z + 134)] u n (some (.int (-1 : Int32))) u n := by
  refine mt_of (by decide +kernel) (Nat.le_of_ble_eq_true rfl) ?_
  intro p e s m below meth c C hr hlk hnm
  refine x_aload_n C 0 dX10_ask_0 rfl rfl ?_
  refine x_callV C cl_X10_couldBe kmX10_290 (ci := 9) (b := 134) (As := []) (rest := []) rfl h134 (p_X10_couldBe_0 u h134) rfl rfl (Nat.le_of_ble_eq_true rfl) ⟨Nat.le_of_ble_eq_true rfl, Nat.le_of_ble_eq_true rfl⟩ ⟨Nat.le_of_ble_eq_true rfl, Nat.le_of_ble_eq_true rfl⟩ dX10_ask_1 ?_
  refine x_norm (st2 := [.int (0 : Int32)]) (kc2 := 0) (ks2 := 0) rfl rfl rfl rfl rfl ?_
  refine x_istore_n C [(1, .int (0 : Int32)), (0, .ref (z + 134))] dX10_ask_4 rfl (by decide) rfl ?_
  refine x_iconst (v := (-1 : Int32)) C dX10_ask_5 (by decide) ?_
  refine x_istore_n C [(2, .int (-1 : Int32)), (1, .int (0 : Int32)), (0, .ref (z + 134))] dX10_ask_6 rfl (by decide) rfl ?_
  refine x_iload_n C 1 dX10_ask_7 rfl rfl ?_
  refine x_callS C cl_X10_bits kmX10_172 (As := [.int (0 : Int32)]) (rest := []) (p_X10_bits_0 u) rfl rfl (Nat.le_of_ble_eq_true rfl) ⟨Nat.le_of_ble_eq_true rfl, Nat.le_of_ble_eq_true rfl⟩ ⟨Nat.le_of_ble_eq_true rfl, Nat.le_of_ble_eq_true rfl⟩ dX10_ask_8 ?_
  refine x_norm (st2 := [.int (0 : Int32)]) (kc2 := 0) (ks2 := 0) rfl rfl rfl rfl rfl ?_
  refine x_istore_n C [(3, .int (0 : Int32)), (2, .int (-1 : Int32)), (1, .int (0 : Int32)), (0, .ref (z + 134))] dX10_ask_11 rfl (by decide) rfl ?_
  refine x_iconst (v := (0 : Int32)) C dX10_ask_12 (by decide) ?_
  refine x_istore C [(4, .int (0 : Int32)), (3, .int (0 : Int32)), (2, .int (-1 : Int32)), (1, .int (0 : Int32)), (0, .ref (z + 134))] dX10_ask_13 (by decide) rfl ?_
  refine x_iload C 0 dX10_ask_15 rfl ?_
  refine x_aload_n C 4 dX10_ask_17 rfl rfl ?_
  refine gfX10_156 C dX10_ask_18 h134 rfl ?_
  refine x_icmp_ge_t C 65 dX10_ask_21 (by decide) (by decide) ?_
  refine x_iload_n C 2 dX10_ask_65 rfl rfl ?_
  exact x_iret C hr hlk (Nat.le_of_ble_eq_true rfl) (Nat.le_of_ble_eq_true rfl) dX10_ask_66 rfl rfl rfl
set_option maxRecDepth 20000 in
theorem p_X9_write_0 {G : GT} {l : Launch} {z n : Nat} (u : HpT) (va : Int32) (hl_va : -2147483648 ≤ va.toInt) (hh_va : va.toInt ≤ -1) (vb : Int32) (hl_vb : -2147483648 ≤ vb.toInt) (hh_vb : vb.toInt ≤ 2147483647) (h0 : u 0 = some (.inr (8, [.ref (z + 1), .ref (z + 3), .ref (z + 6), .ref (z + 98), .ref (z + 99), .ref (z + 101), .ref (z + 106), .ref (z + 109), .ref (z + 112), .ref (z + 119), .int (0 : Int32), .int (-1 : Int32)]))) (h112 : u 112 = some (.inr (0, [.int (0 : Int32), .int (0 : Int32), .int (0 : Int32), .int (0 : Int32), .ref (z + 113), .ref (z + 114), .ref (z + 115), .ref (z + 116), .ref (z + 117), .ref (z + 118)]))) : Mt G l z yX9_write cX9_write 3 (some .int) { frames := 1, cells := 0, slots := 0, locals := 21 } [.ref (z + 0), .int va, .int vb] u n (some (.int (-1000000001 : Int32))) u n := by
  refine mt_of (by decide +kernel) (Nat.le_of_ble_eq_true rfl) ?_
  intro p e s m below meth c C hr hlk hnm
  refine x_aload_n C 0 dX9_write_0 rfl rfl ?_
  refine gfX9_65 C dX9_write_1 h0 rfl ?_
  refine x_iload_n C 1 dX9_write_4 rfl rfl ?_
  refine x_callV C cl_X1_hasTraveller kmX9_193 (ci := 0) (b := 112) (As := [.int va]) (rest := []) rfl h112 (p_X1_hasTraveller_0 u va hl_va hh_va) rfl rfl (Nat.le_of_ble_eq_true rfl) ⟨Nat.le_of_ble_eq_true rfl, Nat.le_of_ble_eq_true rfl⟩ ⟨Nat.le_of_ble_eq_true rfl, Nat.le_of_ble_eq_true rfl⟩ dX9_write_5 ?_
  refine x_norm (st2 := [.int (0 : Int32)]) (kc2 := 0) (ks2 := 0) rfl rfl rfl rfl rfl ?_
  refine x_if_ne_f C 14 dX9_write_8 (by decide) (by decide) ?_
  refine x_ldc C kcX9_179 dX9_write_11 ?_
  exact x_iret C hr hlk (Nat.le_of_ble_eq_true rfl) (Nat.le_of_ble_eq_true rfl) dX9_write_13 rfl rfl rfl
set_option maxRecDepth 20000 in
theorem p_X10_write_0 {G : GT} {l : Launch} {z n : Nat} (u : HpT) (va : Int32) (hl_va : -2147483648 ≤ va.toInt) (hh_va : va.toInt ≤ -1) (vb : Int32) (hl_vb : -2147483648 ≤ vb.toInt) (hh_vb : vb.toInt ≤ 2147483647) (h134 : u 134 = some (.inr (9, [.int (0 : Int32), .ref (z + 135), .int (0 : Int32), .int (0 : Int32), .int (0 : Int32), .int (-1 : Int32), .int (0 : Int32), .int (0 : Int32), .int (0 : Int32), .int (0 : Int32), .ref (z + 136), .ref (z + 137), .ref (z + 138), .ref (z + 139), .ref (z + 140), .int (0 : Int32), .int (0 : Int32), .int (0 : Int32), .int (0 : Int32), .ref (z + 141), .ref (z + 142), .ref (z + 143), .ref (z + 144), .ref (z + 145), .ref (z + 146), .int (0 : Int32), .int (0 : Int32), .ref (z + 147), .long (0 : Int64), .ref (z + 148), .int (0 : Int32), .int (0 : Int32), .int (0 : Int32), .ref (z + 149), .int (0 : Int32), .ref (z + 150), .ref (z + 151), .int (0 : Int32), .ref (z + 152), .ref (z + 153), .ref (z + 154), .ref (z + 155), .ref (z + 156)]))) : Mt G l z yX10_write cX10_write 3 (some .int) { frames := 2, cells := 0, slots := 0, locals := 43 } [.ref (z + 134), .int va, .int vb] u n (some (.int (-1000000001 : Int32))) u n := by
  refine mt_of (by decide +kernel) (Nat.le_of_ble_eq_true rfl) ?_
  intro p e s m below meth c C hr hlk hnm
  refine x_aload_n C 0 dX10_write_0 rfl rfl ?_
  refine x_iload_n C 1 dX10_write_1 rfl rfl ?_
  refine x_callV C cl_X10_isTraveller kmX10_203 (ci := 9) (b := 134) (As := [.int va]) (rest := []) rfl h134 (p_X10_isTraveller_0 u va hl_va hh_va h134) rfl rfl (Nat.le_of_ble_eq_true rfl) ⟨Nat.le_of_ble_eq_true rfl, Nat.le_of_ble_eq_true rfl⟩ ⟨Nat.le_of_ble_eq_true rfl, Nat.le_of_ble_eq_true rfl⟩ dX10_write_2 ?_
  refine x_norm (st2 := [.int (0 : Int32)]) (kc2 := 0) (ks2 := 0) rfl rfl rfl rfl rfl ?_
  refine x_if_ne_f C 11 dX10_write_5 (by decide) (by decide) ?_
  refine x_ldc C kcX10_193 dX10_write_8 ?_
  exact x_iret C hr hlk (Nat.le_of_ble_eq_true rfl) (Nat.le_of_ble_eq_true rfl) dX10_write_10 rfl rfl rfl
set_option maxRecDepth 20000 in
theorem p_X9_write_1 {G : GT} {l : Launch} {z n : Nat} (u : HpT) (va : Int32) (hl_va : 0 ≤ va.toInt) (hh_va : va.toInt ≤ 2147483647) (vb : Int32) (hl_vb : -2147483648 ≤ vb.toInt) (hh_vb : vb.toInt ≤ 2147483647) (h0 : u 0 = some (.inr (8, [.ref (z + 1), .ref (z + 3), .ref (z + 6), .ref (z + 98), .ref (z + 99), .ref (z + 101), .ref (z + 106), .ref (z + 109), .ref (z + 112), .ref (z + 119), .int (0 : Int32), .int (-1 : Int32)]))) (h112 : u 112 = some (.inr (0, [.int (0 : Int32), .int (0 : Int32), .int (0 : Int32), .int (0 : Int32), .ref (z + 113), .ref (z + 114), .ref (z + 115), .ref (z + 116), .ref (z + 117), .ref (z + 118)]))) : Mt G l z yX9_write cX9_write 3 (some .int) { frames := 1, cells := 0, slots := 0, locals := 21 } [.ref (z + 0), .int va, .int vb] u n (some (.int (-1000000001 : Int32))) u n := by
  refine mt_of (by decide +kernel) (Nat.le_of_ble_eq_true rfl) ?_
  intro p e s m below meth c C hr hlk hnm
  refine x_aload_n C 0 dX9_write_0 rfl rfl ?_
  refine gfX9_65 C dX9_write_1 h0 rfl ?_
  refine x_iload_n C 1 dX9_write_4 rfl rfl ?_
  refine x_callV C cl_X1_hasTraveller kmX9_193 (ci := 0) (b := 112) (As := [.int va]) (rest := []) rfl h112 (p_X1_hasTraveller_1 u va hl_va hh_va h112) rfl rfl (Nat.le_of_ble_eq_true rfl) ⟨Nat.le_of_ble_eq_true rfl, Nat.le_of_ble_eq_true rfl⟩ ⟨Nat.le_of_ble_eq_true rfl, Nat.le_of_ble_eq_true rfl⟩ dX9_write_5 ?_
  refine x_norm (st2 := [.int (0 : Int32)]) (kc2 := 0) (ks2 := 0) rfl rfl rfl rfl rfl ?_
  refine x_if_ne_f C 14 dX9_write_8 (by decide) (by decide) ?_
  refine x_ldc C kcX9_179 dX9_write_11 ?_
  exact x_iret C hr hlk (Nat.le_of_ble_eq_true rfl) (Nat.le_of_ble_eq_true rfl) dX9_write_13 rfl rfl rfl
set_option maxRecDepth 20000 in
theorem p_X10_write_1 {G : GT} {l : Launch} {z n : Nat} (u : HpT) (va : Int32) (hl_va : 0 ≤ va.toInt) (hh_va : va.toInt ≤ 2147483647) (vb : Int32) (hl_vb : -2147483648 ≤ vb.toInt) (hh_vb : vb.toInt ≤ 2147483647) (h134 : u 134 = some (.inr (9, [.int (0 : Int32), .ref (z + 135), .int (0 : Int32), .int (0 : Int32), .int (0 : Int32), .int (-1 : Int32), .int (0 : Int32), .int (0 : Int32), .int (0 : Int32), .int (0 : Int32), .ref (z + 136), .ref (z + 137), .ref (z + 138), .ref (z + 139), .ref (z + 140), .int (0 : Int32), .int (0 : Int32), .int (0 : Int32), .int (0 : Int32), .ref (z + 141), .ref (z + 142), .ref (z + 143), .ref (z + 144), .ref (z + 145), .ref (z + 146), .int (0 : Int32), .int (0 : Int32), .ref (z + 147), .long (0 : Int64), .ref (z + 148), .int (0 : Int32), .int (0 : Int32), .int (0 : Int32), .ref (z + 149), .int (0 : Int32), .ref (z + 150), .ref (z + 151), .int (0 : Int32), .ref (z + 152), .ref (z + 153), .ref (z + 154), .ref (z + 155), .ref (z + 156)]))) : Mt G l z yX10_write cX10_write 3 (some .int) { frames := 2, cells := 0, slots := 0, locals := 43 } [.ref (z + 134), .int va, .int vb] u n (some (.int (-1000000001 : Int32))) u n := by
  refine mt_of (by decide +kernel) (Nat.le_of_ble_eq_true rfl) ?_
  intro p e s m below meth c C hr hlk hnm
  refine x_aload_n C 0 dX10_write_0 rfl rfl ?_
  refine x_iload_n C 1 dX10_write_1 rfl rfl ?_
  refine x_callV C cl_X10_isTraveller kmX10_203 (ci := 9) (b := 134) (As := [.int va]) (rest := []) rfl h134 (p_X10_isTraveller_1 u va hl_va hh_va h134) rfl rfl (Nat.le_of_ble_eq_true rfl) ⟨Nat.le_of_ble_eq_true rfl, Nat.le_of_ble_eq_true rfl⟩ ⟨Nat.le_of_ble_eq_true rfl, Nat.le_of_ble_eq_true rfl⟩ dX10_write_2 ?_
  refine x_norm (st2 := [.int (0 : Int32)]) (kc2 := 0) (ks2 := 0) rfl rfl rfl rfl rfl ?_
  refine x_if_ne_f C 11 dX10_write_5 (by decide) (by decide) ?_
  refine x_ldc C kcX10_193 dX10_write_8 ?_
  exact x_iret C hr hlk (Nat.le_of_ble_eq_true rfl) (Nat.le_of_ble_eq_true rfl) dX10_write_10 rfl rfl rfl
set_option maxRecDepth 20000 in
theorem p_X2_firstWrong_0 {G : GT} {l : Launch} {z n : Nat} (u : HpT) (h109 : u 109 = some (.inr (1, [.ref (z + 110), .ref (z + 111), .int (0 : Int32)]))) : Mt G l z yX2_firstWrong cX2_firstWrong 4 (some .int) { frames := 0, cells := 0, slots := 0, locals := 0 } [.ref (z + 109), .ref (z + 5)] u n (some (.int (-1 : Int32))) u n := by
  refine mt_of (by decide +kernel) (Nat.le_of_ble_eq_true rfl) ?_
  intro p e s m below meth c C hr hlk hnm
  refine x_iconst (v := (0 : Int32)) C dX2_firstWrong_0 (by decide) ?_
  refine x_istore_n C [(2, .int (0 : Int32)), (0, .ref (z + 109)), (1, .ref (z + 5))] dX2_firstWrong_1 rfl (by decide) rfl ?_
  refine x_iload_n C 0 dX2_firstWrong_2 rfl rfl ?_
  refine x_aload_n C 1 dX2_firstWrong_3 rfl rfl ?_
  refine gfX2_9 C dX2_firstWrong_4 h109 rfl ?_
  refine x_icmp_ge_t C 47 dX2_firstWrong_7 (by decide) (by decide) ?_
  refine x_iconst (v := (-1 : Int32)) C dX2_firstWrong_47 (by decide) ?_
  exact x_iret C hr hlk (Nat.le_of_ble_eq_true rfl) (Nat.le_of_ble_eq_true rfl) dX2_firstWrong_48 rfl rfl rfl
set_option maxRecDepth 20000 in
theorem p_X9_judge_0 {G : GT} {l : Launch} {z n : Nat} (u : HpT) (h0 : u 0 = some (.inr (8, [.ref (z + 1), .ref (z + 3), .ref (z + 6), .ref (z + 98), .ref (z + 99), .ref (z + 101), .ref (z + 106), .ref (z + 109), .ref (z + 112), .ref (z + 119), .int (0 : Int32), .int (-1 : Int32)]))) (h3 : u 3 = some (.inr (2, [.int (0 : Int32), .int (0 : Int32), .int (0 : Int32), .int (0 : Int32), .int (-1 : Int32), .int (0 : Int32), .int (-1 : Int32), .int (0 : Int32), .int (0 : Int32), .int (0 : Int32), .ref (z + 4), .ref (z + 5)]))) (h109 : u 109 = some (.inr (1, [.ref (z + 110), .ref (z + 111), .int (0 : Int32)]))) : Mt G l z yX9_judge cX9_judge 1 (some .int) { frames := 1, cells := 0, slots := 0, locals := 23 } [.ref (z + 0)] u n (some (.int (-1 : Int32))) u n := by
  refine mt_of (by decide +kernel) (Nat.le_of_ble_eq_true rfl) ?_
  intro p e s m below meth c C hr hlk hnm
  refine x_aload_n C 0 dX9_judge_0 rfl rfl ?_
  refine gfX9_59 C dX9_judge_1 h0 rfl ?_
  refine x_aload_n C 0 dX9_judge_4 rfl rfl ?_
  refine gfX9_19 C dX9_judge_5 h0 rfl ?_
  refine gfX9_205 C dX9_judge_8 h3 rfl ?_
  refine x_callV C cl_X2_firstWrong kmX9_323 (ci := 1) (b := 109) (As := [.ref (z + 5)]) (rest := []) rfl h109 (p_X2_firstWrong_0 u h109) rfl rfl (Nat.le_of_ble_eq_true rfl) ⟨Nat.le_of_ble_eq_true rfl, Nat.le_of_ble_eq_true rfl⟩ ⟨Nat.le_of_ble_eq_true rfl, Nat.le_of_ble_eq_true rfl⟩ dX9_judge_11 ?_
  refine x_norm (st2 := [.int (-1 : Int32)]) (kc2 := 0) (ks2 := 0) rfl rfl rfl rfl rfl ?_
  exact x_iret C hr hlk (Nat.le_of_ble_eq_true rfl) (Nat.le_of_ble_eq_true rfl) dX9_judge_14 rfl rfl rfl
set_option maxRecDepth 20000 in
theorem p_X10_judge_0 {G : GT} {l : Launch} {z n : Nat} (u : HpT) (h134 : u 134 = some (.inr (9, [.int (0 : Int32), .ref (z + 135), .int (0 : Int32), .int (0 : Int32), .int (0 : Int32), .int (-1 : Int32), .int (0 : Int32), .int (0 : Int32), .int (0 : Int32), .int (0 : Int32), .ref (z + 136), .ref (z + 137), .ref (z + 138), .ref (z + 139), .ref (z + 140), .int (0 : Int32), .int (0 : Int32), .int (0 : Int32), .int (0 : Int32), .ref (z + 141), .ref (z + 142), .ref (z + 143), .ref (z + 144), .ref (z + 145), .ref (z + 146), .int (0 : Int32), .int (0 : Int32), .ref (z + 147), .long (0 : Int64), .ref (z + 148), .int (0 : Int32), .int (0 : Int32), .int (0 : Int32), .ref (z + 149), .int (0 : Int32), .ref (z + 150), .ref (z + 151), .int (0 : Int32), .ref (z + 152), .ref (z + 153), .ref (z + 154), .ref (z + 155), .ref (z + 156)]))) : Mt G l z yX10_judge cX10_judge 2 (some .int) { frames := 0, cells := 0, slots := 0, locals := 0 } [.ref (z + 134)] u n (some (.int (-1 : Int32))) u n := by
  refine mt_of (by decide +kernel) (Nat.le_of_ble_eq_true rfl) ?_
  intro p e s m below meth c C hr hlk hnm
  refine x_iconst (v := (0 : Int32)) C dX10_judge_0 (by decide) ?_
  refine x_istore_n C [(1, .int (0 : Int32)), (0, .ref (z + 134))] dX10_judge_1 rfl (by decide) rfl ?_
  refine x_iload_n C 0 dX10_judge_2 rfl rfl ?_
  refine x_aload_n C 1 dX10_judge_3 rfl rfl ?_
  refine gfX10_165 C dX10_judge_4 h134 rfl ?_
  refine x_icmp_ge_t C 41 dX10_judge_7 (by decide) (by decide) ?_
  refine x_iconst (v := (-1 : Int32)) C dX10_judge_41 (by decide) ?_
  exact x_iret C hr hlk (Nat.le_of_ble_eq_true rfl) (Nat.le_of_ble_eq_true rfl) dX10_judge_42 rfl rfl rfl
set_option maxRecDepth 20000 in
theorem p_X9_tear_0 {G : GT} {l : Launch} {z n : Nat} (u : HpT) (h0 : u 0 = some (.inr (8, [.ref (z + 1), .ref (z + 3), .ref (z + 6), .ref (z + 98), .ref (z + 99), .ref (z + 101), .ref (z + 106), .ref (z + 109), .ref (z + 112), .ref (z + 119), .int (0 : Int32), .int (-1 : Int32)]))) (h106 : u 106 = some (.inr (1, [.ref (z + 107), .ref (z + 108), .int (0 : Int32)]))) (h109 : u 109 = some (.inr (1, [.ref (z + 110), .ref (z + 111), .int (0 : Int32)]))) : Mt G l z yX9_tear cX9_tear 2 (some .int) { frames := 1, cells := 0, slots := 0, locals := 20 } [.ref (z + 0)] u n (some (.int (0 : Int32))) (hup (hup u 106 (.inr (1, [.ref (z + 107), .ref (z + 108), .int (0 : Int32)]))) 109 (.inr (1, [.ref (z + 110), .ref (z + 111), .int (0 : Int32)]))) n := by
  refine mt_of (by decide +kernel) (Nat.le_of_ble_eq_true rfl) ?_
  intro p e s m below meth c C hr hlk hnm
  refine x_aload_n C 0 dX9_tear_0 rfl rfl ?_
  refine gfX9_55 C dX9_tear_1 h0 rfl ?_
  refine gfX9_141 C dX9_tear_4 h106 rfl ?_
  refine x_aload_n C 0 dX9_tear_7 rfl rfl ?_
  refine gfX9_59 C dX9_tear_8 h0 rfl ?_
  refine gfX9_141 C dX9_tear_11 h109 rfl ?_
  refine x_iadd C dX9_tear_14 ?_
  refine x_eqi (w := (0 : Int32)) (by decide) ?_
  refine x_istore_n C [(1, .int (0 : Int32)), (0, .ref (z + 0))] dX9_tear_15 rfl (by decide) rfl ?_
  refine x_aload_n C 1 dX9_tear_16 rfl rfl ?_
  refine gfX9_55 C dX9_tear_17 h0 rfl ?_
  refine x_callV C cl_X2_forget kmX9_112 (ci := 1) (b := 106) (As := []) (rest := []) rfl h106 (p_X2_forget_0 u h106) rfl rfl (Nat.le_of_ble_eq_true rfl) ⟨Nat.le_of_ble_eq_true rfl, Nat.le_of_ble_eq_true rfl⟩ ⟨Nat.le_of_ble_eq_true rfl, Nat.le_of_ble_eq_true rfl⟩ dX9_tear_20 ?_
  obtain ⟨u1, eu1⟩ : ∃ w : HpT, w = (hup u 106 (.inr (1, [.ref (z + 107), .ref (z + 108), .int (0 : Int32)]))) := ⟨_, rfl⟩
  refine x_norm (st2 := []) (kc2 := 0) (ks2 := 0) rfl rfl rfl rfl eu1.symm ?_
  refine x_aload_n C 1 dX9_tear_23 rfl rfl ?_
  have k0_1 := (congrFun eu1 0).trans (hup_n' (by decide) (h0))
  refine gfX9_59 C dX9_tear_24 k0_1 rfl ?_
  have k109_1 := (congrFun eu1 109).trans (hup_n' (by decide) (h109))
  refine x_callV C cl_X2_forget kmX9_112 (ci := 1) (b := 109) (As := []) (rest := []) rfl k109_1 (p_X2_forget_1 u1 k109_1) rfl rfl (Nat.le_of_ble_eq_true rfl) ⟨Nat.le_of_ble_eq_true rfl, Nat.le_of_ble_eq_true rfl⟩ ⟨Nat.le_of_ble_eq_true rfl, Nat.le_of_ble_eq_true rfl⟩ dX9_tear_27 ?_
  obtain ⟨u2, eu2⟩ : ∃ w : HpT, w = (hup u1 109 (.inr (1, [.ref (z + 110), .ref (z + 111), .int (0 : Int32)]))) := ⟨_, rfl⟩
  refine x_norm (st2 := []) (kc2 := 0) (ks2 := 0) rfl rfl rfl rfl eu2.symm ?_
  refine x_iload_n C 0 dX9_tear_30 rfl rfl ?_
  exact x_iret C hr hlk (Nat.le_of_ble_eq_true rfl) (Nat.le_of_ble_eq_true rfl) dX9_tear_31 rfl (by rw [eu2, eu1]) rfl
set_option maxRecDepth 20000 in
theorem p_X10_tear_0 {G : GT} {l : Launch} {z n : Nat} (u : HpT) (h134 : u 134 = some (.inr (9, [.int (0 : Int32), .ref (z + 135), .int (0 : Int32), .int (0 : Int32), .int (0 : Int32), .int (-1 : Int32), .int (0 : Int32), .int (0 : Int32), .int (0 : Int32), .int (0 : Int32), .ref (z + 136), .ref (z + 137), .ref (z + 138), .ref (z + 139), .ref (z + 140), .int (0 : Int32), .int (0 : Int32), .int (0 : Int32), .int (0 : Int32), .ref (z + 141), .ref (z + 142), .ref (z + 143), .ref (z + 144), .ref (z + 145), .ref (z + 146), .int (0 : Int32), .int (0 : Int32), .ref (z + 147), .long (0 : Int64), .ref (z + 148), .int (0 : Int32), .int (0 : Int32), .int (0 : Int32), .ref (z + 149), .int (0 : Int32), .ref (z + 150), .ref (z + 151), .int (0 : Int32), .ref (z + 152), .ref (z + 153), .ref (z + 154), .ref (z + 155), .ref (z + 156)]))) : Mt G l z yX10_tear cX10_tear 2 (some .int) { frames := 0, cells := 0, slots := 0, locals := 0 } [.ref (z + 134)] u n (some (.int (0 : Int32))) (hup u 134 (.inr (9, [.int (0 : Int32), .ref (z + 135), .int (0 : Int32), .int (0 : Int32), .int (0 : Int32), .int (-1 : Int32), .int (0 : Int32), .int (0 : Int32), .int (0 : Int32), .int (0 : Int32), .ref (z + 136), .ref (z + 137), .ref (z + 138), .ref (z + 139), .ref (z + 140), .int (0 : Int32), .int (0 : Int32), .int (0 : Int32), .int (0 : Int32), .ref (z + 141), .ref (z + 142), .ref (z + 143), .ref (z + 144), .ref (z + 145), .ref (z + 146), .int (0 : Int32), .int (0 : Int32), .ref (z + 147), .long (0 : Int64), .ref (z + 148), .int (0 : Int32), .int (0 : Int32), .int (0 : Int32), .ref (z + 149), .int (0 : Int32), .ref (z + 150), .ref (z + 151), .int (0 : Int32), .ref (z + 152), .ref (z + 153), .ref (z + 154), .ref (z + 155), .ref (z + 156)]))) n := by
  refine mt_of (by decide +kernel) (Nat.le_of_ble_eq_true rfl) ?_
  intro p e s m below meth c C hr hlk hnm
  refine x_aload_n C 0 dX10_tear_0 rfl rfl ?_
  refine gfX10_162 C dX10_tear_1 h134 rfl ?_
  refine x_aload_n C 0 dX10_tear_4 rfl rfl ?_
  refine gfX10_165 C dX10_tear_5 h134 rfl ?_
  refine x_iadd C dX10_tear_8 ?_
  refine x_eqi (w := (0 : Int32)) (by decide) ?_
  refine x_istore_n C [(1, .int (0 : Int32)), (0, .ref (z + 134))] dX10_tear_9 rfl (by decide) rfl ?_
  refine x_aload_n C 1 dX10_tear_10 rfl rfl ?_
  refine x_iconst (v := (0 : Int32)) C dX10_tear_11 (by decide) ?_
  obtain ⟨u1, eu1⟩ : ∃ w : HpT, w = (hup u 134 (.inr (9, [.int (0 : Int32), .ref (z + 135), .int (0 : Int32), .int (0 : Int32), .int (0 : Int32), .int (-1 : Int32), .int (0 : Int32), .int (0 : Int32), .int (0 : Int32), .int (0 : Int32), .ref (z + 136), .ref (z + 137), .ref (z + 138), .ref (z + 139), .ref (z + 140), .int (0 : Int32), .int (0 : Int32), .int (0 : Int32), .int (0 : Int32), .ref (z + 141), .ref (z + 142), .ref (z + 143), .ref (z + 144), .ref (z + 145), .ref (z + 146), .int (0 : Int32), .int (0 : Int32), .ref (z + 147), .long (0 : Int64), .ref (z + 148), .int (0 : Int32), .int (0 : Int32), .int (0 : Int32), .ref (z + 149), .int (0 : Int32), .ref (z + 150), .ref (z + 151), .int (0 : Int32), .ref (z + 152), .ref (z + 153), .ref (z + 154), .ref (z + 155), .ref (z + 156)]))) := ⟨_, rfl⟩
  refine pfX10_162 C dX10_tear_12 h134 (Nat.le_of_ble_eq_true rfl) rfl eu1.symm ?_
  refine x_aload_n C 1 dX10_tear_15 rfl rfl ?_
  refine x_iconst (v := (0 : Int32)) C dX10_tear_16 (by decide) ?_
  have k134_1 := (congrFun eu1 134).trans (hup_s _ _ _)
  obtain ⟨u2, eu2⟩ : ∃ w : HpT, w = (hup u1 134 (.inr (9, [.int (0 : Int32), .ref (z + 135), .int (0 : Int32), .int (0 : Int32), .int (0 : Int32), .int (-1 : Int32), .int (0 : Int32), .int (0 : Int32), .int (0 : Int32), .int (0 : Int32), .ref (z + 136), .ref (z + 137), .ref (z + 138), .ref (z + 139), .ref (z + 140), .int (0 : Int32), .int (0 : Int32), .int (0 : Int32), .int (0 : Int32), .ref (z + 141), .ref (z + 142), .ref (z + 143), .ref (z + 144), .ref (z + 145), .ref (z + 146), .int (0 : Int32), .int (0 : Int32), .ref (z + 147), .long (0 : Int64), .ref (z + 148), .int (0 : Int32), .int (0 : Int32), .int (0 : Int32), .ref (z + 149), .int (0 : Int32), .ref (z + 150), .ref (z + 151), .int (0 : Int32), .ref (z + 152), .ref (z + 153), .ref (z + 154), .ref (z + 155), .ref (z + 156)]))) := ⟨_, rfl⟩
  refine pfX10_165 C dX10_tear_17 k134_1 (Nat.le_of_ble_eq_true rfl) rfl eu2.symm ?_
  refine x_iload_n C 0 dX10_tear_20 rfl rfl ?_
  exact x_iret C hr hlk (Nat.le_of_ble_eq_true rfl) (Nat.le_of_ble_eq_true rfl) dX10_tear_21 rfl (by rw [eu2, eu1]; simp only [hup_hup, hup_sk, ne_eq, Nat.reduceEqDiff, not_false_eq_true]) rfl
set_option maxRecDepth 20000 in
theorem p_X9_seed_0 {G : GT} {l : Launch} {z n : Nat} (u : HpT) (va : Int32) (hl_va : -2147483648 ≤ va.toInt) (hh_va : va.toInt ≤ -1) : Mt G l z yX9_seed cX9_seed 3 (some .int) { frames := 0, cells := 0, slots := 0, locals := 0 } [.ref (z + 0), .int va] u n (some (.int (-1000000002 : Int32))) u n := by
  refine mt_of (by decide +kernel) (Nat.le_of_ble_eq_true rfl) ?_
  intro p e s m below meth c C hr hlk hnm
  refine x_iload_n C 1 dX9_seed_0 rfl rfl ?_
  refine x_if_ge_f C 7 dX9_seed_1 (by decide) (by simp only [Int32.lt_iff_toInt_lt, Int32.le_iff_toInt_le, i_eq_iff]; have e9 : (0 : Int32).toInt = 0 := (by decide); omega) ?_
  refine x_ldc C kcX9_80 dX9_seed_4 ?_
  exact x_iret C hr hlk (Nat.le_of_ble_eq_true rfl) (Nat.le_of_ble_eq_true rfl) dX9_seed_6 rfl rfl rfl
set_option maxRecDepth 20000 in
theorem p_X10_seed_0 {G : GT} {l : Launch} {z n : Nat} (u : HpT) (va : Int32) (hl_va : -2147483648 ≤ va.toInt) (hh_va : va.toInt ≤ -1) : Mt G l z yX10_seed cX10_seed 3 (some .int) { frames := 0, cells := 0, slots := 0, locals := 0 } [.ref (z + 134), .int va] u n (some (.int (-1000000002 : Int32))) u n := by
  refine mt_of (by decide +kernel) (Nat.le_of_ble_eq_true rfl) ?_
  intro p e s m below meth c C hr hlk hnm
  refine x_iload_n C 1 dX10_seed_0 rfl rfl ?_
  refine x_if_ge_f C 7 dX10_seed_1 (by decide) (by simp only [Int32.lt_iff_toInt_lt, Int32.le_iff_toInt_le, i_eq_iff]; have e9 : (0 : Int32).toInt = 0 := (by decide); omega) ?_
  refine x_ldc C kcX10_86 dX10_seed_4 ?_
  exact x_iret C hr hlk (Nat.le_of_ble_eq_true rfl) (Nat.le_of_ble_eq_true rfl) dX10_seed_6 rfl rfl rfl
set_option maxRecDepth 20000 in
theorem p_X9_seed_1 {G : GT} {l : Launch} {z n : Nat} (u : HpT) (va : Int32) (hl_va : 0 ≤ va.toInt) (hh_va : va.toInt ≤ 2147483647) (h0 : u 0 = some (.inr (8, [.ref (z + 1), .ref (z + 3), .ref (z + 6), .ref (z + 98), .ref (z + 99), .ref (z + 101), .ref (z + 106), .ref (z + 109), .ref (z + 112), .ref (z + 119), .int (0 : Int32), .int (-1 : Int32)]))) : Mt G l z yX9_seed cX9_seed 3 (some .int) { frames := 0, cells := 0, slots := 0, locals := 0 } [.ref (z + 0), .int va] u n (some (.int (0 : Int32))) (hup u 0 (.inr (8, [.ref (z + 1), .ref (z + 3), .ref (z + 6), .ref (z + 98), .ref (z + 99), .ref (z + 101), .ref (z + 106), .ref (z + 109), .ref (z + 112), .ref (z + 119), .int va, .int (-1 : Int32)]))) n := by
  refine mt_of (by decide +kernel) (Nat.le_of_ble_eq_true rfl) ?_
  intro p e s m below meth c C hr hlk hnm
  refine x_iload_n C 1 dX9_seed_0 rfl rfl ?_
  refine x_if_ge_t C 7 dX9_seed_1 (by decide) (by simp only [Int32.lt_iff_toInt_lt, Int32.le_iff_toInt_le, i_eq_iff]; have e9 : (0 : Int32).toInt = 0 := (by decide); omega) ?_
  refine x_aload_n C 0 dX9_seed_7 rfl rfl ?_
  refine gfX9_72 C dX9_seed_8 h0 rfl ?_
  refine x_istore_n C [(2, .int (0 : Int32)), (0, .ref (z + 0)), (1, .int va)] dX9_seed_11 rfl (by decide) rfl ?_
  refine x_aload_n C 1 dX9_seed_12 rfl rfl ?_
  refine x_iload_n C 2 dX9_seed_13 rfl rfl ?_
  obtain ⟨u1, eu1⟩ : ∃ w : HpT, w = (hup u 0 (.inr (8, [.ref (z + 1), .ref (z + 3), .ref (z + 6), .ref (z + 98), .ref (z + 99), .ref (z + 101), .ref (z + 106), .ref (z + 109), .ref (z + 112), .ref (z + 119), .int va, .int (-1 : Int32)]))) := ⟨_, rfl⟩
  refine pfX9_72 C dX9_seed_14 h0 (Nat.le_of_ble_eq_true rfl) rfl eu1.symm ?_
  refine x_iload_n C 0 dX9_seed_17 rfl rfl ?_
  exact x_iret C hr hlk (Nat.le_of_ble_eq_true rfl) (Nat.le_of_ble_eq_true rfl) dX9_seed_18 rfl (by rw [eu1]) rfl
set_option maxRecDepth 20000 in
theorem p_X10_seed_1 {G : GT} {l : Launch} {z n : Nat} (u : HpT) (va : Int32) (hl_va : 0 ≤ va.toInt) (hh_va : va.toInt ≤ 2147483647) (h134 : u 134 = some (.inr (9, [.int (0 : Int32), .ref (z + 135), .int (0 : Int32), .int (0 : Int32), .int (0 : Int32), .int (-1 : Int32), .int (0 : Int32), .int (0 : Int32), .int (0 : Int32), .int (0 : Int32), .ref (z + 136), .ref (z + 137), .ref (z + 138), .ref (z + 139), .ref (z + 140), .int (0 : Int32), .int (0 : Int32), .int (0 : Int32), .int (0 : Int32), .ref (z + 141), .ref (z + 142), .ref (z + 143), .ref (z + 144), .ref (z + 145), .ref (z + 146), .int (0 : Int32), .int (0 : Int32), .ref (z + 147), .long (0 : Int64), .ref (z + 148), .int (0 : Int32), .int (0 : Int32), .int (0 : Int32), .ref (z + 149), .int (0 : Int32), .ref (z + 150), .ref (z + 151), .int (0 : Int32), .ref (z + 152), .ref (z + 153), .ref (z + 154), .ref (z + 155), .ref (z + 156)]))) : Mt G l z yX10_seed cX10_seed 3 (some .int) { frames := 0, cells := 0, slots := 0, locals := 0 } [.ref (z + 134), .int va] u n (some (.int (0 : Int32))) (hup u 134 (.inr (9, [.int (0 : Int32), .ref (z + 135), .int (0 : Int32), .int (0 : Int32), .int (0 : Int32), .int (-1 : Int32), .int (0 : Int32), .int (0 : Int32), .int (0 : Int32), .int (0 : Int32), .ref (z + 136), .ref (z + 137), .ref (z + 138), .ref (z + 139), .ref (z + 140), .int (0 : Int32), .int (0 : Int32), .int (0 : Int32), .int (0 : Int32), .ref (z + 141), .ref (z + 142), .ref (z + 143), .ref (z + 144), .ref (z + 145), .ref (z + 146), .int (0 : Int32), .int (0 : Int32), .ref (z + 147), .long (va).toInt64, .ref (z + 148), .int (0 : Int32), .int (0 : Int32), .int (0 : Int32), .ref (z + 149), .int (0 : Int32), .ref (z + 150), .ref (z + 151), .int (0 : Int32), .ref (z + 152), .ref (z + 153), .ref (z + 154), .ref (z + 155), .ref (z + 156)]))) n := by
  refine mt_of (by decide +kernel) (Nat.le_of_ble_eq_true rfl) ?_
  intro p e s m below meth c C hr hlk hnm
  refine x_iload_n C 1 dX10_seed_0 rfl rfl ?_
  refine x_if_ge_t C 7 dX10_seed_1 (by decide) (by simp only [Int32.lt_iff_toInt_lt, Int32.le_iff_toInt_le, i_eq_iff]; have e9 : (0 : Int32).toInt = 0 := (by decide); omega) ?_
  refine x_aload_n C 0 dX10_seed_7 rfl rfl ?_
  refine gfX10_243 C dX10_seed_8 h134 rfl ?_
  refine x_l2i C dX10_seed_11 ?_
  refine x_eqi (w := (0 : Int32)) (by decide) ?_
  refine x_istore_n C [(2, .int (0 : Int32)), (0, .ref (z + 134)), (1, .int va)] dX10_seed_12 rfl (by decide) rfl ?_
  refine x_aload_n C 1 dX10_seed_13 rfl rfl ?_
  refine x_iload_n C 2 dX10_seed_14 rfl rfl ?_
  refine x_i2l C dX10_seed_15 ?_
  obtain ⟨u1, eu1⟩ : ∃ w : HpT, w = (hup u 134 (.inr (9, [.int (0 : Int32), .ref (z + 135), .int (0 : Int32), .int (0 : Int32), .int (0 : Int32), .int (-1 : Int32), .int (0 : Int32), .int (0 : Int32), .int (0 : Int32), .int (0 : Int32), .ref (z + 136), .ref (z + 137), .ref (z + 138), .ref (z + 139), .ref (z + 140), .int (0 : Int32), .int (0 : Int32), .int (0 : Int32), .int (0 : Int32), .ref (z + 141), .ref (z + 142), .ref (z + 143), .ref (z + 144), .ref (z + 145), .ref (z + 146), .int (0 : Int32), .int (0 : Int32), .ref (z + 147), .long (va).toInt64, .ref (z + 148), .int (0 : Int32), .int (0 : Int32), .int (0 : Int32), .ref (z + 149), .int (0 : Int32), .ref (z + 150), .ref (z + 151), .int (0 : Int32), .ref (z + 152), .ref (z + 153), .ref (z + 154), .ref (z + 155), .ref (z + 156)]))) := ⟨_, rfl⟩
  refine pfX10_243 C dX10_seed_16 h134 (Nat.le_of_ble_eq_true rfl) rfl eu1.symm ?_
  refine x_iload_n C 0 dX10_seed_19 rfl rfl ?_
  exact x_iret C hr hlk (Nat.le_of_ble_eq_true rfl) (Nat.le_of_ble_eq_true rfl) dX10_seed_20 rfl (by rw [eu1]) rfl
set_option maxRecDepth 20000 in
theorem p_X9_keep_0 {G : GT} {l : Launch} {z n : Nat} (u : HpT) (va : Int32) (hl_va : -2147483648 ≤ va.toInt) (hh_va : va.toInt ≤ -1) : Mt G l z yX9_keep cX9_keep 3 (some .int) { frames := 0, cells := 0, slots := 0, locals := 0 } [.ref (z + 0), .int va] u n (some (.int (-1000000001 : Int32))) u n := by
  refine mt_of (by decide +kernel) (Nat.le_of_ble_eq_true rfl) ?_
  intro p e s m below meth c C hr hlk hnm
  refine x_iload_n C 1 dX9_keep_0 rfl rfl ?_
  refine x_if_lt_t C 13 dX9_keep_1 (by decide) (by simp only [Int32.lt_iff_toInt_lt, Int32.le_iff_toInt_le, i_eq_iff]; have e9 : (0 : Int32).toInt = 0 := (by decide); omega) ?_
  refine x_ldc C kcX9_179 dX9_keep_13 ?_
  exact x_iret C hr hlk (Nat.le_of_ble_eq_true rfl) (Nat.le_of_ble_eq_true rfl) dX9_keep_15 rfl rfl rfl
set_option maxRecDepth 20000 in
theorem p_X10_keep_0 {G : GT} {l : Launch} {z n : Nat} (u : HpT) (va : Int32) (hl_va : -2147483648 ≤ va.toInt) (hh_va : va.toInt ≤ -1) : Mt G l z yX10_keep cX10_keep 3 (some .int) { frames := 1, cells := 0, slots := 0, locals := 22 } [.ref (z + 134), .int va] u n (some (.int (-1000000001 : Int32))) u n := by
  refine mt_of (by decide +kernel) (Nat.le_of_ble_eq_true rfl) ?_
  intro p e s m below meth c C hr hlk hnm
  refine x_iload_n C 1 dX10_keep_0 rfl rfl ?_
  refine x_iconst (v := (0 : Int32)) C dX10_keep_1 (by decide) ?_
  refine x_iconst (v := (1 : Int32)) C dX10_keep_2 (by decide) ?_
  refine x_callS C cl_X10_in kmX10_82 (As := [.int va, .int (0 : Int32), .int (1 : Int32)]) (rest := []) (p_X10_in_11 u va hl_va hh_va) rfl rfl (Nat.le_of_ble_eq_true rfl) ⟨Nat.le_of_ble_eq_true rfl, Nat.le_of_ble_eq_true rfl⟩ ⟨Nat.le_of_ble_eq_true rfl, Nat.le_of_ble_eq_true rfl⟩ dX10_keep_3 ?_
  refine x_norm (st2 := [.int (0 : Int32)]) (kc2 := 0) (ks2 := 0) rfl rfl rfl rfl rfl ?_
  refine x_if_ne_f C 12 dX10_keep_6 (by decide) (by decide) ?_
  refine x_ldc C kcX10_193 dX10_keep_9 ?_
  exact x_iret C hr hlk (Nat.le_of_ble_eq_true rfl) (Nat.le_of_ble_eq_true rfl) dX10_keep_11 rfl rfl rfl
set_option maxRecDepth 20000 in
theorem p_X3_copyFrom_0 {G : GT} {l : Launch} {z n : Nat} (u : HpT) (h3 : u 3 = some (.inr (2, [.int (0 : Int32), .int (0 : Int32), .int (0 : Int32), .int (0 : Int32), .int (-1 : Int32), .int (0 : Int32), .int (-1 : Int32), .int (0 : Int32), .int (0 : Int32), .int (0 : Int32), .ref (z + 4), .ref (z + 5)]))) (h4 : u 4 = some (aI G 6 (fun _ => 0))) (h5 : u 5 = some (aI G 6 (fun _ => 0))) (h127 : u 127 = some (.inr (2, [.int (0 : Int32), .int (0 : Int32), .int (0 : Int32), .int (0 : Int32), .int (-1 : Int32), .int (0 : Int32), .int (-1 : Int32), .int (0 : Int32), .int (0 : Int32), .int (0 : Int32), .ref (z + 128), .ref (z + 129)]))) (h128 : u 128 = some (aI G 6 (fun _ => 0))) (h129 : u 129 = some (aI G 6 (fun _ => 0))) : Mt G l z yX3_copyFrom cX3_copyFrom 3 none { frames := 0, cells := 0, slots := 0, locals := 0 } [.ref (z + 127), .ref (z + 3)] u n none (hup (hup (hup u 127 (.inr (2, [.int (0 : Int32), .int (0 : Int32), .int (0 : Int32), .int (0 : Int32), .int (-1 : Int32), .int (0 : Int32), .int (-1 : Int32), .int (0 : Int32), .int (0 : Int32), .int (0 : Int32), .ref (z + 128), .ref (z + 129)]))) 128 (aI G 6 (upd (upd (upd (upd (upd (upd (fun _ => 0) 0 (0 : Int32)) 1 (0 : Int32)) 2 (0 : Int32)) 3 (0 : Int32)) 4 (0 : Int32)) 5 (0 : Int32)))) 129 (aI G 6 (upd (upd (upd (upd (upd (upd (fun _ => 0) 0 (0 : Int32)) 1 (0 : Int32)) 2 (0 : Int32)) 3 (0 : Int32)) 4 (0 : Int32)) 5 (0 : Int32)))) n := by
  refine mt_of (by decide +kernel) (Nat.le_of_ble_eq_true rfl) ?_
  intro p e s m below meth c C hr hlk hnm
  refine x_aload_n C 0 dX3_copyFrom_0 rfl rfl ?_
  refine x_aload_n C 1 dX3_copyFrom_1 rfl rfl ?_
  refine gfX3_9 C dX3_copyFrom_2 h3 rfl ?_
  obtain ⟨u1, eu1⟩ : ∃ w : HpT, w = (hup u 127 (.inr (2, [.int (0 : Int32), .int (0 : Int32), .int (0 : Int32), .int (0 : Int32), .int (-1 : Int32), .int (0 : Int32), .int (-1 : Int32), .int (0 : Int32), .int (0 : Int32), .int (0 : Int32), .ref (z + 128), .ref (z + 129)]))) := ⟨_, rfl⟩
  refine pfX3_9 C dX3_copyFrom_5 h127 (Nat.le_of_ble_eq_true rfl) rfl eu1.symm ?_
  refine x_aload_n C 0 dX3_copyFrom_8 rfl rfl ?_
  refine x_aload_n C 1 dX3_copyFrom_9 rfl rfl ?_
  have k3_1 := (congrFun eu1 3).trans (hup_n' (by decide) (h3))
  refine gfX3_15 C dX3_copyFrom_10 k3_1 rfl ?_
  have k127_1 := (congrFun eu1 127).trans (hup_s _ _ _)
  obtain ⟨u2, eu2⟩ : ∃ w : HpT, w = (hup u1 127 (.inr (2, [.int (0 : Int32), .int (0 : Int32), .int (0 : Int32), .int (0 : Int32), .int (-1 : Int32), .int (0 : Int32), .int (-1 : Int32), .int (0 : Int32), .int (0 : Int32), .int (0 : Int32), .ref (z + 128), .ref (z + 129)]))) := ⟨_, rfl⟩
  refine pfX3_15 C dX3_copyFrom_13 k127_1 (Nat.le_of_ble_eq_true rfl) rfl eu2.symm ?_
  refine x_aload_n C 0 dX3_copyFrom_16 rfl rfl ?_
  refine x_aload_n C 1 dX3_copyFrom_17 rfl rfl ?_
  have k3_2 := (congrFun eu2 3).trans (hup_n' (by decide) (k3_1))
  refine gfX3_18 C dX3_copyFrom_18 k3_2 rfl ?_
  have k127_2 := (congrFun eu2 127).trans (hup_s _ _ _)
  obtain ⟨u3, eu3⟩ : ∃ w : HpT, w = (hup u2 127 (.inr (2, [.int (0 : Int32), .int (0 : Int32), .int (0 : Int32), .int (0 : Int32), .int (-1 : Int32), .int (0 : Int32), .int (-1 : Int32), .int (0 : Int32), .int (0 : Int32), .int (0 : Int32), .ref (z + 128), .ref (z + 129)]))) := ⟨_, rfl⟩
  refine pfX3_18 C dX3_copyFrom_21 k127_2 (Nat.le_of_ble_eq_true rfl) rfl eu3.symm ?_
  refine x_aload_n C 0 dX3_copyFrom_24 rfl rfl ?_
  refine x_aload_n C 1 dX3_copyFrom_25 rfl rfl ?_
  have k3_3 := (congrFun eu3 3).trans (hup_n' (by decide) (k3_2))
  refine gfX3_21 C dX3_copyFrom_26 k3_3 rfl ?_
  have k127_3 := (congrFun eu3 127).trans (hup_s _ _ _)
  obtain ⟨u4, eu4⟩ : ∃ w : HpT, w = (hup u3 127 (.inr (2, [.int (0 : Int32), .int (0 : Int32), .int (0 : Int32), .int (0 : Int32), .int (-1 : Int32), .int (0 : Int32), .int (-1 : Int32), .int (0 : Int32), .int (0 : Int32), .int (0 : Int32), .ref (z + 128), .ref (z + 129)]))) := ⟨_, rfl⟩
  refine pfX3_21 C dX3_copyFrom_29 k127_3 (Nat.le_of_ble_eq_true rfl) rfl eu4.symm ?_
  refine x_aload_n C 0 dX3_copyFrom_32 rfl rfl ?_
  refine x_aload_n C 1 dX3_copyFrom_33 rfl rfl ?_
  have k3_4 := (congrFun eu4 3).trans (hup_n' (by decide) (k3_3))
  refine gfX3_24 C dX3_copyFrom_34 k3_4 rfl ?_
  have k127_4 := (congrFun eu4 127).trans (hup_s _ _ _)
  obtain ⟨u5, eu5⟩ : ∃ w : HpT, w = (hup u4 127 (.inr (2, [.int (0 : Int32), .int (0 : Int32), .int (0 : Int32), .int (0 : Int32), .int (-1 : Int32), .int (0 : Int32), .int (-1 : Int32), .int (0 : Int32), .int (0 : Int32), .int (0 : Int32), .ref (z + 128), .ref (z + 129)]))) := ⟨_, rfl⟩
  refine pfX3_24 C dX3_copyFrom_37 k127_4 (Nat.le_of_ble_eq_true rfl) rfl eu5.symm ?_
  refine x_aload_n C 0 dX3_copyFrom_40 rfl rfl ?_
  refine x_aload_n C 1 dX3_copyFrom_41 rfl rfl ?_
  have k3_5 := (congrFun eu5 3).trans (hup_n' (by decide) (k3_4))
  refine gfX3_27 C dX3_copyFrom_42 k3_5 rfl ?_
  have k127_5 := (congrFun eu5 127).trans (hup_s _ _ _)
  obtain ⟨u6, eu6⟩ : ∃ w : HpT, w = (hup u5 127 (.inr (2, [.int (0 : Int32), .int (0 : Int32), .int (0 : Int32), .int (0 : Int32), .int (-1 : Int32), .int (0 : Int32), .int (-1 : Int32), .int (0 : Int32), .int (0 : Int32), .int (0 : Int32), .ref (z + 128), .ref (z + 129)]))) := ⟨_, rfl⟩
  refine pfX3_27 C dX3_copyFrom_45 k127_5 (Nat.le_of_ble_eq_true rfl) rfl eu6.symm ?_
  refine x_aload_n C 0 dX3_copyFrom_48 rfl rfl ?_
  refine x_aload_n C 1 dX3_copyFrom_49 rfl rfl ?_
  have k3_6 := (congrFun eu6 3).trans (hup_n' (by decide) (k3_5))
  refine gfX3_30 C dX3_copyFrom_50 k3_6 rfl ?_
  have k127_6 := (congrFun eu6 127).trans (hup_s _ _ _)
  obtain ⟨u7, eu7⟩ : ∃ w : HpT, w = (hup u6 127 (.inr (2, [.int (0 : Int32), .int (0 : Int32), .int (0 : Int32), .int (0 : Int32), .int (-1 : Int32), .int (0 : Int32), .int (-1 : Int32), .int (0 : Int32), .int (0 : Int32), .int (0 : Int32), .ref (z + 128), .ref (z + 129)]))) := ⟨_, rfl⟩
  refine pfX3_30 C dX3_copyFrom_53 k127_6 (Nat.le_of_ble_eq_true rfl) rfl eu7.symm ?_
  refine x_aload_n C 0 dX3_copyFrom_56 rfl rfl ?_
  refine x_aload_n C 1 dX3_copyFrom_57 rfl rfl ?_
  have k3_7 := (congrFun eu7 3).trans (hup_n' (by decide) (k3_6))
  refine gfX3_33 C dX3_copyFrom_58 k3_7 rfl ?_
  have k127_7 := (congrFun eu7 127).trans (hup_s _ _ _)
  obtain ⟨u8, eu8⟩ : ∃ w : HpT, w = (hup u7 127 (.inr (2, [.int (0 : Int32), .int (0 : Int32), .int (0 : Int32), .int (0 : Int32), .int (-1 : Int32), .int (0 : Int32), .int (-1 : Int32), .int (0 : Int32), .int (0 : Int32), .int (0 : Int32), .ref (z + 128), .ref (z + 129)]))) := ⟨_, rfl⟩
  refine pfX3_33 C dX3_copyFrom_61 k127_7 (Nat.le_of_ble_eq_true rfl) rfl eu8.symm ?_
  refine x_aload_n C 0 dX3_copyFrom_64 rfl rfl ?_
  refine x_aload_n C 1 dX3_copyFrom_65 rfl rfl ?_
  have k3_8 := (congrFun eu8 3).trans (hup_n' (by decide) (k3_7))
  refine gfX3_36 C dX3_copyFrom_66 k3_8 rfl ?_
  have k127_8 := (congrFun eu8 127).trans (hup_s _ _ _)
  obtain ⟨u9, eu9⟩ : ∃ w : HpT, w = (hup u8 127 (.inr (2, [.int (0 : Int32), .int (0 : Int32), .int (0 : Int32), .int (0 : Int32), .int (-1 : Int32), .int (0 : Int32), .int (-1 : Int32), .int (0 : Int32), .int (0 : Int32), .int (0 : Int32), .ref (z + 128), .ref (z + 129)]))) := ⟨_, rfl⟩
  refine pfX3_36 C dX3_copyFrom_69 k127_8 (Nat.le_of_ble_eq_true rfl) rfl eu9.symm ?_
  refine x_aload_n C 0 dX3_copyFrom_72 rfl rfl ?_
  refine x_aload_n C 1 dX3_copyFrom_73 rfl rfl ?_
  have k3_9 := (congrFun eu9 3).trans (hup_n' (by decide) (k3_8))
  refine gfX3_39 C dX3_copyFrom_74 k3_9 rfl ?_
  have k127_9 := (congrFun eu9 127).trans (hup_s _ _ _)
  obtain ⟨u10, eu10⟩ : ∃ w : HpT, w = (hup u9 127 (.inr (2, [.int (0 : Int32), .int (0 : Int32), .int (0 : Int32), .int (0 : Int32), .int (-1 : Int32), .int (0 : Int32), .int (-1 : Int32), .int (0 : Int32), .int (0 : Int32), .int (0 : Int32), .ref (z + 128), .ref (z + 129)]))) := ⟨_, rfl⟩
  refine pfX3_39 C dX3_copyFrom_77 k127_9 (Nat.le_of_ble_eq_true rfl) rfl eu10.symm ?_
  refine x_iconst (v := (0 : Int32)) C dX3_copyFrom_80 (by decide) ?_
  refine x_istore_n C [(2, .int (0 : Int32)), (0, .ref (z + 127)), (1, .ref (z + 3))] dX3_copyFrom_81 rfl (by decide) rfl ?_
  refine x_iload_n C 0 dX3_copyFrom_82 rfl rfl ?_
  refine x_bipush (v := (6 : Int32)) C dX3_copyFrom_83 (by decide) ?_
  refine x_icmp_ge_f C 118 dX3_copyFrom_85 (by decide) (by decide) ?_
  refine x_aload_n C 1 dX3_copyFrom_88 rfl rfl ?_
  have k127_10 := (congrFun eu10 127).trans (hup_s _ _ _)
  refine gfX3_42 C dX3_copyFrom_89 k127_10 rfl ?_
  refine x_iload_n C 0 dX3_copyFrom_92 rfl rfl ?_
  refine x_aload_n C 2 dX3_copyFrom_93 rfl rfl ?_
  have k3_10 := (congrFun eu10 3).trans (hup_n' (by decide) (k3_9))
  refine gfX3_42 C dX3_copyFrom_94 k3_10 rfl ?_
  refine x_iload_n C 0 dX3_copyFrom_97 rfl rfl ?_
  have k4_1 := (congrFun eu1 4).trans (hup_n' (by decide) (h4))
  have k4_2 := (congrFun eu2 4).trans (hup_n' (by decide) (k4_1))
  have k4_3 := (congrFun eu3 4).trans (hup_n' (by decide) (k4_2))
  have k4_4 := (congrFun eu4 4).trans (hup_n' (by decide) (k4_3))
  have k4_5 := (congrFun eu5 4).trans (hup_n' (by decide) (k4_4))
  have k4_6 := (congrFun eu6 4).trans (hup_n' (by decide) (k4_5))
  have k4_7 := (congrFun eu7 4).trans (hup_n' (by decide) (k4_6))
  have k4_8 := (congrFun eu8 4).trans (hup_n' (by decide) (k4_7))
  have k4_9 := (congrFun eu9 4).trans (hup_n' (by decide) (k4_8))
  have k4_10 := (congrFun eu10 4).trans (hup_n' (by decide) (k4_9))
  refine x_ialdk C 0 k4_10 (vp_in_lit (by decide) (by decide)) (by decide) dX3_copyFrom_98 ?_
  refine x_eqi (w := (0 : Int32)) (by decide) ?_
  have k128_1 := (congrFun eu1 128).trans (hup_n' (by decide) (h128))
  have k128_2 := (congrFun eu2 128).trans (hup_n' (by decide) (k128_1))
  have k128_3 := (congrFun eu3 128).trans (hup_n' (by decide) (k128_2))
  have k128_4 := (congrFun eu4 128).trans (hup_n' (by decide) (k128_3))
  have k128_5 := (congrFun eu5 128).trans (hup_n' (by decide) (k128_4))
  have k128_6 := (congrFun eu6 128).trans (hup_n' (by decide) (k128_5))
  have k128_7 := (congrFun eu7 128).trans (hup_n' (by decide) (k128_6))
  have k128_8 := (congrFun eu8 128).trans (hup_n' (by decide) (k128_7))
  have k128_9 := (congrFun eu9 128).trans (hup_n' (by decide) (k128_8))
  have k128_10 := (congrFun eu10 128).trans (hup_n' (by decide) (k128_9))
  refine x_iastk C 0 k128_10 (vp_in_lit (by decide) (by decide)) (by decide) dX3_copyFrom_99 ?_
  obtain ⟨u11, eu11⟩ : ∃ w : HpT, w = (hup u10 128 (aI G 6 (upd (fun _ => 0) 0 (0 : Int32)))) := ⟨_, rfl⟩
  refine x_heap (u2 := u11) eu11.symm ?_
  refine x_aload_n C 1 dX3_copyFrom_100 rfl rfl ?_
  have k127_11 := (congrFun eu11 127).trans (hup_n' (by decide) (k127_10))
  refine gfX3_46 C dX3_copyFrom_101 k127_11 rfl ?_
  refine x_iload_n C 0 dX3_copyFrom_104 rfl rfl ?_
  refine x_aload_n C 2 dX3_copyFrom_105 rfl rfl ?_
  have k3_11 := (congrFun eu11 3).trans (hup_n' (by decide) (k3_10))
  refine gfX3_46 C dX3_copyFrom_106 k3_11 rfl ?_
  refine x_iload_n C 0 dX3_copyFrom_109 rfl rfl ?_
  have k5_1 := (congrFun eu1 5).trans (hup_n' (by decide) (h5))
  have k5_2 := (congrFun eu2 5).trans (hup_n' (by decide) (k5_1))
  have k5_3 := (congrFun eu3 5).trans (hup_n' (by decide) (k5_2))
  have k5_4 := (congrFun eu4 5).trans (hup_n' (by decide) (k5_3))
  have k5_5 := (congrFun eu5 5).trans (hup_n' (by decide) (k5_4))
  have k5_6 := (congrFun eu6 5).trans (hup_n' (by decide) (k5_5))
  have k5_7 := (congrFun eu7 5).trans (hup_n' (by decide) (k5_6))
  have k5_8 := (congrFun eu8 5).trans (hup_n' (by decide) (k5_7))
  have k5_9 := (congrFun eu9 5).trans (hup_n' (by decide) (k5_8))
  have k5_10 := (congrFun eu10 5).trans (hup_n' (by decide) (k5_9))
  have k5_11 := (congrFun eu11 5).trans (hup_n' (by decide) (k5_10))
  refine x_ialdk C 0 k5_11 (vp_in_lit (by decide) (by decide)) (by decide) dX3_copyFrom_110 ?_
  refine x_eqi (w := (0 : Int32)) (by decide) ?_
  have k129_1 := (congrFun eu1 129).trans (hup_n' (by decide) (h129))
  have k129_2 := (congrFun eu2 129).trans (hup_n' (by decide) (k129_1))
  have k129_3 := (congrFun eu3 129).trans (hup_n' (by decide) (k129_2))
  have k129_4 := (congrFun eu4 129).trans (hup_n' (by decide) (k129_3))
  have k129_5 := (congrFun eu5 129).trans (hup_n' (by decide) (k129_4))
  have k129_6 := (congrFun eu6 129).trans (hup_n' (by decide) (k129_5))
  have k129_7 := (congrFun eu7 129).trans (hup_n' (by decide) (k129_6))
  have k129_8 := (congrFun eu8 129).trans (hup_n' (by decide) (k129_7))
  have k129_9 := (congrFun eu9 129).trans (hup_n' (by decide) (k129_8))
  have k129_10 := (congrFun eu10 129).trans (hup_n' (by decide) (k129_9))
  have k129_11 := (congrFun eu11 129).trans (hup_n' (by decide) (k129_10))
  refine x_iastk C 0 k129_11 (vp_in_lit (by decide) (by decide)) (by decide) dX3_copyFrom_111 ?_
  obtain ⟨u12, eu12⟩ : ∃ w : HpT, w = (hup u11 129 (aI G 6 (upd (fun _ => 0) 0 (0 : Int32)))) := ⟨_, rfl⟩
  refine x_heap (u2 := u12) eu12.symm ?_
  refine x_iinc C 0 [(2, .int (1 : Int32)), (0, .ref (z + 127)), (1, .ref (z + 3))] dX3_copyFrom_112 rfl (by decide) (by decide) rfl ?_
  refine x_goto C 82 dX3_copyFrom_115 (by decide) ?_
  refine x_iload_n C 0 dX3_copyFrom_82 rfl rfl ?_
  refine x_bipush (v := (6 : Int32)) C dX3_copyFrom_83 (by decide) ?_
  refine x_icmp_ge_f C 118 dX3_copyFrom_85 (by decide) (by decide) ?_
  refine x_aload_n C 1 dX3_copyFrom_88 rfl rfl ?_
  have k127_12 := (congrFun eu12 127).trans (hup_n' (by decide) (k127_11))
  refine gfX3_42 C dX3_copyFrom_89 k127_12 rfl ?_
  refine x_iload_n C 0 dX3_copyFrom_92 rfl rfl ?_
  refine x_aload_n C 2 dX3_copyFrom_93 rfl rfl ?_
  have k3_12 := (congrFun eu12 3).trans (hup_n' (by decide) (k3_11))
  refine gfX3_42 C dX3_copyFrom_94 k3_12 rfl ?_
  refine x_iload_n C 0 dX3_copyFrom_97 rfl rfl ?_
  have k4_11 := (congrFun eu11 4).trans (hup_n' (by decide) (k4_10))
  have k4_12 := (congrFun eu12 4).trans (hup_n' (by decide) (k4_11))
  refine x_ialdk C 1 k4_12 (vp_in_lit (by decide) (by decide)) (by decide) dX3_copyFrom_98 ?_
  refine x_eqi (w := (0 : Int32)) (by decide) ?_
  have k128_11 := (congrFun eu11 128).trans (hup_s _ _ _)
  have k128_12 := (congrFun eu12 128).trans (hup_n' (by decide) (k128_11))
  refine x_iastk C 1 k128_12 (vp_in_lit (by decide) (by decide)) (by decide) dX3_copyFrom_99 ?_
  obtain ⟨u13, eu13⟩ : ∃ w : HpT, w = (hup u12 128 (aI G 6 (upd (upd (fun _ => 0) 0 (0 : Int32)) 1 (0 : Int32)))) := ⟨_, rfl⟩
  refine x_heap (u2 := u13) eu13.symm ?_
  refine x_aload_n C 1 dX3_copyFrom_100 rfl rfl ?_
  have k127_13 := (congrFun eu13 127).trans (hup_n' (by decide) (k127_12))
  refine gfX3_46 C dX3_copyFrom_101 k127_13 rfl ?_
  refine x_iload_n C 0 dX3_copyFrom_104 rfl rfl ?_
  refine x_aload_n C 2 dX3_copyFrom_105 rfl rfl ?_
  have k3_13 := (congrFun eu13 3).trans (hup_n' (by decide) (k3_12))
  refine gfX3_46 C dX3_copyFrom_106 k3_13 rfl ?_
  refine x_iload_n C 0 dX3_copyFrom_109 rfl rfl ?_
  have k5_12 := (congrFun eu12 5).trans (hup_n' (by decide) (k5_11))
  have k5_13 := (congrFun eu13 5).trans (hup_n' (by decide) (k5_12))
  refine x_ialdk C 1 k5_13 (vp_in_lit (by decide) (by decide)) (by decide) dX3_copyFrom_110 ?_
  refine x_eqi (w := (0 : Int32)) (by decide) ?_
  have k129_12 := (congrFun eu12 129).trans (hup_s _ _ _)
  have k129_13 := (congrFun eu13 129).trans (hup_n' (by decide) (k129_12))
  refine x_iastk C 1 k129_13 (vp_in_lit (by decide) (by decide)) (by decide) dX3_copyFrom_111 ?_
  obtain ⟨u14, eu14⟩ : ∃ w : HpT, w = (hup u13 129 (aI G 6 (upd (upd (fun _ => 0) 0 (0 : Int32)) 1 (0 : Int32)))) := ⟨_, rfl⟩
  refine x_heap (u2 := u14) eu14.symm ?_
  refine x_iinc C 0 [(2, .int (2 : Int32)), (0, .ref (z + 127)), (1, .ref (z + 3))] dX3_copyFrom_112 rfl (by decide) (by decide) rfl ?_
  refine x_goto C 82 dX3_copyFrom_115 (by decide) ?_
  refine x_iload_n C 0 dX3_copyFrom_82 rfl rfl ?_
  refine x_bipush (v := (6 : Int32)) C dX3_copyFrom_83 (by decide) ?_
  refine x_icmp_ge_f C 118 dX3_copyFrom_85 (by decide) (by decide) ?_
  refine x_aload_n C 1 dX3_copyFrom_88 rfl rfl ?_
  have k127_14 := (congrFun eu14 127).trans (hup_n' (by decide) (k127_13))
  refine gfX3_42 C dX3_copyFrom_89 k127_14 rfl ?_
  refine x_iload_n C 0 dX3_copyFrom_92 rfl rfl ?_
  refine x_aload_n C 2 dX3_copyFrom_93 rfl rfl ?_
  have k3_14 := (congrFun eu14 3).trans (hup_n' (by decide) (k3_13))
  refine gfX3_42 C dX3_copyFrom_94 k3_14 rfl ?_
  refine x_iload_n C 0 dX3_copyFrom_97 rfl rfl ?_
  have k4_13 := (congrFun eu13 4).trans (hup_n' (by decide) (k4_12))
  have k4_14 := (congrFun eu14 4).trans (hup_n' (by decide) (k4_13))
  refine x_ialdk C 2 k4_14 (vp_in_lit (by decide) (by decide)) (by decide) dX3_copyFrom_98 ?_
  refine x_eqi (w := (0 : Int32)) (by decide) ?_
  have k128_13 := (congrFun eu13 128).trans (hup_s _ _ _)
  have k128_14 := (congrFun eu14 128).trans (hup_n' (by decide) (k128_13))
  refine x_iastk C 2 k128_14 (vp_in_lit (by decide) (by decide)) (by decide) dX3_copyFrom_99 ?_
  obtain ⟨u15, eu15⟩ : ∃ w : HpT, w = (hup u14 128 (aI G 6 (upd (upd (upd (fun _ => 0) 0 (0 : Int32)) 1 (0 : Int32)) 2 (0 : Int32)))) := ⟨_, rfl⟩
  refine x_heap (u2 := u15) eu15.symm ?_
  refine x_aload_n C 1 dX3_copyFrom_100 rfl rfl ?_
  have k127_15 := (congrFun eu15 127).trans (hup_n' (by decide) (k127_14))
  refine gfX3_46 C dX3_copyFrom_101 k127_15 rfl ?_
  refine x_iload_n C 0 dX3_copyFrom_104 rfl rfl ?_
  refine x_aload_n C 2 dX3_copyFrom_105 rfl rfl ?_
  have k3_15 := (congrFun eu15 3).trans (hup_n' (by decide) (k3_14))
  refine gfX3_46 C dX3_copyFrom_106 k3_15 rfl ?_
  refine x_iload_n C 0 dX3_copyFrom_109 rfl rfl ?_
  have k5_14 := (congrFun eu14 5).trans (hup_n' (by decide) (k5_13))
  have k5_15 := (congrFun eu15 5).trans (hup_n' (by decide) (k5_14))
  refine x_ialdk C 2 k5_15 (vp_in_lit (by decide) (by decide)) (by decide) dX3_copyFrom_110 ?_
  refine x_eqi (w := (0 : Int32)) (by decide) ?_
  have k129_14 := (congrFun eu14 129).trans (hup_s _ _ _)
  have k129_15 := (congrFun eu15 129).trans (hup_n' (by decide) (k129_14))
  refine x_iastk C 2 k129_15 (vp_in_lit (by decide) (by decide)) (by decide) dX3_copyFrom_111 ?_
  obtain ⟨u16, eu16⟩ : ∃ w : HpT, w = (hup u15 129 (aI G 6 (upd (upd (upd (fun _ => 0) 0 (0 : Int32)) 1 (0 : Int32)) 2 (0 : Int32)))) := ⟨_, rfl⟩
  refine x_heap (u2 := u16) eu16.symm ?_
  refine x_iinc C 0 [(2, .int (3 : Int32)), (0, .ref (z + 127)), (1, .ref (z + 3))] dX3_copyFrom_112 rfl (by decide) (by decide) rfl ?_
  refine x_goto C 82 dX3_copyFrom_115 (by decide) ?_
  refine x_iload_n C 0 dX3_copyFrom_82 rfl rfl ?_
  refine x_bipush (v := (6 : Int32)) C dX3_copyFrom_83 (by decide) ?_
  refine x_icmp_ge_f C 118 dX3_copyFrom_85 (by decide) (by decide) ?_
  refine x_aload_n C 1 dX3_copyFrom_88 rfl rfl ?_
  have k127_16 := (congrFun eu16 127).trans (hup_n' (by decide) (k127_15))
  refine gfX3_42 C dX3_copyFrom_89 k127_16 rfl ?_
  refine x_iload_n C 0 dX3_copyFrom_92 rfl rfl ?_
  refine x_aload_n C 2 dX3_copyFrom_93 rfl rfl ?_
  have k3_16 := (congrFun eu16 3).trans (hup_n' (by decide) (k3_15))
  refine gfX3_42 C dX3_copyFrom_94 k3_16 rfl ?_
  refine x_iload_n C 0 dX3_copyFrom_97 rfl rfl ?_
  have k4_15 := (congrFun eu15 4).trans (hup_n' (by decide) (k4_14))
  have k4_16 := (congrFun eu16 4).trans (hup_n' (by decide) (k4_15))
  refine x_ialdk C 3 k4_16 (vp_in_lit (by decide) (by decide)) (by decide) dX3_copyFrom_98 ?_
  refine x_eqi (w := (0 : Int32)) (by decide) ?_
  have k128_15 := (congrFun eu15 128).trans (hup_s _ _ _)
  have k128_16 := (congrFun eu16 128).trans (hup_n' (by decide) (k128_15))
  refine x_iastk C 3 k128_16 (vp_in_lit (by decide) (by decide)) (by decide) dX3_copyFrom_99 ?_
  obtain ⟨u17, eu17⟩ : ∃ w : HpT, w = (hup u16 128 (aI G 6 (upd (upd (upd (upd (fun _ => 0) 0 (0 : Int32)) 1 (0 : Int32)) 2 (0 : Int32)) 3 (0 : Int32)))) := ⟨_, rfl⟩
  refine x_heap (u2 := u17) eu17.symm ?_
  refine x_aload_n C 1 dX3_copyFrom_100 rfl rfl ?_
  have k127_17 := (congrFun eu17 127).trans (hup_n' (by decide) (k127_16))
  refine gfX3_46 C dX3_copyFrom_101 k127_17 rfl ?_
  refine x_iload_n C 0 dX3_copyFrom_104 rfl rfl ?_
  refine x_aload_n C 2 dX3_copyFrom_105 rfl rfl ?_
  have k3_17 := (congrFun eu17 3).trans (hup_n' (by decide) (k3_16))
  refine gfX3_46 C dX3_copyFrom_106 k3_17 rfl ?_
  refine x_iload_n C 0 dX3_copyFrom_109 rfl rfl ?_
  have k5_16 := (congrFun eu16 5).trans (hup_n' (by decide) (k5_15))
  have k5_17 := (congrFun eu17 5).trans (hup_n' (by decide) (k5_16))
  refine x_ialdk C 3 k5_17 (vp_in_lit (by decide) (by decide)) (by decide) dX3_copyFrom_110 ?_
  refine x_eqi (w := (0 : Int32)) (by decide) ?_
  have k129_16 := (congrFun eu16 129).trans (hup_s _ _ _)
  have k129_17 := (congrFun eu17 129).trans (hup_n' (by decide) (k129_16))
  refine x_iastk C 3 k129_17 (vp_in_lit (by decide) (by decide)) (by decide) dX3_copyFrom_111 ?_
  obtain ⟨u18, eu18⟩ : ∃ w : HpT, w = (hup u17 129 (aI G 6 (upd (upd (upd (upd (fun _ => 0) 0 (0 : Int32)) 1 (0 : Int32)) 2 (0 : Int32)) 3 (0 : Int32)))) := ⟨_, rfl⟩
  refine x_heap (u2 := u18) eu18.symm ?_
  refine x_iinc C 0 [(2, .int (4 : Int32)), (0, .ref (z + 127)), (1, .ref (z + 3))] dX3_copyFrom_112 rfl (by decide) (by decide) rfl ?_
  refine x_goto C 82 dX3_copyFrom_115 (by decide) ?_
  refine x_iload_n C 0 dX3_copyFrom_82 rfl rfl ?_
  refine x_bipush (v := (6 : Int32)) C dX3_copyFrom_83 (by decide) ?_
  refine x_icmp_ge_f C 118 dX3_copyFrom_85 (by decide) (by decide) ?_
  refine x_aload_n C 1 dX3_copyFrom_88 rfl rfl ?_
  have k127_18 := (congrFun eu18 127).trans (hup_n' (by decide) (k127_17))
  refine gfX3_42 C dX3_copyFrom_89 k127_18 rfl ?_
  refine x_iload_n C 0 dX3_copyFrom_92 rfl rfl ?_
  refine x_aload_n C 2 dX3_copyFrom_93 rfl rfl ?_
  have k3_18 := (congrFun eu18 3).trans (hup_n' (by decide) (k3_17))
  refine gfX3_42 C dX3_copyFrom_94 k3_18 rfl ?_
  refine x_iload_n C 0 dX3_copyFrom_97 rfl rfl ?_
  have k4_17 := (congrFun eu17 4).trans (hup_n' (by decide) (k4_16))
  have k4_18 := (congrFun eu18 4).trans (hup_n' (by decide) (k4_17))
  refine x_ialdk C 4 k4_18 (vp_in_lit (by decide) (by decide)) (by decide) dX3_copyFrom_98 ?_
  refine x_eqi (w := (0 : Int32)) (by decide) ?_
  have k128_17 := (congrFun eu17 128).trans (hup_s _ _ _)
  have k128_18 := (congrFun eu18 128).trans (hup_n' (by decide) (k128_17))
  refine x_iastk C 4 k128_18 (vp_in_lit (by decide) (by decide)) (by decide) dX3_copyFrom_99 ?_
  obtain ⟨u19, eu19⟩ : ∃ w : HpT, w = (hup u18 128 (aI G 6 (upd (upd (upd (upd (upd (fun _ => 0) 0 (0 : Int32)) 1 (0 : Int32)) 2 (0 : Int32)) 3 (0 : Int32)) 4 (0 : Int32)))) := ⟨_, rfl⟩
  refine x_heap (u2 := u19) eu19.symm ?_
  refine x_aload_n C 1 dX3_copyFrom_100 rfl rfl ?_
  have k127_19 := (congrFun eu19 127).trans (hup_n' (by decide) (k127_18))
  refine gfX3_46 C dX3_copyFrom_101 k127_19 rfl ?_
  refine x_iload_n C 0 dX3_copyFrom_104 rfl rfl ?_
  refine x_aload_n C 2 dX3_copyFrom_105 rfl rfl ?_
  have k3_19 := (congrFun eu19 3).trans (hup_n' (by decide) (k3_18))
  refine gfX3_46 C dX3_copyFrom_106 k3_19 rfl ?_
  refine x_iload_n C 0 dX3_copyFrom_109 rfl rfl ?_
  have k5_18 := (congrFun eu18 5).trans (hup_n' (by decide) (k5_17))
  have k5_19 := (congrFun eu19 5).trans (hup_n' (by decide) (k5_18))
  refine x_ialdk C 4 k5_19 (vp_in_lit (by decide) (by decide)) (by decide) dX3_copyFrom_110 ?_
  refine x_eqi (w := (0 : Int32)) (by decide) ?_
  have k129_18 := (congrFun eu18 129).trans (hup_s _ _ _)
  have k129_19 := (congrFun eu19 129).trans (hup_n' (by decide) (k129_18))
  refine x_iastk C 4 k129_19 (vp_in_lit (by decide) (by decide)) (by decide) dX3_copyFrom_111 ?_
  obtain ⟨u20, eu20⟩ : ∃ w : HpT, w = (hup u19 129 (aI G 6 (upd (upd (upd (upd (upd (fun _ => 0) 0 (0 : Int32)) 1 (0 : Int32)) 2 (0 : Int32)) 3 (0 : Int32)) 4 (0 : Int32)))) := ⟨_, rfl⟩
  refine x_heap (u2 := u20) eu20.symm ?_
  refine x_iinc C 0 [(2, .int (5 : Int32)), (0, .ref (z + 127)), (1, .ref (z + 3))] dX3_copyFrom_112 rfl (by decide) (by decide) rfl ?_
  refine x_goto C 82 dX3_copyFrom_115 (by decide) ?_
  refine x_iload_n C 0 dX3_copyFrom_82 rfl rfl ?_
  refine x_bipush (v := (6 : Int32)) C dX3_copyFrom_83 (by decide) ?_
  refine x_icmp_ge_f C 118 dX3_copyFrom_85 (by decide) (by decide) ?_
  refine x_aload_n C 1 dX3_copyFrom_88 rfl rfl ?_
  have k127_20 := (congrFun eu20 127).trans (hup_n' (by decide) (k127_19))
  refine gfX3_42 C dX3_copyFrom_89 k127_20 rfl ?_
  refine x_iload_n C 0 dX3_copyFrom_92 rfl rfl ?_
  refine x_aload_n C 2 dX3_copyFrom_93 rfl rfl ?_
  have k3_20 := (congrFun eu20 3).trans (hup_n' (by decide) (k3_19))
  refine gfX3_42 C dX3_copyFrom_94 k3_20 rfl ?_
  refine x_iload_n C 0 dX3_copyFrom_97 rfl rfl ?_
  have k4_19 := (congrFun eu19 4).trans (hup_n' (by decide) (k4_18))
  have k4_20 := (congrFun eu20 4).trans (hup_n' (by decide) (k4_19))
  refine x_ialdk C 5 k4_20 (vp_in_lit (by decide) (by decide)) (by decide) dX3_copyFrom_98 ?_
  refine x_eqi (w := (0 : Int32)) (by decide) ?_
  have k128_19 := (congrFun eu19 128).trans (hup_s _ _ _)
  have k128_20 := (congrFun eu20 128).trans (hup_n' (by decide) (k128_19))
  refine x_iastk C 5 k128_20 (vp_in_lit (by decide) (by decide)) (by decide) dX3_copyFrom_99 ?_
  obtain ⟨u21, eu21⟩ : ∃ w : HpT, w = (hup u20 128 (aI G 6 (upd (upd (upd (upd (upd (upd (fun _ => 0) 0 (0 : Int32)) 1 (0 : Int32)) 2 (0 : Int32)) 3 (0 : Int32)) 4 (0 : Int32)) 5 (0 : Int32)))) := ⟨_, rfl⟩
  refine x_heap (u2 := u21) eu21.symm ?_
  refine x_aload_n C 1 dX3_copyFrom_100 rfl rfl ?_
  have k127_21 := (congrFun eu21 127).trans (hup_n' (by decide) (k127_20))
  refine gfX3_46 C dX3_copyFrom_101 k127_21 rfl ?_
  refine x_iload_n C 0 dX3_copyFrom_104 rfl rfl ?_
  refine x_aload_n C 2 dX3_copyFrom_105 rfl rfl ?_
  have k3_21 := (congrFun eu21 3).trans (hup_n' (by decide) (k3_20))
  refine gfX3_46 C dX3_copyFrom_106 k3_21 rfl ?_
  refine x_iload_n C 0 dX3_copyFrom_109 rfl rfl ?_
  have k5_20 := (congrFun eu20 5).trans (hup_n' (by decide) (k5_19))
  have k5_21 := (congrFun eu21 5).trans (hup_n' (by decide) (k5_20))
  refine x_ialdk C 5 k5_21 (vp_in_lit (by decide) (by decide)) (by decide) dX3_copyFrom_110 ?_
  refine x_eqi (w := (0 : Int32)) (by decide) ?_
  have k129_20 := (congrFun eu20 129).trans (hup_s _ _ _)
  have k129_21 := (congrFun eu21 129).trans (hup_n' (by decide) (k129_20))
  refine x_iastk C 5 k129_21 (vp_in_lit (by decide) (by decide)) (by decide) dX3_copyFrom_111 ?_
  obtain ⟨u22, eu22⟩ : ∃ w : HpT, w = (hup u21 129 (aI G 6 (upd (upd (upd (upd (upd (upd (fun _ => 0) 0 (0 : Int32)) 1 (0 : Int32)) 2 (0 : Int32)) 3 (0 : Int32)) 4 (0 : Int32)) 5 (0 : Int32)))) := ⟨_, rfl⟩
  refine x_heap (u2 := u22) eu22.symm ?_
  refine x_iinc C 0 [(2, .int (6 : Int32)), (0, .ref (z + 127)), (1, .ref (z + 3))] dX3_copyFrom_112 rfl (by decide) (by decide) rfl ?_
  refine x_goto C 82 dX3_copyFrom_115 (by decide) ?_
  refine x_iload_n C 0 dX3_copyFrom_82 rfl rfl ?_
  refine x_bipush (v := (6 : Int32)) C dX3_copyFrom_83 (by decide) ?_
  refine x_icmp_ge_t C 118 dX3_copyFrom_85 (by decide) (by decide) ?_
  exact x_vret C hr hlk (Nat.le_of_ble_eq_true rfl) (Nat.le_of_ble_eq_true rfl) dX3_copyFrom_118 rfl (by rw [eu22, eu21, eu20, eu19, eu18, eu17, eu16, eu15, eu14, eu13, eu12, eu11, eu10, eu9, eu8, eu7, eu6, eu5, eu4, eu3, eu2, eu1]; simp only [hup_hup, hup_sk, ne_eq, Nat.reduceEqDiff, not_false_eq_true]) rfl
set_option maxRecDepth 20000 in
theorem p_X9_keep_1 {G : GT} {l : Launch} {z n : Nat} (u : HpT) (h0 : u 0 = some (.inr (8, [.ref (z + 1), .ref (z + 3), .ref (z + 6), .ref (z + 98), .ref (z + 99), .ref (z + 101), .ref (z + 106), .ref (z + 109), .ref (z + 112), .ref (z + 119), .int (0 : Int32), .int (-1 : Int32)]))) (h3 : u 3 = some (.inr (2, [.int (0 : Int32), .int (0 : Int32), .int (0 : Int32), .int (0 : Int32), .int (-1 : Int32), .int (0 : Int32), .int (-1 : Int32), .int (0 : Int32), .int (0 : Int32), .int (0 : Int32), .ref (z + 4), .ref (z + 5)]))) (h4 : u 4 = some (aI G 6 (fun _ => 0))) (h5 : u 5 = some (aI G 6 (fun _ => 0))) (h6 : u 6 = some (.inr (5, [.ref (z + 7), .int (0 : Int32), .int (0 : Int32)]))) (h98 : u 98 = some (aM G 2 (va_up (va_up (fun _ => none) 0 (some (z + 126))) 1 (some (z + 130))))) (h126 : u 126 = some (.inr (3, [.ref (z + 127), .int (0 : Int32), .int (0 : Int32)]))) (h127 : u 127 = some (.inr (2, [.int (0 : Int32), .int (0 : Int32), .int (0 : Int32), .int (0 : Int32), .int (-1 : Int32), .int (0 : Int32), .int (-1 : Int32), .int (0 : Int32), .int (0 : Int32), .int (0 : Int32), .ref (z + 128), .ref (z + 129)]))) (h128 : u 128 = some (aI G 6 (fun _ => 0))) (h129 : u 129 = some (aI G 6 (fun _ => 0))) : Mt G l z yX9_keep cX9_keep 3 (some .int) { frames := 1, cells := 0, slots := 0, locals := 22 } [.ref (z + 0), .int (0 : Int32)] u n (some (.int (1 : Int32))) (hup (hup (hup (hup (hup u 127 (.inr (2, [.int (0 : Int32), .int (0 : Int32), .int (0 : Int32), .int (0 : Int32), .int (-1 : Int32), .int (0 : Int32), .int (-1 : Int32), .int (0 : Int32), .int (0 : Int32), .int (0 : Int32), .ref (z + 128), .ref (z + 129)]))) 128 (aI G 6 (upd (upd (upd (upd (upd (upd (fun _ => 0) 0 (0 : Int32)) 1 (0 : Int32)) 2 (0 : Int32)) 3 (0 : Int32)) 4 (0 : Int32)) 5 (0 : Int32)))) 129 (aI G 6 (upd (upd (upd (upd (upd (upd (fun _ => 0) 0 (0 : Int32)) 1 (0 : Int32)) 2 (0 : Int32)) 3 (0 : Int32)) 4 (0 : Int32)) 5 (0 : Int32)))) 126 (.inr (3, [.ref (z + 127), .int (0 : Int32), .int (1 : Int32)]))) 6 (.inr (5, [.ref (z + 7), .int (0 : Int32), .int (0 : Int32)]))) n := by
  refine mt_of (by decide +kernel) (Nat.le_of_ble_eq_true rfl) ?_
  intro p e s m below meth c C hr hlk hnm
  refine x_iload_n C 1 dX9_keep_0 rfl rfl ?_
  refine x_if_lt_f C 13 dX9_keep_1 (by decide) (by decide) ?_
  refine x_iload_n C 1 dX9_keep_4 rfl rfl ?_
  refine x_aload_n C 0 dX9_keep_5 rfl rfl ?_
  refine gfX9_32 C dX9_keep_6 h0 rfl ?_
  refine x_alen (v := (2 : Int32)) C 4 h98 rfl rfl dX9_keep_9 ?_
  refine x_icmp_lt_t C 16 dX9_keep_10 (by decide) (by decide) ?_
  refine x_aload_n C 0 dX9_keep_16 rfl rfl ?_
  refine gfX9_32 C dX9_keep_17 h0 rfl ?_
  refine x_iload_n C 1 dX9_keep_20 rfl rfl ?_
  refine x_aaldM (y := z + 126) C h98 (vp_in_lit (by decide) (by decide)) rfl dX9_keep_21 ?_
  refine x_astore_n C [(2, .ref (z + 126)), (0, .ref (z + 0)), (1, .int (0 : Int32))] dX9_keep_22 rfl (by decide) rfl ?_
  refine x_aload_n C 0 dX9_keep_23 rfl rfl ?_
  refine gfX9_327 C dX9_keep_24 h126 rfl ?_
  refine x_aload_n C 1 dX9_keep_27 rfl rfl ?_
  refine gfX9_19 C dX9_keep_28 h0 rfl ?_
  refine x_callV C cl_X3_copyFrom kmX9_328 (ci := 2) (b := 127) (As := [.ref (z + 3)]) (rest := []) rfl h127 (p_X3_copyFrom_0 u h3 h4 h5 h127 h128 h129) rfl rfl (Nat.le_of_ble_eq_true rfl) ⟨Nat.le_of_ble_eq_true rfl, Nat.le_of_ble_eq_true rfl⟩ ⟨Nat.le_of_ble_eq_true rfl, Nat.le_of_ble_eq_true rfl⟩ dX9_keep_31 ?_
  obtain ⟨u1, eu1⟩ : ∃ w : HpT, w = (hup (hup (hup u 127 (.inr (2, [.int (0 : Int32), .int (0 : Int32), .int (0 : Int32), .int (0 : Int32), .int (-1 : Int32), .int (0 : Int32), .int (-1 : Int32), .int (0 : Int32), .int (0 : Int32), .int (0 : Int32), .ref (z + 128), .ref (z + 129)]))) 128 (aI G 6 (upd (upd (upd (upd (upd (upd (fun _ => 0) 0 (0 : Int32)) 1 (0 : Int32)) 2 (0 : Int32)) 3 (0 : Int32)) 4 (0 : Int32)) 5 (0 : Int32)))) 129 (aI G 6 (upd (upd (upd (upd (upd (upd (fun _ => 0) 0 (0 : Int32)) 1 (0 : Int32)) 2 (0 : Int32)) 3 (0 : Int32)) 4 (0 : Int32)) 5 (0 : Int32)))) := ⟨_, rfl⟩
  refine x_norm (st2 := []) (kc2 := 0) (ks2 := 0) rfl rfl rfl rfl eu1.symm ?_
  refine x_aload_n C 0 dX9_keep_34 rfl rfl ?_
  refine x_aload_n C 1 dX9_keep_35 rfl rfl ?_
  have k0_1 := (congrFun eu1 0).trans (hup_n' (by decide) (hup_n' (by decide) (hup_n' (by decide) (h0))))
  refine gfX9_72 C dX9_keep_36 k0_1 rfl ?_
  have k126_1 := (congrFun eu1 126).trans (hup_n' (by decide) (hup_n' (by decide) (hup_n' (by decide) (h126))))
  obtain ⟨u2, eu2⟩ : ∃ w : HpT, w = (hup u1 126 (.inr (3, [.ref (z + 127), .int (0 : Int32), .int (0 : Int32)]))) := ⟨_, rfl⟩
  refine pfX9_331 C dX9_keep_39 k126_1 (Nat.le_of_ble_eq_true rfl) rfl eu2.symm ?_
  refine x_aload_n C 0 dX9_keep_42 rfl rfl ?_
  refine x_iconst (v := (1 : Int32)) C dX9_keep_43 (by decide) ?_
  have k126_2 := (congrFun eu2 126).trans (hup_s _ _ _)
  obtain ⟨u3, eu3⟩ : ∃ w : HpT, w = (hup u2 126 (.inr (3, [.ref (z + 127), .int (0 : Int32), .int (1 : Int32)]))) := ⟨_, rfl⟩
  refine pfX9_113 C dX9_keep_44 (by decide) (by decide) k126_2 (Nat.le_of_ble_eq_true rfl) rfl eu3.symm ?_
  refine x_aload_n C 1 dX9_keep_47 rfl rfl ?_
  have k0_2 := (congrFun eu2 0).trans (hup_n' (by decide) (k0_1))
  have k0_3 := (congrFun eu3 0).trans (hup_n' (by decide) (k0_2))
  refine gfX9_26 C dX9_keep_48 k0_3 rfl ?_
  have k6_1 := (congrFun eu1 6).trans (hup_n' (by decide) (hup_n' (by decide) (hup_n' (by decide) (h6))))
  have k6_2 := (congrFun eu2 6).trans (hup_n' (by decide) (k6_1))
  have k6_3 := (congrFun eu3 6).trans (hup_n' (by decide) (k6_2))
  refine x_callV C cl_X6_forget kmX9_109 (ci := 5) (b := 6) (As := []) (rest := []) rfl k6_3 (p_X6_forget_0 u3 k6_3) rfl rfl (Nat.le_of_ble_eq_true rfl) ⟨Nat.le_of_ble_eq_true rfl, Nat.le_of_ble_eq_true rfl⟩ ⟨Nat.le_of_ble_eq_true rfl, Nat.le_of_ble_eq_true rfl⟩ dX9_keep_51 ?_
  obtain ⟨u4, eu4⟩ : ∃ w : HpT, w = (hup u3 6 (.inr (5, [.ref (z + 7), .int (0 : Int32), .int (0 : Int32)]))) := ⟨_, rfl⟩
  refine x_norm (st2 := []) (kc2 := 0) (ks2 := 0) rfl rfl rfl rfl eu4.symm ?_
  refine x_iconst (v := (1 : Int32)) C dX9_keep_54 (by decide) ?_
  exact x_iret C hr hlk (Nat.le_of_ble_eq_true rfl) (Nat.le_of_ble_eq_true rfl) dX9_keep_55 rfl (by rw [eu4, eu3, eu2, eu1]; simp only [hup_hup, hup_sk, ne_eq, Nat.reduceEqDiff, not_false_eq_true]) rfl
