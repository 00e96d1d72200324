set_option maxRecDepth 20000 in
theorem p_X1_hasMatter_0 {G : GT} {l : Launch} {z n : Nat} (u : HpT) (va : Int32) (hl_va : -2147483648 ≤ va.toInt) (hh_va : va.toInt ≤ -1) : Mt G l z yX1_hasMatter cX1_hasMatter 2 (some .boolean) { frames := 0, cells := 0, slots := 0, locals := 0 } [.ref (z + 112), .int va] u n (some (.int (0 : Int32))) u n := by
  refine mt_of (by decide +kernel) (Nat.le_of_ble_eq_true rfl) ?_
  intro p e s m below meth c C hr hlk hnm
  refine x_iload_n C 1 dX1_hasMatter_0 rfl rfl ?_
  refine x_if_lt_t C 22 dX1_hasMatter_1 (by decide) (by simp only [Int32.lt_iff_toInt_lt, Int32.le_iff_toInt_le, i_eq_iff]; have e9 : (0 : Int32).toInt = 0 := (by decide); omega) ?_
  refine x_iconst (v := (0 : Int32)) C dX1_hasMatter_22 (by decide) ?_
  exact x_zret C hr hlk (Nat.le_of_ble_eq_true rfl) (Nat.le_of_ble_eq_true rfl) dX1_hasMatter_23 (by decide) rfl rfl rfl
set_option maxRecDepth 20000 in
theorem p_X9_matter_0 {G : GT} {l : Launch} {z n : Nat} (u : HpT) (va : Int32) (hl_va : -2147483648 ≤ va.toInt) (hh_va : va.toInt ≤ -1) (vb : Int32) (hl_vb : -2147483648 ≤ vb.toInt) (hh_vb : vb.toInt ≤ 2147483647) (h0 : u 0 = some (.inr (8, [.ref (z + 1), .ref (z + 3), .ref (z + 6), .ref (z + 98), .ref (z + 99), .ref (z + 101), .ref (z + 106), .ref (z + 109), .ref (z + 112), .ref (z + 119), .int (0 : Int32), .int (-1 : Int32)]))) (h112 : u 112 = some (.inr (0, [.int (0 : Int32), .int (0 : Int32), .int (0 : Int32), .int (0 : Int32), .ref (z + 113), .ref (z + 114), .ref (z + 115), .ref (z + 116), .ref (z + 117), .ref (z + 118)]))) : Mt G l z yX9_matter cX9_matter 3 (some .int) { frames := 1, cells := 0, slots := 0, locals := 21 } [.ref (z + 0), .int va, .int vb] u n (some (.int (-1000000001 : Int32))) u n := by
  refine mt_of (by decide +kernel) (Nat.le_of_ble_eq_true rfl) ?_
  intro p e s m below meth c C hr hlk hnm
  refine x_aload_n C 0 dX9_matter_0 rfl rfl ?_
  refine gfX9_65 C dX9_matter_1 h0 rfl ?_
  refine x_iload_n C 1 dX9_matter_4 rfl rfl ?_
  refine x_callV C cl_X1_hasMatter kmX9_176 (ci := 0) (b := 112) (As := [.int va]) (rest := []) rfl h112 (p_X1_hasMatter_0 u va hl_va hh_va) rfl rfl (Nat.le_of_ble_eq_true rfl) ⟨Nat.le_of_ble_eq_true rfl, Nat.le_of_ble_eq_true rfl⟩ ⟨Nat.le_of_ble_eq_true rfl, Nat.le_of_ble_eq_true rfl⟩ dX9_matter_5 ?_
  refine x_norm (st2 := [.int (0 : Int32)]) (kc2 := 0) (ks2 := 0) rfl rfl rfl rfl rfl ?_
  refine x_if_ne_f C 14 dX9_matter_8 (by decide) (by decide) ?_
  refine x_ldc C kcX9_179 dX9_matter_11 ?_
  exact x_iret C hr hlk (Nat.le_of_ble_eq_true rfl) (Nat.le_of_ble_eq_true rfl) dX9_matter_13 rfl rfl rfl
set_option maxRecDepth 20000 in
theorem p_X10_in_3 {G : GT} {l : Launch} {z n : Nat} (u : HpT) (va : Int32) (hl_va : -2147483648 ≤ va.toInt) (hh_va : va.toInt ≤ -1) : Mt G l z yX10_in cX10_in 3 (some .boolean) { frames := 0, cells := 0, slots := 0, locals := 0 } [.int va, .int (0 : Int32), .int (-1 : Int32)] u n (some (.int (0 : Int32))) u n := by
  refine mt_of (by decide +kernel) (Nat.le_of_ble_eq_true rfl) ?_
  intro p e s m below meth c C hr hlk hnm
  refine x_iload_n C 0 dX10_in_0 rfl rfl ?_
  refine x_iload_n C 1 dX10_in_1 rfl rfl ?_
  refine x_icmp_lt_t C 14 dX10_in_2 (by decide) (by simp only [Int32.lt_iff_toInt_lt, Int32.le_iff_toInt_le, i_eq_iff]; have e9 : (0 : Int32).toInt = 0 := (by decide); omega) ?_
  refine x_iconst (v := (0 : Int32)) C dX10_in_14 (by decide) ?_
  exact x_zret C hr hlk (Nat.le_of_ble_eq_true rfl) (Nat.le_of_ble_eq_true rfl) dX10_in_15 (by decide) rfl rfl rfl
set_option maxRecDepth 20000 in
theorem p_X10_isMatter_0 {G : GT} {l : Launch} {z n : Nat} (u : HpT) (va : Int32) (hl_va : -2147483648 ≤ va.toInt) (hh_va : va.toInt ≤ -1) (h134 : u 134 = some (.inr (9, [.int (0 : Int32), .ref (z + 135), .int (0 : Int32), .int (0 : Int32), .int (0 : Int32), .int (-1 : Int32), .int (0 : Int32), .int (0 : Int32), .int (0 : Int32), .int (0 : Int32), .ref (z + 136), .ref (z + 137), .ref (z + 138), .ref (z + 139), .ref (z + 140), .int (0 : Int32), .int (0 : Int32), .int (0 : Int32), .int (0 : Int32), .ref (z + 141), .ref (z + 142), .ref (z + 143), .ref (z + 144), .ref (z + 145), .ref (z + 146), .int (0 : Int32), .int (0 : Int32), .ref (z + 147), .long (0 : Int64), .ref (z + 148), .int (0 : Int32), .int (0 : Int32), .int (0 : Int32), .ref (z + 149), .int (0 : Int32), .ref (z + 150), .ref (z + 151), .int (0 : Int32), .ref (z + 152), .ref (z + 153), .ref (z + 154), .ref (z + 155), .ref (z + 156)]))) : Mt G l z yX10_isMatter cX10_isMatter 2 (some .boolean) { frames := 1, cells := 0, slots := 0, locals := 22 } [.ref (z + 134), .int va] u n (some (.int (0 : Int32))) u n := by
  refine mt_of (by decide +kernel) (Nat.le_of_ble_eq_true rfl) ?_
  intro p e s m below meth c C hr hlk hnm
  refine x_iload_n C 1 dX10_isMatter_0 rfl rfl ?_
  refine x_iconst (v := (0 : Int32)) C dX10_isMatter_1 (by decide) ?_
  refine x_aload_n C 0 dX10_isMatter_2 rfl rfl ?_
  refine gfX10_153 C dX10_isMatter_3 h134 rfl ?_
  refine x_iconst (v := (1 : Int32)) C dX10_isMatter_6 (by decide) ?_
  refine x_isub C dX10_isMatter_7 ?_
  refine x_eqi (w := (-1 : Int32)) (by decide) ?_
  refine x_callS C cl_X10_in kmX10_82 (As := [.int va, .int (0 : Int32), .int (-1 : Int32)]) (rest := []) (p_X10_in_3 u va hl_va hh_va) rfl rfl (Nat.le_of_ble_eq_true rfl) ⟨Nat.le_of_ble_eq_true rfl, Nat.le_of_ble_eq_true rfl⟩ ⟨Nat.le_of_ble_eq_true rfl, Nat.le_of_ble_eq_true rfl⟩ dX10_isMatter_8 ?_
  refine x_norm (st2 := [.int (0 : Int32)]) (kc2 := 0) (ks2 := 0) rfl rfl rfl rfl rfl ?_
  exact x_zret C hr hlk (Nat.le_of_ble_eq_true rfl) (Nat.le_of_ble_eq_true rfl) dX10_isMatter_11 (by decide) rfl rfl rfl
set_option maxRecDepth 20000 in
theorem p_X10_matter_0 {G : GT} {l : Launch} {z n : Nat} (u : HpT) (va : Int32) (hl_va : -2147483648 ≤ va.toInt) (hh_va : va.toInt ≤ -1) (vb : Int32) (hl_vb : -2147483648 ≤ vb.toInt) (hh_vb : vb.toInt ≤ 2147483647) (h134 : u 134 = some (.inr (9, [.int (0 : Int32), .ref (z + 135), .int (0 : Int32), .int (0 : Int32), .int (0 : Int32), .int (-1 : Int32), .int (0 : Int32), .int (0 : Int32), .int (0 : Int32), .int (0 : Int32), .ref (z + 136), .ref (z + 137), .ref (z + 138), .ref (z + 139), .ref (z + 140), .int (0 : Int32), .int (0 : Int32), .int (0 : Int32), .int (0 : Int32), .ref (z + 141), .ref (z + 142), .ref (z + 143), .ref (z + 144), .ref (z + 145), .ref (z + 146), .int (0 : Int32), .int (0 : Int32), .ref (z + 147), .long (0 : Int64), .ref (z + 148), .int (0 : Int32), .int (0 : Int32), .int (0 : Int32), .ref (z + 149), .int (0 : Int32), .ref (z + 150), .ref (z + 151), .int (0 : Int32), .ref (z + 152), .ref (z + 153), .ref (z + 154), .ref (z + 155), .ref (z + 156)]))) : Mt G l z yX10_matter cX10_matter 3 (some .int) { frames := 2, cells := 0, slots := 0, locals := 43 } [.ref (z + 134), .int va, .int vb] u n (some (.int (-1000000001 : Int32))) u n := by
  refine mt_of (by decide +kernel) (Nat.le_of_ble_eq_true rfl) ?_
  intro p e s m below meth c C hr hlk hnm
  refine x_aload_n C 0 dX10_matter_0 rfl rfl ?_
  refine x_iload_n C 1 dX10_matter_1 rfl rfl ?_
  refine x_callV C cl_X10_isMatter kmX10_190 (ci := 9) (b := 134) (As := [.int va]) (rest := []) rfl h134 (p_X10_isMatter_0 u va hl_va hh_va h134) rfl rfl (Nat.le_of_ble_eq_true rfl) ⟨Nat.le_of_ble_eq_true rfl, Nat.le_of_ble_eq_true rfl⟩ ⟨Nat.le_of_ble_eq_true rfl, Nat.le_of_ble_eq_true rfl⟩ dX10_matter_2 ?_
  refine x_norm (st2 := [.int (0 : Int32)]) (kc2 := 0) (ks2 := 0) rfl rfl rfl rfl rfl ?_
  refine x_if_ne_f C 11 dX10_matter_5 (by decide) (by decide) ?_
  refine x_ldc C kcX10_193 dX10_matter_8 ?_
  exact x_iret C hr hlk (Nat.le_of_ble_eq_true rfl) (Nat.le_of_ble_eq_true rfl) dX10_matter_10 rfl rfl rfl
set_option maxRecDepth 20000 in
theorem p_X1_hasMatter_1 {G : GT} {l : Launch} {z n : Nat} (u : HpT) (va : Int32) (hl_va : 0 ≤ va.toInt) (hh_va : va.toInt ≤ 2147483647) (h112 : u 112 = some (.inr (0, [.int (0 : Int32), .int (0 : Int32), .int (0 : Int32), .int (0 : Int32), .ref (z + 113), .ref (z + 114), .ref (z + 115), .ref (z + 116), .ref (z + 117), .ref (z + 118)]))) : Mt G l z yX1_hasMatter cX1_hasMatter 2 (some .boolean) { frames := 0, cells := 0, slots := 0, locals := 0 } [.ref (z + 112), .int va] u n (some (.int (0 : Int32))) u n := by
  refine mt_of (by decide +kernel) (Nat.le_of_ble_eq_true rfl) ?_
  intro p e s m below meth c C hr hlk hnm
  refine x_iload_n C 1 dX1_hasMatter_0 rfl rfl ?_
  refine x_if_lt_f C 22 dX1_hasMatter_1 (by decide) (by simp only [Int32.lt_iff_toInt_lt, Int32.le_iff_toInt_le, i_eq_iff]; have e9 : (0 : Int32).toInt = 0 := (by decide); omega) ?_
  refine x_iload_n C 1 dX1_hasMatter_4 rfl rfl ?_
  refine x_aload_n C 0 dX1_hasMatter_5 rfl rfl ?_
  refine gfX1_18 C dX1_hasMatter_6 h112 rfl ?_
  refine x_icmp_ge_t C 22 dX1_hasMatter_9 (by decide) (by simp only [Int32.lt_iff_toInt_lt, Int32.le_iff_toInt_le, i_eq_iff]; have e9 : (0 : Int32).toInt = 0 := (by decide); omega) ?_
  refine x_iconst (v := (0 : Int32)) C dX1_hasMatter_22 (by decide) ?_
  exact x_zret C hr hlk (Nat.le_of_ble_eq_true rfl) (Nat.le_of_ble_eq_true rfl) dX1_hasMatter_23 (by decide) rfl rfl rfl
set_option maxRecDepth 20000 in
theorem p_X9_matter_1 {G : GT} {l : Launch} {z n : Nat} (u : HpT) (va : Int32) (hl_va : 0 ≤ va.toInt) (hh_va : va.toInt ≤ 2147483647) (vb : Int32) (hl_vb : -2147483648 ≤ vb.toInt) (hh_vb : vb.toInt ≤ 2147483647) (h0 : u 0 = some (.inr (8, [.ref (z + 1), .ref (z + 3), .ref (z + 6), .ref (z + 98), .ref (z + 99), .ref (z + 101), .ref (z + 106), .ref (z + 109), .ref (z + 112), .ref (z + 119), .int (0 : Int32), .int (-1 : Int32)]))) (h112 : u 112 = some (.inr (0, [.int (0 : Int32), .int (0 : Int32), .int (0 : Int32), .int (0 : Int32), .ref (z + 113), .ref (z + 114), .ref (z + 115), .ref (z + 116), .ref (z + 117), .ref (z + 118)]))) : Mt G l z yX9_matter cX9_matter 3 (some .int) { frames := 1, cells := 0, slots := 0, locals := 21 } [.ref (z + 0), .int va, .int vb] u n (some (.int (-1000000001 : Int32))) u n := by
  refine mt_of (by decide +kernel) (Nat.le_of_ble_eq_true rfl) ?_
  intro p e s m below meth c C hr hlk hnm
  refine x_aload_n C 0 dX9_matter_0 rfl rfl ?_
  refine gfX9_65 C dX9_matter_1 h0 rfl ?_
  refine x_iload_n C 1 dX9_matter_4 rfl rfl ?_
  refine x_callV C cl_X1_hasMatter kmX9_176 (ci := 0) (b := 112) (As := [.int va]) (rest := []) rfl h112 (p_X1_hasMatter_1 u va hl_va hh_va h112) rfl rfl (Nat.le_of_ble_eq_true rfl) ⟨Nat.le_of_ble_eq_true rfl, Nat.le_of_ble_eq_true rfl⟩ ⟨Nat.le_of_ble_eq_true rfl, Nat.le_of_ble_eq_true rfl⟩ dX9_matter_5 ?_
  refine x_norm (st2 := [.int (0 : Int32)]) (kc2 := 0) (ks2 := 0) rfl rfl rfl rfl rfl ?_
  refine x_if_ne_f C 14 dX9_matter_8 (by decide) (by decide) ?_
  refine x_ldc C kcX9_179 dX9_matter_11 ?_
  exact x_iret C hr hlk (Nat.le_of_ble_eq_true rfl) (Nat.le_of_ble_eq_true rfl) dX9_matter_13 rfl rfl rfl
set_option maxRecDepth 20000 in
theorem p_X10_in_4 {G : GT} {l : Launch} {z n : Nat} (u : HpT) (va : Int32) (hl_va : 0 ≤ va.toInt) (hh_va : va.toInt ≤ 2147483647) : Mt G l z yX10_in cX10_in 3 (some .boolean) { frames := 0, cells := 0, slots := 0, locals := 0 } [.int va, .int (0 : Int32), .int (-1 : Int32)] u n (some (.int (0 : Int32))) u n := by
  refine mt_of (by decide +kernel) (Nat.le_of_ble_eq_true rfl) ?_
  intro p e s m below meth c C hr hlk hnm
  refine x_iload_n C 0 dX10_in_0 rfl rfl ?_
  refine x_iload_n C 1 dX10_in_1 rfl rfl ?_
  refine x_icmp_lt_f C 14 dX10_in_2 (by decide) (by simp only [Int32.lt_iff_toInt_lt, Int32.le_iff_toInt_le, i_eq_iff]; have e9 : (0 : Int32).toInt = 0 := (by decide); omega) ?_
  refine x_iload_n C 0 dX10_in_5 rfl rfl ?_
  refine x_iload_n C 2 dX10_in_6 rfl rfl ?_
  refine x_icmp_gt_t C 14 dX10_in_7 (by decide) (by simp only [Int32.lt_iff_toInt_lt, Int32.le_iff_toInt_le, i_eq_iff]; have e9 : (-1 : Int32).toInt = -1 := (by decide); omega) ?_
  refine x_iconst (v := (0 : Int32)) C dX10_in_14 (by decide) ?_
  exact x_zret C hr hlk (Nat.le_of_ble_eq_true rfl) (Nat.le_of_ble_eq_true rfl) dX10_in_15 (by decide) rfl rfl rfl
set_option maxRecDepth 20000 in
theorem p_X10_isMatter_1 {G : GT} {l : Launch} {z n : Nat} (u : HpT) (va : Int32) (hl_va : 0 ≤ va.toInt) (hh_va : va.toInt ≤ 2147483647) (h134 : u 134 = some (.inr (9, [.int (0 : Int32), .ref (z + 135), .int (0 : Int32), .int (0 : Int32), .int (0 : Int32), .int (-1 : Int32), .int (0 : Int32), .int (0 : Int32), .int (0 : Int32), .int (0 : Int32), .ref (z + 136), .ref (z + 137), .ref (z + 138), .ref (z + 139), .ref (z + 140), .int (0 : Int32), .int (0 : Int32), .int (0 : Int32), .int (0 : Int32), .ref (z + 141), .ref (z + 142), .ref (z + 143), .ref (z + 144), .ref (z + 145), .ref (z + 146), .int (0 : Int32), .int (0 : Int32), .ref (z + 147), .long (0 : Int64), .ref (z + 148), .int (0 : Int32), .int (0 : Int32), .int (0 : Int32), .ref (z + 149), .int (0 : Int32), .ref (z + 150), .ref (z + 151), .int (0 : Int32), .ref (z + 152), .ref (z + 153), .ref (z + 154), .ref (z + 155), .ref (z + 156)]))) : Mt G l z yX10_isMatter cX10_isMatter 2 (some .boolean) { frames := 1, cells := 0, slots := 0, locals := 22 } [.ref (z + 134), .int va] u n (some (.int (0 : Int32))) u n := by
  refine mt_of (by decide +kernel) (Nat.le_of_ble_eq_true rfl) ?_
  intro p e s m below meth c C hr hlk hnm
  refine x_iload_n C 1 dX10_isMatter_0 rfl rfl ?_
  refine x_iconst (v := (0 : Int32)) C dX10_isMatter_1 (by decide) ?_
  refine x_aload_n C 0 dX10_isMatter_2 rfl rfl ?_
  refine gfX10_153 C dX10_isMatter_3 h134 rfl ?_
  refine x_iconst (v := (1 : Int32)) C dX10_isMatter_6 (by decide) ?_
  refine x_isub C dX10_isMatter_7 ?_
  refine x_eqi (w := (-1 : Int32)) (by decide) ?_
  refine x_callS C cl_X10_in kmX10_82 (As := [.int va, .int (0 : Int32), .int (-1 : Int32)]) (rest := []) (p_X10_in_4 u va hl_va hh_va) rfl rfl (Nat.le_of_ble_eq_true rfl) ⟨Nat.le_of_ble_eq_true rfl, Nat.le_of_ble_eq_true rfl⟩ ⟨Nat.le_of_ble_eq_true rfl, Nat.le_of_ble_eq_true rfl⟩ dX10_isMatter_8 ?_
  refine x_norm (st2 := [.int (0 : Int32)]) (kc2 := 0) (ks2 := 0) rfl rfl rfl rfl rfl ?_
  exact x_zret C hr hlk (Nat.le_of_ble_eq_true rfl) (Nat.le_of_ble_eq_true rfl) dX10_isMatter_11 (by decide) rfl rfl rfl
set_option maxRecDepth 20000 in
theorem p_X10_matter_1 {G : GT} {l : Launch} {z n : Nat} (u : HpT) (va : Int32) (hl_va : 0 ≤ va.toInt) (hh_va : va.toInt ≤ 2147483647) (vb : Int32) (hl_vb : -2147483648 ≤ vb.toInt) (hh_vb : vb.toInt ≤ 2147483647) (h134 : u 134 = some (.inr (9, [.int (0 : Int32), .ref (z + 135), .int (0 : Int32), .int (0 : Int32), .int (0 : Int32), .int (-1 : Int32), .int (0 : Int32), .int (0 : Int32), .int (0 : Int32), .int (0 : Int32), .ref (z + 136), .ref (z + 137), .ref (z + 138), .ref (z + 139), .ref (z + 140), .int (0 : Int32), .int (0 : Int32), .int (0 : Int32), .int (0 : Int32), .ref (z + 141), .ref (z + 142), .ref (z + 143), .ref (z + 144), .ref (z + 145), .ref (z + 146), .int (0 : Int32), .int (0 : Int32), .ref (z + 147), .long (0 : Int64), .ref (z + 148), .int (0 : Int32), .int (0 : Int32), .int (0 : Int32), .ref (z + 149), .int (0 : Int32), .ref (z + 150), .ref (z + 151), .int (0 : Int32), .ref (z + 152), .ref (z + 153), .ref (z + 154), .ref (z + 155), .ref (z + 156)]))) : Mt G l z yX10_matter cX10_matter 3 (some .int) { frames := 2, cells := 0, slots := 0, locals := 43 } [.ref (z + 134), .int va, .int vb] u n (some (.int (-1000000001 : Int32))) u n := by
  refine mt_of (by decide +kernel) (Nat.le_of_ble_eq_true rfl) ?_
  intro p e s m below meth c C hr hlk hnm
  refine x_aload_n C 0 dX10_matter_0 rfl rfl ?_
  refine x_iload_n C 1 dX10_matter_1 rfl rfl ?_
  refine x_callV C cl_X10_isMatter kmX10_190 (ci := 9) (b := 134) (As := [.int va]) (rest := []) rfl h134 (p_X10_isMatter_1 u va hl_va hh_va h134) rfl rfl (Nat.le_of_ble_eq_true rfl) ⟨Nat.le_of_ble_eq_true rfl, Nat.le_of_ble_eq_true rfl⟩ ⟨Nat.le_of_ble_eq_true rfl, Nat.le_of_ble_eq_true rfl⟩ dX10_matter_2 ?_
  refine x_norm (st2 := [.int (0 : Int32)]) (kc2 := 0) (ks2 := 0) rfl rfl rfl rfl rfl ?_
  refine x_if_ne_f C 11 dX10_matter_5 (by decide) (by decide) ?_
  refine x_ldc C kcX10_193 dX10_matter_8 ?_
  exact x_iret C hr hlk (Nat.le_of_ble_eq_true rfl) (Nat.le_of_ble_eq_true rfl) dX10_matter_10 rfl rfl rfl
set_option maxRecDepth 20000 in
theorem p_X1_hasTraveller_0 {G : GT} {l : Launch} {z n : Nat} (u : HpT) (va : Int32) (hl_va : -2147483648 ≤ va.toInt) (hh_va : va.toInt ≤ -1) : Mt G l z yX1_hasTraveller cX1_hasTraveller 2 (some .boolean) { frames := 0, cells := 0, slots := 0, locals := 0 } [.ref (z + 112), .int va] u n (some (.int (0 : Int32))) u n := by
  refine mt_of (by decide +kernel) (Nat.le_of_ble_eq_true rfl) ?_
  intro p e s m below meth c C hr hlk hnm
  refine x_iload_n C 1 dX1_hasTraveller_0 rfl rfl ?_
  refine x_if_lt_t C 22 dX1_hasTraveller_1 (by decide) (by simp only [Int32.lt_iff_toInt_lt, Int32.le_iff_toInt_le, i_eq_iff]; have e9 : (0 : Int32).toInt = 0 := (by decide); omega) ?_
  refine x_iconst (v := (0 : Int32)) C dX1_hasTraveller_22 (by decide) ?_
  exact x_zret C hr hlk (Nat.le_of_ble_eq_true rfl) (Nat.le_of_ble_eq_true rfl) dX1_hasTraveller_23 (by decide) rfl rfl rfl
set_option maxRecDepth 20000 in
theorem p_X9_traveller_0 {G : GT} {l : Launch} {z n : Nat} (u : HpT) (va : Int32) (hl_va : -2147483648 ≤ va.toInt) (hh_va : va.toInt ≤ -1) (vb : Int32) (hl_vb : -2147483648 ≤ vb.toInt) (hh_vb : vb.toInt ≤ 2147483647) (h0 : u 0 = some (.inr (8, [.ref (z + 1), .ref (z + 3), .ref (z + 6), .ref (z + 98), .ref (z + 99), .ref (z + 101), .ref (z + 106), .ref (z + 109), .ref (z + 112), .ref (z + 119), .int (0 : Int32), .int (-1 : Int32)]))) (h112 : u 112 = some (.inr (0, [.int (0 : Int32), .int (0 : Int32), .int (0 : Int32), .int (0 : Int32), .ref (z + 113), .ref (z + 114), .ref (z + 115), .ref (z + 116), .ref (z + 117), .ref (z + 118)]))) : Mt G l z yX9_traveller cX9_traveller 3 (some .int) { frames := 1, cells := 0, slots := 0, locals := 21 } [.ref (z + 0), .int va, .int vb] u n (some (.int (-1000000001 : Int32))) u n := by
  refine mt_of (by decide +kernel) (Nat.le_of_ble_eq_true rfl) ?_
  intro p e s m below meth c C hr hlk hnm
  refine x_aload_n C 0 dX9_traveller_0 rfl rfl ?_
  refine gfX9_65 C dX9_traveller_1 h0 rfl ?_
  refine x_iload_n C 1 dX9_traveller_4 rfl rfl ?_
  refine x_callV C cl_X1_hasTraveller kmX9_193 (ci := 0) (b := 112) (As := [.int va]) (rest := []) rfl h112 (p_X1_hasTraveller_0 u va hl_va hh_va) rfl rfl (Nat.le_of_ble_eq_true rfl) ⟨Nat.le_of_ble_eq_true rfl, Nat.le_of_ble_eq_true rfl⟩ ⟨Nat.le_of_ble_eq_true rfl, Nat.le_of_ble_eq_true rfl⟩ dX9_traveller_5 ?_
  refine x_norm (st2 := [.int (0 : Int32)]) (kc2 := 0) (ks2 := 0) rfl rfl rfl rfl rfl ?_
  refine x_if_ne_f C 14 dX9_traveller_8 (by decide) (by decide) ?_
  refine x_ldc C kcX9_179 dX9_traveller_11 ?_
  exact x_iret C hr hlk (Nat.le_of_ble_eq_true rfl) (Nat.le_of_ble_eq_true rfl) dX9_traveller_13 rfl rfl rfl
set_option maxRecDepth 20000 in
theorem p_X10_isTraveller_0 {G : GT} {l : Launch} {z n : Nat} (u : HpT) (va : Int32) (hl_va : -2147483648 ≤ va.toInt) (hh_va : va.toInt ≤ -1) (h134 : u 134 = some (.inr (9, [.int (0 : Int32), .ref (z + 135), .int (0 : Int32), .int (0 : Int32), .int (0 : Int32), .int (-1 : Int32), .int (0 : Int32), .int (0 : Int32), .int (0 : Int32), .int (0 : Int32), .ref (z + 136), .ref (z + 137), .ref (z + 138), .ref (z + 139), .ref (z + 140), .int (0 : Int32), .int (0 : Int32), .int (0 : Int32), .int (0 : Int32), .ref (z + 141), .ref (z + 142), .ref (z + 143), .ref (z + 144), .ref (z + 145), .ref (z + 146), .int (0 : Int32), .int (0 : Int32), .ref (z + 147), .long (0 : Int64), .ref (z + 148), .int (0 : Int32), .int (0 : Int32), .int (0 : Int32), .ref (z + 149), .int (0 : Int32), .ref (z + 150), .ref (z + 151), .int (0 : Int32), .ref (z + 152), .ref (z + 153), .ref (z + 154), .ref (z + 155), .ref (z + 156)]))) : Mt G l z yX10_isTraveller cX10_isTraveller 2 (some .boolean) { frames := 1, cells := 0, slots := 0, locals := 22 } [.ref (z + 134), .int va] u n (some (.int (0 : Int32))) u n := by
  refine mt_of (by decide +kernel) (Nat.le_of_ble_eq_true rfl) ?_
  intro p e s m below meth c C hr hlk hnm
  refine x_iload_n C 1 dX10_isTraveller_0 rfl rfl ?_
  refine x_iconst (v := (0 : Int32)) C dX10_isTraveller_1 (by decide) ?_
  refine x_aload_n C 0 dX10_isTraveller_2 rfl rfl ?_
  refine gfX10_156 C dX10_isTraveller_3 h134 rfl ?_
  refine x_iconst (v := (1 : Int32)) C dX10_isTraveller_6 (by decide) ?_
  refine x_isub C dX10_isTraveller_7 ?_
  refine x_eqi (w := (-1 : Int32)) (by decide) ?_
  refine x_callS C cl_X10_in kmX10_82 (As := [.int va, .int (0 : Int32), .int (-1 : Int32)]) (rest := []) (p_X10_in_3 u va hl_va hh_va) rfl rfl (Nat.le_of_ble_eq_true rfl) ⟨Nat.le_of_ble_eq_true rfl, Nat.le_of_ble_eq_true rfl⟩ ⟨Nat.le_of_ble_eq_true rfl, Nat.le_of_ble_eq_true rfl⟩ dX10_isTraveller_8 ?_
  refine x_norm (st2 := [.int (0 : Int32)]) (kc2 := 0) (ks2 := 0) rfl rfl rfl rfl rfl ?_
  exact x_zret C hr hlk (Nat.le_of_ble_eq_true rfl) (Nat.le_of_ble_eq_true rfl) dX10_isTraveller_11 (by decide) rfl rfl rfl
set_option maxRecDepth 20000 in
theorem p_X10_traveller_0 {G : GT} {l : Launch} {z n : Nat} (u : HpT) (va : Int32) (hl_va : -2147483648 ≤ va.toInt) (hh_va : va.toInt ≤ -1) (vb : Int32) (hl_vb : -2147483648 ≤ vb.toInt) (hh_vb : vb.toInt ≤ 2147483647) (h134 : u 134 = some (.inr (9, [.int (0 : Int32), .ref (z + 135), .int (0 : Int32), .int (0 : Int32), .int (0 : Int32), .int (-1 : Int32), .int (0 : Int32), .int (0 : Int32), .int (0 : Int32), .int (0 : Int32), .ref (z + 136), .ref (z + 137), .ref (z + 138), .ref (z + 139), .ref (z + 140), .int (0 : Int32), .int (0 : Int32), .int (0 : Int32), .int (0 : Int32), .ref (z + 141), .ref (z + 142), .ref (z + 143), .ref (z + 144), .ref (z + 145), .ref (z + 146), .int (0 : Int32), .int (0 : Int32), .ref (z + 147), .long (0 : Int64), .ref (z + 148), .int (0 : Int32), .int (0 : Int32), .int (0 : Int32), .ref (z + 149), .int (0 : Int32), .ref (z + 150), .ref (z + 151), .int (0 : Int32), .ref (z + 152), .ref (z + 153), .ref (z + 154), .ref (z + 155), .ref (z + 156)]))) : Mt G l z yX10_traveller cX10_traveller 3 (some .int) { frames := 2, cells := 0, slots := 0, locals := 43 } [.ref (z + 134), .int va, .int vb] u n (some (.int (-1000000001 : Int32))) u n := by
  refine mt_of (by decide +kernel) (Nat.le_of_ble_eq_true rfl) ?_
  intro p e s m below meth c C hr hlk hnm
  refine x_aload_n C 0 dX10_traveller_0 rfl rfl ?_
  refine x_iload_n C 1 dX10_traveller_1 rfl rfl ?_
  refine x_callV C cl_X10_isTraveller kmX10_203 (ci := 9) (b := 134) (As := [.int va]) (rest := []) rfl h134 (p_X10_isTraveller_0 u va hl_va hh_va h134) rfl rfl (Nat.le_of_ble_eq_true rfl) ⟨Nat.le_of_ble_eq_true rfl, Nat.le_of_ble_eq_true rfl⟩ ⟨Nat.le_of_ble_eq_true rfl, Nat.le_of_ble_eq_true rfl⟩ dX10_traveller_2 ?_
  refine x_norm (st2 := [.int (0 : Int32)]) (kc2 := 0) (ks2 := 0) rfl rfl rfl rfl rfl ?_
  refine x_if_ne_f C 11 dX10_traveller_5 (by decide) (by decide) ?_
  refine x_ldc C kcX10_193 dX10_traveller_8 ?_
  exact x_iret C hr hlk (Nat.le_of_ble_eq_true rfl) (Nat.le_of_ble_eq_true rfl) dX10_traveller_10 rfl rfl rfl
set_option maxRecDepth 20000 in
theorem p_X1_hasTraveller_1 {G : GT} {l : Launch} {z n : Nat} (u : HpT) (va : Int32) (hl_va : 0 ≤ va.toInt) (hh_va : va.toInt ≤ 2147483647) (h112 : u 112 = some (.inr (0, [.int (0 : Int32), .int (0 : Int32), .int (0 : Int32), .int (0 : Int32), .ref (z + 113), .ref (z + 114), .ref (z + 115), .ref (z + 116), .ref (z + 117), .ref (z + 118)]))) : Mt G l z yX1_hasTraveller cX1_hasTraveller 2 (some .boolean) { frames := 0, cells := 0, slots := 0, locals := 0 } [.ref (z + 112), .int va] u n (some (.int (0 : Int32))) u n := by
  refine mt_of (by decide +kernel) (Nat.le_of_ble_eq_true rfl) ?_
  intro p e s m below meth c C hr hlk hnm
  refine x_iload_n C 1 dX1_hasTraveller_0 rfl rfl ?_
  refine x_if_lt_f C 22 dX1_hasTraveller_1 (by decide) (by simp only [Int32.lt_iff_toInt_lt, Int32.le_iff_toInt_le, i_eq_iff]; have e9 : (0 : Int32).toInt = 0 := (by decide); omega) ?_
  refine x_iload_n C 1 dX1_hasTraveller_4 rfl rfl ?_
  refine x_aload_n C 0 dX1_hasTraveller_5 rfl rfl ?_
  refine gfX1_21 C dX1_hasTraveller_6 h112 rfl ?_
  refine x_icmp_ge_t C 22 dX1_hasTraveller_9 (by decide) (by simp only [Int32.lt_iff_toInt_lt, Int32.le_iff_toInt_le, i_eq_iff]; have e9 : (0 : Int32).toInt = 0 := (by decide); omega) ?_
  refine x_iconst (v := (0 : Int32)) C dX1_hasTraveller_22 (by decide) ?_
  exact x_zret C hr hlk (Nat.le_of_ble_eq_true rfl) (Nat.le_of_ble_eq_true rfl) dX1_hasTraveller_23 (by decide) rfl rfl rfl
set_option maxRecDepth 20000 in
theorem p_X9_traveller_1 {G : GT} {l : Launch} {z n : Nat} (u : HpT) (va : Int32) (hl_va : 0 ≤ va.toInt) (hh_va : va.toInt ≤ 2147483647) (vb : Int32) (hl_vb : -2147483648 ≤ vb.toInt) (hh_vb : vb.toInt ≤ 2147483647) (h0 : u 0 = some (.inr (8, [.ref (z + 1), .ref (z + 3), .ref (z + 6), .ref (z + 98), .ref (z + 99), .ref (z + 101), .ref (z + 106), .ref (z + 109), .ref (z + 112), .ref (z + 119), .int (0 : Int32), .int (-1 : Int32)]))) (h112 : u 112 = some (.inr (0, [.int (0 : Int32), .int (0 : Int32), .int (0 : Int32), .int (0 : Int32), .ref (z + 113), .ref (z + 114), .ref (z + 115), .ref (z + 116), .ref (z + 117), .ref (z + 118)]))) : Mt G l z yX9_traveller cX9_traveller 3 (some .int) { frames := 1, cells := 0, slots := 0, locals := 21 } [.ref (z + 0), .int va, .int vb] u n (some (.int (-1000000001 : Int32))) u n := by
  refine mt_of (by decide +kernel) (Nat.le_of_ble_eq_true rfl) ?_
  intro p e s m below meth c C hr hlk hnm
  refine x_aload_n C 0 dX9_traveller_0 rfl rfl ?_
  refine gfX9_65 C dX9_traveller_1 h0 rfl ?_
  refine x_iload_n C 1 dX9_traveller_4 rfl rfl ?_
  refine x_callV C cl_X1_hasTraveller kmX9_193 (ci := 0) (b := 112) (As := [.int va]) (rest := []) rfl h112 (p_X1_hasTraveller_1 u va hl_va hh_va h112) rfl rfl (Nat.le_of_ble_eq_true rfl) ⟨Nat.le_of_ble_eq_true rfl, Nat.le_of_ble_eq_true rfl⟩ ⟨Nat.le_of_ble_eq_true rfl, Nat.le_of_ble_eq_true rfl⟩ dX9_traveller_5 ?_
  refine x_norm (st2 := [.int (0 : Int32)]) (kc2 := 0) (ks2 := 0) rfl rfl rfl rfl rfl ?_
  refine x_if_ne_f C 14 dX9_traveller_8 (by decide) (by decide) ?_
  refine x_ldc C kcX9_179 dX9_traveller_11 ?_
  exact x_iret C hr hlk (Nat.le_of_ble_eq_true rfl) (Nat.le_of_ble_eq_true rfl) dX9_traveller_13 rfl rfl rfl
set_option maxRecDepth 20000 in
theorem p_X10_isTraveller_1 {G : GT} {l : Launch} {z n : Nat} (u : HpT) (va : Int32) (hl_va : 0 ≤ va.toInt) (hh_va : va.toInt ≤ 2147483647) (h134 : u 134 = some (.inr (9, [.int (0 : Int32), .ref (z + 135), .int (0 : Int32), .int (0 : Int32), .int (0 : Int32), .int (-1 : Int32), .int (0 : Int32), .int (0 : Int32), .int (0 : Int32), .int (0 : Int32), .ref (z + 136), .ref (z + 137), .ref (z + 138), .ref (z + 139), .ref (z + 140), .int (0 : Int32), .int (0 : Int32), .int (0 : Int32), .int (0 : Int32), .ref (z + 141), .ref (z + 142), .ref (z + 143), .ref (z + 144), .ref (z + 145), .ref (z + 146), .int (0 : Int32), .int (0 : Int32), .ref (z + 147), .long (0 : Int64), .ref (z + 148), .int (0 : Int32), .int (0 : Int32), .int (0 : Int32), .ref (z + 149), .int (0 : Int32), .ref (z + 150), .ref (z + 151), .int (0 : Int32), .ref (z + 152), .ref (z + 153), .ref (z + 154), .ref (z + 155), .ref (z + 156)]))) : Mt G l z yX10_isTraveller cX10_isTraveller 2 (some .boolean) { frames := 1, cells := 0, slots := 0, locals := 22 } [.ref (z + 134), .int va] u n (some (.int (0 : Int32))) u n := by
  refine mt_of (by decide +kernel) (Nat.le_of_ble_eq_true rfl) ?_
  intro p e s m below meth c C hr hlk hnm
  refine x_iload_n C 1 dX10_isTraveller_0 rfl rfl ?_
  refine x_iconst (v := (0 : Int32)) C dX10_isTraveller_1 (by decide) ?_
  refine x_aload_n C 0 dX10_isTraveller_2 rfl rfl ?_
  refine gfX10_156 C dX10_isTraveller_3 h134 rfl ?_
  refine x_iconst (v := (1 : Int32)) C dX10_isTraveller_6 (by decide) ?_
  refine x_isub C dX10_isTraveller_7 ?_
  refine x_eqi (w := (-1 : Int32)) (by decide) ?_
  refine x_callS C cl_X10_in kmX10_82 (As := [.int va, .int (0 : Int32), .int (-1 : Int32)]) (rest := []) (p_X10_in_4 u va hl_va hh_va) rfl rfl (Nat.le_of_ble_eq_true rfl) ⟨Nat.le_of_ble_eq_true rfl, Nat.le_of_ble_eq_true rfl⟩ ⟨Nat.le_of_ble_eq_true rfl, Nat.le_of_ble_eq_true rfl⟩ dX10_isTraveller_8 ?_
  refine x_norm (st2 := [.int (0 : Int32)]) (kc2 := 0) (ks2 := 0) rfl rfl rfl rfl rfl ?_
  exact x_zret C hr hlk (Nat.le_of_ble_eq_true rfl) (Nat.le_of_ble_eq_true rfl) dX10_isTraveller_11 (by decide) rfl rfl rfl
set_option maxRecDepth 20000 in
theorem p_X10_traveller_1 {G : GT} {l : Launch} {z n : Nat} (u : HpT) (va : Int32) (hl_va : 0 ≤ va.toInt) (hh_va : va.toInt ≤ 2147483647) (vb : Int32) (hl_vb : -2147483648 ≤ vb.toInt) (hh_vb : vb.toInt ≤ 2147483647) (h134 : u 134 = some (.inr (9, [.int (0 : Int32), .ref (z + 135), .int (0 : Int32), .int (0 : Int32), .int (0 : Int32), .int (-1 : Int32), .int (0 : Int32), .int (0 : Int32), .int (0 : Int32), .int (0 : Int32), .ref (z + 136), .ref (z + 137), .ref (z + 138), .ref (z + 139), .ref (z + 140), .int (0 : Int32), .int (0 : Int32), .int (0 : Int32), .int (0 : Int32), .ref (z + 141), .ref (z + 142), .ref (z + 143), .ref (z + 144), .ref (z + 145), .ref (z + 146), .int (0 : Int32), .int (0 : Int32), .ref (z + 147), .long (0 : Int64), .ref (z + 148), .int (0 : Int32), .int (0 : Int32), .int (0 : Int32), .ref (z + 149), .int (0 : Int32), .ref (z + 150), .ref (z + 151), .int (0 : Int32), .ref (z + 152), .ref (z + 153), .ref (z + 154), .ref (z + 155), .ref (z + 156)]))) : Mt G l z yX10_traveller cX10_traveller 3 (some .int) { frames := 2, cells := 0, slots := 0, locals := 43 } [.ref (z + 134), .int va, .int vb] u n (some (.int (-1000000001 : Int32))) u n := by
  refine mt_of (by decide +kernel) (Nat.le_of_ble_eq_true rfl) ?_
  intro p e s m below meth c C hr hlk hnm
  refine x_aload_n C 0 dX10_traveller_0 rfl rfl ?_
  refine x_iload_n C 1 dX10_traveller_1 rfl rfl ?_
  refine x_callV C cl_X10_isTraveller kmX10_203 (ci := 9) (b := 134) (As := [.int va]) (rest := []) rfl h134 (p_X10_isTraveller_1 u va hl_va hh_va h134) rfl rfl (Nat.le_of_ble_eq_true rfl) ⟨Nat.le_of_ble_eq_true rfl, Nat.le_of_ble_eq_true rfl⟩ ⟨Nat.le_of_ble_eq_true rfl, Nat.le_of_ble_eq_true rfl⟩ dX10_traveller_2 ?_
  refine x_norm (st2 := [.int (0 : Int32)]) (kc2 := 0) (ks2 := 0) rfl rfl rfl rfl rfl ?_
  refine x_if_ne_f C 11 dX10_traveller_5 (by decide) (by decide) ?_
  refine x_ldc C kcX10_193 dX10_traveller_8 ?_
  exact x_iret C hr hlk (Nat.le_of_ble_eq_true rfl) (Nat.le_of_ble_eq_true rfl) dX10_traveller_10 rfl rfl rfl
set_option maxRecDepth 20000 in
theorem p_X9_seat_0 {G : GT} {l : Launch} {z n : Nat} (u : HpT) (va : Int32) (hl_va : -2147483648 ≤ va.toInt) (hh_va : va.toInt ≤ -1) (h0 : u 0 = some (.inr (8, [.ref (z + 1), .ref (z + 3), .ref (z + 6), .ref (z + 98), .ref (z + 99), .ref (z + 101), .ref (z + 106), .ref (z + 109), .ref (z + 112), .ref (z + 119), .int (0 : Int32), .int (-1 : Int32)]))) (h112 : u 112 = some (.inr (0, [.int (0 : Int32), .int (0 : Int32), .int (0 : Int32), .int (0 : Int32), .ref (z + 113), .ref (z + 114), .ref (z + 115), .ref (z + 116), .ref (z + 117), .ref (z + 118)]))) : Mt G l z yX9_seat cX9_seat 2 (some .int) { frames := 1, cells := 0, slots := 0, locals := 21 } [.ref (z + 0), .int va] u n (some (.int (-1000000001 : Int32))) u n := by
  refine mt_of (by decide +kernel) (Nat.le_of_ble_eq_true rfl) ?_
  intro p e s m below meth c C hr hlk hnm
  refine x_aload_n C 0 dX9_seat_0 rfl rfl ?_
  refine gfX9_65 C dX9_seat_1 h0 rfl ?_
  refine x_iload_n C 1 dX9_seat_4 rfl rfl ?_
  refine x_callV C cl_X1_hasTraveller kmX9_193 (ci := 0) (b := 112) (As := [.int va]) (rest := []) rfl h112 (p_X1_hasTraveller_0 u va hl_va hh_va) rfl rfl (Nat.le_of_ble_eq_true rfl) ⟨Nat.le_of_ble_eq_true rfl, Nat.le_of_ble_eq_true rfl⟩ ⟨Nat.le_of_ble_eq_true rfl, Nat.le_of_ble_eq_true rfl⟩ dX9_seat_5 ?_
  refine x_norm (st2 := [.int (0 : Int32)]) (kc2 := 0) (ks2 := 0) rfl rfl rfl rfl rfl ?_
  refine x_if_ne_f C 14 dX9_seat_8 (by decide) (by decide) ?_
  refine x_ldc C kcX9_179 dX9_seat_11 ?_
  exact x_iret C hr hlk (Nat.le_of_ble_eq_true rfl) (Nat.le_of_ble_eq_true rfl) dX9_seat_13 rfl rfl rfl
set_option maxRecDepth 20000 in
theorem p_X10_seat_0 {G : GT} {l : Launch} {z n : Nat} (u : HpT) (va : Int32) (hl_va : -2147483648 ≤ va.toInt) (hh_va : va.toInt ≤ -1) (h134 : u 134 = some (.inr (9, [.int (0 : Int32), .ref (z + 135), .int (0 : Int32), .int (0 : Int32), .int (0 : Int32), .int (-1 : Int32), .int (0 : Int32), .int (0 : Int32), .int (0 : Int32), .int (0 : Int32), .ref (z + 136), .ref (z + 137), .ref (z + 138), .ref (z + 139), .ref (z + 140), .int (0 : Int32), .int (0 : Int32), .int (0 : Int32), .int (0 : Int32), .ref (z + 141), .ref (z + 142), .ref (z + 143), .ref (z + 144), .ref (z + 145), .ref (z + 146), .int (0 : Int32), .int (0 : Int32), .ref (z + 147), .long (0 : Int64), .ref (z + 148), .int (0 : Int32), .int (0 : Int32), .int (0 : Int32), .ref (z + 149), .int (0 : Int32), .ref (z + 150), .ref (z + 151), .int (0 : Int32), .ref (z + 152), .ref (z + 153), .ref (z + 154), .ref (z + 155), .ref (z + 156)]))) : Mt G l z yX10_seat cX10_seat 2 (some .int) { frames := 2, cells := 0, slots := 0, locals := 43 } [.ref (z + 134), .int va] u n (some (.int (-1000000001 : Int32))) u n := by
  refine mt_of (by decide +kernel) (Nat.le_of_ble_eq_true rfl) ?_
  intro p e s m below meth c C hr hlk hnm
  refine x_aload_n C 0 dX10_seat_0 rfl rfl ?_
  refine x_iload_n C 1 dX10_seat_1 rfl rfl ?_
  refine x_callV C cl_X10_isTraveller kmX10_203 (ci := 9) (b := 134) (As := [.int va]) (rest := []) rfl h134 (p_X10_isTraveller_0 u va hl_va hh_va h134) rfl rfl (Nat.le_of_ble_eq_true rfl) ⟨Nat.le_of_ble_eq_true rfl, Nat.le_of_ble_eq_true rfl⟩ ⟨Nat.le_of_ble_eq_true rfl, Nat.le_of_ble_eq_true rfl⟩ dX10_seat_2 ?_
  refine x_norm (st2 := [.int (0 : Int32)]) (kc2 := 0) (ks2 := 0) rfl rfl rfl rfl rfl ?_
  refine x_if_ne_f C 11 dX10_seat_5 (by decide) (by decide) ?_
  refine x_ldc C kcX10_193 dX10_seat_8 ?_
  exact x_iret C hr hlk (Nat.le_of_ble_eq_true rfl) (Nat.le_of_ble_eq_true rfl) dX10_seat_10 rfl rfl rfl
set_option maxRecDepth 20000 in
theorem p_X9_seat_1 {G : GT} {l : Launch} {z n : Nat} (u : HpT) (va : Int32) (hl_va : 0 ≤ va.toInt) (hh_va : va.toInt ≤ 2147483647) (h0 : u 0 = some (.inr (8, [.ref (z + 1), .ref (z + 3), .ref (z + 6), .ref (z + 98), .ref (z + 99), .ref (z + 101), .ref (z + 106), .ref (z + 109), .ref (z + 112), .ref (z + 119), .int (0 : Int32), .int (-1 : Int32)]))) (h112 : u 112 = some (.inr (0, [.int (0 : Int32), .int (0 : Int32), .int (0 : Int32), .int (0 : Int32), .ref (z + 113), .ref (z + 114), .ref (z + 115), .ref (z + 116), .ref (z + 117), .ref (z + 118)]))) : Mt G l z yX9_seat cX9_seat 2 (some .int) { frames := 1, cells := 0, slots := 0, locals := 21 } [.ref (z + 0), .int va] u n (some (.int (-1000000001 : Int32))) u n := by
  refine mt_of (by decide +kernel) (Nat.le_of_ble_eq_true rfl) ?_
  intro p e s m below meth c C hr hlk hnm
  refine x_aload_n C 0 dX9_seat_0 rfl rfl ?_
  refine gfX9_65 C dX9_seat_1 h0 rfl ?_
  refine x_iload_n C 1 dX9_seat_4 rfl rfl ?_
  refine x_callV C cl_X1_hasTraveller kmX9_193 (ci := 0) (b := 112) (As := [.int va]) (rest := []) rfl h112 (p_X1_hasTraveller_1 u va hl_va hh_va h112) rfl rfl (Nat.le_of_ble_eq_true rfl) ⟨Nat.le_of_ble_eq_true rfl, Nat.le_of_ble_eq_true rfl⟩ ⟨Nat.le_of_ble_eq_true rfl, Nat.le_of_ble_eq_true rfl⟩ dX9_seat_5 ?_
  refine x_norm (st2 := [.int (0 : Int32)]) (kc2 := 0) (ks2 := 0) rfl rfl rfl rfl rfl ?_
  refine x_if_ne_f C 14 dX9_seat_8 (by decide) (by decide) ?_
  refine x_ldc C kcX9_179 dX9_seat_11 ?_
  exact x_iret C hr hlk (Nat.le_of_ble_eq_true rfl) (Nat.le_of_ble_eq_true rfl) dX9_seat_13 rfl rfl rfl
set_option maxRecDepth 20000 in
theorem p_X10_seat_1 {G : GT} {l : Launch} {z n : Nat} (u : HpT) (va : Int32) (hl_va : 0 ≤ va.toInt) (hh_va : va.toInt ≤ 2147483647) (h134 : u 134 = some (.inr (9, [.int (0 : Int32), .ref (z + 135), .int (0 : Int32), .int (0 : Int32), .int (0 : Int32), .int (-1 : Int32), .int (0 : Int32), .int (0 : Int32), .int (0 : Int32), .int (0 : Int32), .ref (z + 136), .ref (z + 137), .ref (z + 138), .ref (z + 139), .ref (z + 140), .int (0 : Int32), .int (0 : Int32), .int (0 : Int32), .int (0 : Int32), .ref (z + 141), .ref (z + 142), .ref (z + 143), .ref (z + 144), .ref (z + 145), .ref (z + 146), .int (0 : Int32), .int (0 : Int32), .ref (z + 147), .long (0 : Int64), .ref (z + 148), .int (0 : Int32), .int (0 : Int32), .int (0 : Int32), .ref (z + 149), .int (0 : Int32), .ref (z + 150), .ref (z + 151), .int (0 : Int32), .ref (z + 152), .ref (z + 153), .ref (z + 154), .ref (z + 155), .ref (z + 156)]))) : Mt G l z yX10_seat cX10_seat 2 (some .int) { frames := 2, cells := 0, slots := 0, locals := 43 } [.ref (z + 134), .int va] u n (some (.int (-1000000001 : Int32))) u n := by
  refine mt_of (by decide +kernel) (Nat.le_of_ble_eq_true rfl) ?_
  intro p e s m below meth c C hr hlk hnm
  refine x_aload_n C 0 dX10_seat_0 rfl rfl ?_
  refine x_iload_n C 1 dX10_seat_1 rfl rfl ?_
  refine x_callV C cl_X10_isTraveller kmX10_203 (ci := 9) (b := 134) (As := [.int va]) (rest := []) rfl h134 (p_X10_isTraveller_1 u va hl_va hh_va h134) rfl rfl (Nat.le_of_ble_eq_true rfl) ⟨Nat.le_of_ble_eq_true rfl, Nat.le_of_ble_eq_true rfl⟩ ⟨Nat.le_of_ble_eq_true rfl, Nat.le_of_ble_eq_true rfl⟩ dX10_seat_2 ?_
  refine x_norm (st2 := [.int (0 : Int32)]) (kc2 := 0) (ks2 := 0) rfl rfl rfl rfl rfl ?_
  refine x_if_ne_f C 11 dX10_seat_5 (by decide) (by decide) ?_
  refine x_ldc C kcX10_193 dX10_seat_8 ?_
  exact x_iret C hr hlk (Nat.le_of_ble_eq_true rfl) (Nat.le_of_ble_eq_true rfl) dX10_seat_10 rfl rfl rfl
set_option maxRecDepth 20000 in
theorem p_X9_tell_0 {G : GT} {l : Launch} {z n : Nat} (u : HpT) (va : Int32) (hl_va : -2147483648 ≤ va.toInt) (hh_va : va.toInt ≤ -1) (h0 : u 0 = some (.inr (8, [.ref (z + 1), .ref (z + 3), .ref (z + 6), .ref (z + 98), .ref (z + 99), .ref (z + 101), .ref (z + 106), .ref (z + 109), .ref (z + 112), .ref (z + 119), .int (0 : Int32), .int (-1 : Int32)]))) (h112 : u 112 = some (.inr (0, [.int (0 : Int32), .int (0 : Int32), .int (0 : Int32), .int (0 : Int32), .ref (z + 113), .ref (z + 114), .ref (z + 115), .ref (z + 116), .ref (z + 117), .ref (z + 118)]))) : Mt G l z yX9_tell cX9_tell 2 (some .int) { frames := 1, cells := 0, slots := 0, locals := 21 } [.ref (z + 0), .int va] u n (some (.int (-1000000001 : Int32))) u n := by
  refine mt_of (by decide +kernel) (Nat.le_of_ble_eq_true rfl) ?_
  intro p e s m below meth c C hr hlk hnm
  refine x_aload_n C 0 dX9_tell_0 rfl rfl ?_
  refine gfX9_65 C dX9_tell_1 h0 rfl ?_
  refine x_iload_n C 1 dX9_tell_4 rfl rfl ?_
  refine x_callV C cl_X1_hasMatter kmX9_176 (ci := 0) (b := 112) (As := [.int va]) (rest := []) rfl h112 (p_X1_hasMatter_0 u va hl_va hh_va) rfl rfl (Nat.le_of_ble_eq_true rfl) ⟨Nat.le_of_ble_eq_true rfl, Nat.le_of_ble_eq_true rfl⟩ ⟨Nat.le_of_ble_eq_true rfl, Nat.le_of_ble_eq_true rfl⟩ dX9_tell_5 ?_
  refine x_norm (st2 := [.int (0 : Int32)]) (kc2 := 0) (ks2 := 0) rfl rfl rfl rfl rfl ?_
  refine x_if_ne_f C 14 dX9_tell_8 (by decide) (by decide) ?_
  refine x_ldc C kcX9_179 dX9_tell_11 ?_
  exact x_iret C hr hlk (Nat.le_of_ble_eq_true rfl) (Nat.le_of_ble_eq_true rfl) dX9_tell_13 rfl rfl rfl
set_option maxRecDepth 20000 in
theorem p_X10_tell_0 {G : GT} {l : Launch} {z n : Nat} (u : HpT) (va : Int32) (hl_va : -2147483648 ≤ va.toInt) (hh_va : va.toInt ≤ -1) (h134 : u 134 = some (.inr (9, [.int (0 : Int32), .ref (z + 135), .int (0 : Int32), .int (0 : Int32), .int (0 : Int32), .int (-1 : Int32), .int (0 : Int32), .int (0 : Int32), .int (0 : Int32), .int (0 : Int32), .ref (z + 136), .ref (z + 137), .ref (z + 138), .ref (z + 139), .ref (z + 140), .int (0 : Int32), .int (0 : Int32), .int (0 : Int32), .int (0 : Int32), .ref (z + 141), .ref (z + 142), .ref (z + 143), .ref (z + 144), .ref (z + 145), .ref (z + 146), .int (0 : Int32), .int (0 : Int32), .ref (z + 147), .long (0 : Int64), .ref (z + 148), .int (0 : Int32), .int (0 : Int32), .int (0 : Int32), .ref (z + 149), .int (0 : Int32), .ref (z + 150), .ref (z + 151), .int (0 : Int32), .ref (z + 152), .ref (z + 153), .ref (z + 154), .ref (z + 155), .ref (z + 156)]))) : Mt G l z yX10_tell cX10_tell 2 (some .int) { frames := 2, cells := 0, slots := 0, locals := 43 } [.ref (z + 134), .int va] u n (some (.int (-1000000001 : Int32))) u n := by
  refine mt_of (by decide +kernel) (Nat.le_of_ble_eq_true rfl) ?_
  intro p e s m below meth c C hr hlk hnm
  refine x_aload_n C 0 dX10_tell_0 rfl rfl ?_
  refine x_iload_n C 1 dX10_tell_1 rfl rfl ?_
  refine x_callV C cl_X10_isMatter kmX10_190 (ci := 9) (b := 134) (As := [.int va]) (rest := []) rfl h134 (p_X10_isMatter_0 u va hl_va hh_va h134) rfl rfl (Nat.le_of_ble_eq_true rfl) ⟨Nat.le_of_ble_eq_true rfl, Nat.le_of_ble_eq_true rfl⟩ ⟨Nat.le_of_ble_eq_true rfl, Nat.le_of_ble_eq_true rfl⟩ dX10_tell_2 ?_
  refine x_norm (st2 := [.int (0 : Int32)]) (kc2 := 0) (ks2 := 0) rfl rfl rfl rfl rfl ?_
  refine x_if_ne_f C 11 dX10_tell_5 (by decide) (by decide) ?_
  refine x_ldc C kcX10_193 dX10_tell_8 ?_
  exact x_iret C hr hlk (Nat.le_of_ble_eq_true rfl) (Nat.le_of_ble_eq_true rfl) dX10_tell_10 rfl rfl rfl
set_option maxRecDepth 20000 in
theorem p_X9_tell_1 {G : GT} {l : Launch} {z n : Nat} (u : HpT) (va : Int32) (hl_va : 0 ≤ va.toInt) (hh_va : va.toInt ≤ 2147483647) (h0 : u 0 = some (.inr (8, [.ref (z + 1), .ref (z + 3), .ref (z + 6), .ref (z + 98), .ref (z + 99), .ref (z + 101), .ref (z + 106), .ref (z + 109), .ref (z + 112), .ref (z + 119), .int (0 : Int32), .int (-1 : Int32)]))) (h112 : u 112 = some (.inr (0, [.int (0 : Int32), .int (0 : Int32), .int (0 : Int32), .int (0 : Int32), .ref (z + 113), .ref (z + 114), .ref (z + 115), .ref (z + 116), .ref (z + 117), .ref (z + 118)]))) : Mt G l z yX9_tell cX9_tell 2 (some .int) { frames := 1, cells := 0, slots := 0, locals := 21 } [.ref (z + 0), .int va] u n (some (.int (-1000000001 : Int32))) u n := by
  refine mt_of (by decide +kernel) (Nat.le_of_ble_eq_true rfl) ?_
  intro p e s m below meth c C hr hlk hnm
  refine x_aload_n C 0 dX9_tell_0 rfl rfl ?_
  refine gfX9_65 C dX9_tell_1 h0 rfl ?_
  refine x_iload_n C 1 dX9_tell_4 rfl rfl ?_
  refine x_callV C cl_X1_hasMatter kmX9_176 (ci := 0) (b := 112) (As := [.int va]) (rest := []) rfl h112 (p_X1_hasMatter_1 u va hl_va hh_va h112) rfl rfl (Nat.le_of_ble_eq_true rfl) ⟨Nat.le_of_ble_eq_true rfl, Nat.le_of_ble_eq_true rfl⟩ ⟨Nat.le_of_ble_eq_true rfl, Nat.le_of_ble_eq_true rfl⟩ dX9_tell_5 ?_
  refine x_norm (st2 := [.int (0 : Int32)]) (kc2 := 0) (ks2 := 0) rfl rfl rfl rfl rfl ?_
  refine x_if_ne_f C 14 dX9_tell_8 (by decide) (by decide) ?_
  refine x_ldc C kcX9_179 dX9_tell_11 ?_
  exact x_iret C hr hlk (Nat.le_of_ble_eq_true rfl) (Nat.le_of_ble_eq_true rfl) dX9_tell_13 rfl rfl rfl
set_option maxRecDepth 20000 in
theorem p_X10_tell_1 {G : GT} {l : Launch} {z n : Nat} (u : HpT) (va : Int32) (hl_va : 0 ≤ va.toInt) (hh_va : va.toInt ≤ 2147483647) (h134 : u 134 = some (.inr (9, [.int (0 : Int32), .ref (z + 135), .int (0 : Int32), .int (0 : Int32), .int (0 : Int32), .int (-1 : Int32), .int (0 : Int32), .int (0 : Int32), .int (0 : Int32), .int (0 : Int32), .ref (z + 136), .ref (z + 137), .ref (z + 138), .ref (z + 139), .ref (z + 140), .int (0 : Int32), .int (0 : Int32), .int (0 : Int32), .int (0 : Int32), .ref (z + 141), .ref (z + 142), .ref (z + 143), .ref (z + 144), .ref (z + 145), .ref (z + 146), .int (0 : Int32), .int (0 : Int32), .ref (z + 147), .long (0 : Int64), .ref (z + 148), .int (0 : Int32), .int (0 : Int32), .int (0 : Int32), .ref (z + 149), .int (0 : Int32), .ref (z + 150), .ref (z + 151), .int (0 : Int32), .ref (z + 152), .ref (z + 153), .ref (z + 154), .ref (z + 155), .ref (z + 156)]))) : Mt G l z yX10_tell cX10_tell 2 (some .int) { frames := 2, cells := 0, slots := 0, locals := 43 } [.ref (z + 134), .int va] u n (some (.int (-1000000001 : Int32))) u n := by
  refine mt_of (by decide +kernel) (Nat.le_of_ble_eq_true rfl) ?_
  intro p e s m below meth c C hr hlk hnm
  refine x_aload_n C 0 dX10_tell_0 rfl rfl ?_
  refine x_iload_n C 1 dX10_tell_1 rfl rfl ?_
  refine x_callV C cl_X10_isMatter kmX10_190 (ci := 9) (b := 134) (As := [.int va]) (rest := []) rfl h134 (p_X10_isMatter_1 u va hl_va hh_va h134) rfl rfl (Nat.le_of_ble_eq_true rfl) ⟨Nat.le_of_ble_eq_true rfl, Nat.le_of_ble_eq_true rfl⟩ ⟨Nat.le_of_ble_eq_true rfl, Nat.le_of_ble_eq_true rfl⟩ dX10_tell_2 ?_
  refine x_norm (st2 := [.int (0 : Int32)]) (kc2 := 0) (ks2 := 0) rfl rfl rfl rfl rfl ?_
  refine x_if_ne_f C 11 dX10_tell_5 (by decide) (by decide) ?_
  refine x_ldc C kcX10_193 dX10_tell_8 ?_
  exact x_iret C hr hlk (Nat.le_of_ble_eq_true rfl) (Nat.le_of_ble_eq_true rfl) dX10_tell_10 rfl rfl rfl
set_option maxRecDepth 20000 in
theorem p_X9_rise_0 {G : GT} {l : Launch} {z n : Nat} (u : HpT) (h0 : u 0 = some (.inr (8, [.ref (z + 1), .ref (z + 3), .ref (z + 6), .ref (z + 98), .ref (z + 99), .ref (z + 101), .ref (z + 106), .ref (z + 109), .ref (z + 112), .ref (z + 119), .int (0 : Int32), .int (-1 : Int32)]))) (h3 : u 3 = some (.inr (2, [.int (0 : Int32), .int (0 : Int32), .int (0 : Int32), .int (0 : Int32), .int (-1 : Int32), .int (0 : Int32), .int (-1 : Int32), .int (0 : Int32), .int (0 : Int32), .int (0 : Int32), .ref (z + 4), .ref (z + 5)]))) : Mt G l z yX9_rise cX9_rise 1 (some .int) { frames := 0, cells := 0, slots := 0, locals := 0 } [.ref (z + 0)] u n (some (.int (-1000000003 : Int32))) u n := by
  refine mt_of (by decide +kernel) (Nat.le_of_ble_eq_true rfl) ?_
  intro p e s m below meth c C hr hlk hnm
  refine x_aload_n C 0 dX9_rise_0 rfl rfl ?_
  refine gfX9_19 C dX9_rise_1 h0 rfl ?_
  refine gfX9_158 C dX9_rise_4 h3 rfl ?_
  refine x_iconst (v := (-1 : Int32)) C dX9_rise_7 (by decide) ?_
  refine x_icmp_ne_f C 14 dX9_rise_8 (by decide) (by decide) ?_
  refine x_ldc C kcX9_221 dX9_rise_11 ?_
  exact x_iret C hr hlk (Nat.le_of_ble_eq_true rfl) (Nat.le_of_ble_eq_true rfl) dX9_rise_13 rfl rfl rfl
set_option maxRecDepth 20000 in
theorem p_X10_rise_0 {G : GT} {l : Launch} {z n : Nat} (u : HpT) (h134 : u 134 = some (.inr (9, [.int (0 : Int32), .ref (z + 135), .int (0 : Int32), .int (0 : Int32), .int (0 : Int32), .int (-1 : Int32), .int (0 : Int32), .int (0 : Int32), .int (0 : Int32), .int (0 : Int32), .ref (z + 136), .ref (z + 137), .ref (z + 138), .ref (z + 139), .ref (z + 140), .int (0 : Int32), .int (0 : Int32), .int (0 : Int32), .int (0 : Int32), .ref (z + 141), .ref (z + 142), .ref (z + 143), .ref (z + 144), .ref (z + 145), .ref (z + 146), .int (0 : Int32), .int (0 : Int32), .ref (z + 147), .long (0 : Int64), .ref (z + 148), .int (0 : Int32), .int (0 : Int32), .int (0 : Int32), .ref (z + 149), .int (0 : Int32), .ref (z + 150), .ref (z + 151), .int (0 : Int32), .ref (z + 152), .ref (z + 153), .ref (z + 154), .ref (z + 155), .ref (z + 156)]))) (h146 : u 146 = some (aI G 25 (upd (upd (fun _ => 0) 4 (-1 : Int32)) 6 (-1 : Int32)))) : Mt G l z yX10_rise cX10_rise 1 (some .int) { frames := 0, cells := 0, slots := 0, locals := 0 } [.ref (z + 134)] u n (some (.int (-1000000003 : Int32))) u n := by
  refine mt_of (by decide +kernel) (Nat.le_of_ble_eq_true rfl) ?_
  intro p e s m below meth c C hr hlk hnm
  refine x_aload_n C 0 dX10_rise_0 rfl rfl ?_
  refine gfX10_47 C dX10_rise_1 h134 rfl ?_
  refine x_iconst (v := (4 : Int32)) C dX10_rise_4 (by decide) ?_
  refine x_ialdk C 4 h146 (vp_in_lit (by decide) (by decide)) (by decide) dX10_rise_5 ?_
  refine x_eqi (w := (-1 : Int32)) (by decide) ?_
  refine x_iconst (v := (-1 : Int32)) C dX10_rise_6 (by decide) ?_
  refine x_icmp_ne_f C 13 dX10_rise_7 (by decide) (by decide) ?_
  refine x_ldc C kcX10_215 dX10_rise_10 ?_
  exact x_iret C hr hlk (Nat.le_of_ble_eq_true rfl) (Nat.le_of_ble_eq_true rfl) dX10_rise_12 rfl rfl rfl
set_option maxRecDepth 20000 in
theorem p_X9_learn_0 {G : GT} {l : Launch} {z n : Nat} (u : HpT) (va : Int32) (hl_va : -2147483648 ≤ va.toInt) (hh_va : va.toInt ≤ -1) (h0 : u 0 = some (.inr (8, [.ref (z + 1), .ref (z + 3), .ref (z + 6), .ref (z + 98), .ref (z + 99), .ref (z + 101), .ref (z + 106), .ref (z + 109), .ref (z + 112), .ref (z + 119), .int (0 : Int32), .int (-1 : Int32)]))) (h112 : u 112 = some (.inr (0, [.int (0 : Int32), .int (0 : Int32), .int (0 : Int32), .int (0 : Int32), .ref (z + 113), .ref (z + 114), .ref (z + 115), .ref (z + 116), .ref (z + 117), .ref (z + 118)]))) : Mt G l z yX9_learn cX9_learn 2 (some .int) { frames := 1, cells := 0, slots := 0, locals := 21 } [.ref (z + 0), .int va] u n (some (.int (-1000000001 : Int32))) u n := by
  refine mt_of (by decide +kernel) (Nat.le_of_ble_eq_true rfl) ?_
  intro p e s m below meth c C hr hlk hnm
  refine x_aload_n C 0 dX9_learn_0 rfl rfl ?_
  refine gfX9_65 C dX9_learn_1 h0 rfl ?_
  refine x_iload_n C 1 dX9_learn_4 rfl rfl ?_
  refine x_callV C cl_X1_hasMatter kmX9_176 (ci := 0) (b := 112) (As := [.int va]) (rest := []) rfl h112 (p_X1_hasMatter_0 u va hl_va hh_va) rfl rfl (Nat.le_of_ble_eq_true rfl) ⟨Nat.le_of_ble_eq_true rfl, Nat.le_of_ble_eq_true rfl⟩ ⟨Nat.le_of_ble_eq_true rfl, Nat.le_of_ble_eq_true rfl⟩ dX9_learn_5 ?_
  refine x_norm (st2 := [.int (0 : Int32)]) (kc2 := 0) (ks2 := 0) rfl rfl rfl rfl rfl ?_
  refine x_if_ne_f C 14 dX9_learn_8 (by decide) (by decide) ?_
  refine x_ldc C kcX9_179 dX9_learn_11 ?_
  exact x_iret C hr hlk (Nat.le_of_ble_eq_true rfl) (Nat.le_of_ble_eq_true rfl) dX9_learn_13 rfl rfl rfl
set_option maxRecDepth 20000 in
theorem p_X10_learn_0 {G : GT} {l : Launch} {z n : Nat} (u : HpT) (va : Int32) (hl_va : -2147483648 ≤ va.toInt) (hh_va : va.toInt ≤ -1) (h134 : u 134 = some (.inr (9, [.int (0 : Int32), .ref (z + 135), .int (0 : Int32), .int (0 : Int32), .int (0 : Int32), .int (-1 : Int32), .int (0 : Int32), .int (0 : Int32), .int (0 : Int32), .int (0 : Int32), .ref (z + 136), .ref (z + 137), .ref (z + 138), .ref (z + 139), .ref (z + 140), .int (0 : Int32), .int (0 : Int32), .int (0 : Int32), .int (0 : Int32), .ref (z + 141), .ref (z + 142), .ref (z + 143), .ref (z + 144), .ref (z + 145), .ref (z + 146), .int (0 : Int32), .int (0 : Int32), .ref (z + 147), .long (0 : Int64), .ref (z + 148), .int (0 : Int32), .int (0 : Int32), .int (0 : Int32), .ref (z + 149), .int (0 : Int32), .ref (z + 150), .ref (z + 151), .int (0 : Int32), .ref (z + 152), .ref (z + 153), .ref (z + 154), .ref (z + 155), .ref (z + 156)]))) : Mt G l z yX10_learn cX10_learn 2 (some .int) { frames := 2, cells := 0, slots := 0, locals := 43 } [.ref (z + 134), .int va] u n (some (.int (-1000000001 : Int32))) u n := by
  refine mt_of (by decide +kernel) (Nat.le_of_ble_eq_true rfl) ?_
  intro p e s m below meth c C hr hlk hnm
  refine x_aload_n C 0 dX10_learn_0 rfl rfl ?_
  refine x_iload_n C 1 dX10_learn_1 rfl rfl ?_
  refine x_callV C cl_X10_isMatter kmX10_190 (ci := 9) (b := 134) (As := [.int va]) (rest := []) rfl h134 (p_X10_isMatter_0 u va hl_va hh_va h134) rfl rfl (Nat.le_of_ble_eq_true rfl) ⟨Nat.le_of_ble_eq_true rfl, Nat.le_of_ble_eq_true rfl⟩ ⟨Nat.le_of_ble_eq_true rfl, Nat.le_of_ble_eq_true rfl⟩ dX10_learn_2 ?_
  refine x_norm (st2 := [.int (0 : Int32)]) (kc2 := 0) (ks2 := 0) rfl rfl rfl rfl rfl ?_
  refine x_if_ne_f C 11 dX10_learn_5 (by decide) (by decide) ?_
  refine x_ldc C kcX10_193 dX10_learn_8 ?_
  exact x_iret C hr hlk (Nat.le_of_ble_eq_true rfl) (Nat.le_of_ble_eq_true rfl) dX10_learn_10 rfl rfl rfl
set_option maxRecDepth 20000 in
theorem p_X9_learn_1 {G : GT} {l : Launch} {z n : Nat} (u : HpT) (va : Int32) (hl_va : 0 ≤ va.toInt) (hh_va : va.toInt ≤ 2147483647) (h0 : u 0 = some (.inr (8, [.ref (z + 1), .ref (z + 3), .ref (z + 6), .ref (z + 98), .ref (z + 99), .ref (z + 101), .ref (z + 106), .ref (z + 109), .ref (z + 112), .ref (z + 119), .int (0 : Int32), .int (-1 : Int32)]))) (h112 : u 112 = some (.inr (0, [.int (0 : Int32), .int (0 : Int32), .int (0 : Int32), .int (0 : Int32), .ref (z + 113), .ref (z + 114), .ref (z + 115), .ref (z + 116), .ref (z + 117), .ref (z + 118)]))) : Mt G l z yX9_learn cX9_learn 2 (some .int) { frames := 1, cells := 0, slots := 0, locals := 21 } [.ref (z + 0), .int va] u n (some (.int (-1000000001 : Int32))) u n := by
  refine mt_of (by decide +kernel) (Nat.le_of_ble_eq_true rfl) ?_
  intro p e s m below meth c C hr hlk hnm
  refine x_aload_n C 0 dX9_learn_0 rfl rfl ?_
  refine gfX9_65 C dX9_learn_1 h0 rfl ?_
  refine x_iload_n C 1 dX9_learn_4 rfl rfl ?_
  refine x_callV C cl_X1_hasMatter kmX9_176 (ci := 0) (b := 112) (As := [.int va]) (rest := []) rfl h112 (p_X1_hasMatter_1 u va hl_va hh_va h112) rfl rfl (Nat.le_of_ble_eq_true rfl) ⟨Nat.le_of_ble_eq_true rfl, Nat.le_of_ble_eq_true rfl⟩ ⟨Nat.le_of_ble_eq_true rfl, Nat.le_of_ble_eq_true rfl⟩ dX9_learn_5 ?_
  refine x_norm (st2 := [.int (0 : Int32)]) (kc2 := 0) (ks2 := 0) rfl rfl rfl rfl rfl ?_
  refine x_if_ne_f C 14 dX9_learn_8 (by decide) (by decide) ?_
  refine x_ldc C kcX9_179 dX9_learn_11 ?_
  exact x_iret C hr hlk (Nat.le_of_ble_eq_true rfl) (Nat.le_of_ble_eq_true rfl) dX9_learn_13 rfl rfl rfl
set_option maxRecDepth 20000 in
theorem p_X10_learn_1 {G : GT} {l : Launch} {z n : Nat} (u : HpT) (va : Int32) (hl_va : 0 ≤ va.toInt) (hh_va : va.toInt ≤ 2147483647) (h134 : u 134 = some (.inr (9, [.int (0 : Int32), .ref (z + 135), .int (0 : Int32), .int (0 : Int32), .int (0 : Int32), .int (-1 : Int32), .int (0 : Int32), .int (0 : Int32), .int (0 : Int32), .int (0 : Int32), .ref (z + 136), .ref (z + 137), .ref (z + 138), .ref (z + 139), .ref (z + 140), .int (0 : Int32), .int (0 : Int32), .int (0 : Int32), .int (0 : Int32), .ref (z + 141), .ref (z + 142), .ref (z + 143), .ref (z + 144), .ref (z + 145), .ref (z + 146), .int (0 : Int32), .int (0 : Int32), .ref (z + 147), .long (0 : Int64), .ref (z + 148), .int (0 : Int32), .int (0 : Int32), .int (0 : Int32), .ref (z + 149), .int (0 : Int32), .ref (z + 150), .ref (z + 151), .int (0 : Int32), .ref (z + 152), .ref (z + 153), .ref (z + 154), .ref (z + 155), .ref (z + 156)]))) : Mt G l z yX10_learn cX10_learn 2 (some .int) { frames := 2, cells := 0, slots := 0, locals := 43 } [.ref (z + 134), .int va] u n (some (.int (-1000000001 : Int32))) u n := by
  refine mt_of (by decide +kernel) (Nat.le_of_ble_eq_true rfl) ?_
  intro p e s m below meth c C hr hlk hnm
  refine x_aload_n C 0 dX10_learn_0 rfl rfl ?_
  refine x_iload_n C 1 dX10_learn_1 rfl rfl ?_
  refine x_callV C cl_X10_isMatter kmX10_190 (ci := 9) (b := 134) (As := [.int va]) (rest := []) rfl h134 (p_X10_isMatter_1 u va hl_va hh_va h134) rfl rfl (Nat.le_of_ble_eq_true rfl) ⟨Nat.le_of_ble_eq_true rfl, Nat.le_of_ble_eq_true rfl⟩ ⟨Nat.le_of_ble_eq_true rfl, Nat.le_of_ble_eq_true rfl⟩ dX10_learn_2 ?_
  refine x_norm (st2 := [.int (0 : Int32)]) (kc2 := 0) (ks2 := 0) rfl rfl rfl rfl rfl ?_
  refine x_if_ne_f C 11 dX10_learn_5 (by decide) (by decide) ?_
  refine x_ldc C kcX10_193 dX10_learn_8 ?_
  exact x_iret C hr hlk (Nat.le_of_ble_eq_true rfl) (Nat.le_of_ble_eq_true rfl) dX10_learn_10 rfl rfl rfl
set_option maxRecDepth 20000 in
theorem p_X9_minute_0 {G : GT} {l : Launch} {z n : Nat} (u : HpT) (va : Int32) (hl_va : -2147483648 ≤ va.toInt) (hh_va : va.toInt ≤ 0) : Mt G l z yX9_minute cX9_minute 2 (some .int) { frames := 0, cells := 0, slots := 0, locals := 0 } [.ref (z + 0), .int va] u n (some (.int (-1000000002 : Int32))) u n := by
  refine mt_of (by decide +kernel) (Nat.le_of_ble_eq_true rfl) ?_
  intro p e s m below meth c C hr hlk hnm
  refine x_iload_n C 1 dX9_minute_0 rfl rfl ?_
  refine x_iconst (v := (1 : Int32)) C dX9_minute_1 (by decide) ?_
  refine x_icmp_lt_t C 11 dX9_minute_2 (by decide) (by simp only [Int32.lt_iff_toInt_lt, Int32.le_iff_toInt_le, i_eq_iff]; have e9 : (1 : Int32).toInt = 1 := (by decide); omega) ?_
  refine x_ldc C kcX9_80 dX9_minute_11 ?_
  exact x_iret C hr hlk (Nat.le_of_ble_eq_true rfl) (Nat.le_of_ble_eq_true rfl) dX9_minute_13 rfl rfl rfl
set_option maxRecDepth 20000 in
theorem p_X10_in_5 {G : GT} {l : Launch} {z n : Nat} (u : HpT) (va : Int32) (hl_va : -2147483648 ≤ va.toInt) (hh_va : va.toInt ≤ 0) : Mt G l z yX10_in cX10_in 3 (some .boolean) { frames := 0, cells := 0, slots := 0, locals := 0 } [.int va, .int (1 : Int32), .int (60 : Int32)] u n (some (.int (0 : Int32))) u n := by
  refine mt_of (by decide +kernel) (Nat.le_of_ble_eq_true rfl) ?_
  intro p e s m below meth c C hr hlk hnm
  refine x_iload_n C 0 dX10_in_0 rfl rfl ?_
  refine x_iload_n C 1 dX10_in_1 rfl rfl ?_
  refine x_icmp_lt_t C 14 dX10_in_2 (by decide) (by simp only [Int32.lt_iff_toInt_lt, Int32.le_iff_toInt_le, i_eq_iff]; have e9 : (1 : Int32).toInt = 1 := (by decide); omega) ?_
  refine x_iconst (v := (0 : Int32)) C dX10_in_14 (by decide) ?_
  exact x_zret C hr hlk (Nat.le_of_ble_eq_true rfl) (Nat.le_of_ble_eq_true rfl) dX10_in_15 (by decide) rfl rfl rfl
set_option maxRecDepth 20000 in
theorem p_X10_minute_0 {G : GT} {l : Launch} {z n : Nat} (u : HpT) (va : Int32) (hl_va : -2147483648 ≤ va.toInt) (hh_va : va.toInt ≤ 0) : Mt G l z yX10_minute cX10_minute 2 (some .int) { frames := 1, cells := 0, slots := 0, locals := 22 } [.ref (z + 134), .int va] u n (some (.int (-1000000002 : Int32))) u n := by
  refine mt_of (by decide +kernel) (Nat.le_of_ble_eq_true rfl) ?_
  intro p e s m below meth c C hr hlk hnm
  refine x_iload_n C 1 dX10_minute_0 rfl rfl ?_
  refine x_iconst (v := (1 : Int32)) C dX10_minute_1 (by decide) ?_
  refine x_bipush (v := (60 : Int32)) C dX10_minute_2 (by decide) ?_
  refine x_callS C cl_X10_in kmX10_82 (As := [.int va, .int (1 : Int32), .int (60 : Int32)]) (rest := []) (p_X10_in_5 u va hl_va hh_va) rfl rfl (Nat.le_of_ble_eq_true rfl) ⟨Nat.le_of_ble_eq_true rfl, Nat.le_of_ble_eq_true rfl⟩ ⟨Nat.le_of_ble_eq_true rfl, Nat.le_of_ble_eq_true rfl⟩ dX10_minute_4 ?_
  refine x_norm (st2 := [.int (0 : Int32)]) (kc2 := 0) (ks2 := 0) rfl rfl rfl rfl rfl ?_
  refine x_if_ne_f C 13 dX10_minute_7 (by decide) (by decide) ?_
  refine x_ldc C kcX10_86 dX10_minute_10 ?_
  exact x_iret C hr hlk (Nat.le_of_ble_eq_true rfl) (Nat.le_of_ble_eq_true rfl) dX10_minute_12 rfl rfl rfl
set_option maxRecDepth 20000 in
theorem p_X1_isThere_0 {G : GT} {l : Launch} {z n : Nat} (u : HpT) (h112 : u 112 = some (.inr (0, [.int (0 : Int32), .int (0 : Int32), .int (0 : Int32), .int (0 : Int32), .ref (z + 113), .ref (z + 114), .ref (z + 115), .ref (z + 116), .ref (z + 117), .ref (z + 118)]))) : Mt G l z yX1_isThere cX1_isThere 1 (some .boolean) { frames := 0, cells := 0, slots := 0, locals := 0 } [.ref (z + 112)] u n (some (.int (0 : Int32))) u n := by
  refine mt_of (by decide +kernel) (Nat.le_of_ble_eq_true rfl) ?_
  intro p e s m below meth c C hr hlk hnm
  refine x_aload_n C 0 dX1_isThere_0 rfl rfl ?_
  refine gfX1_9 C dX1_isThere_1 h112 rfl ?_
  refine x_if_le_t C 11 dX1_isThere_4 (by decide) (by decide) ?_
  refine x_iconst (v := (0 : Int32)) C dX1_isThere_11 (by decide) ?_
  exact x_zret C hr hlk (Nat.le_of_ble_eq_true rfl) (Nat.le_of_ble_eq_true rfl) dX1_isThere_12 (by decide) rfl rfl rfl
set_option maxRecDepth 20000 in
theorem p_X9_minute_1 {G : GT} {l : Launch} {z n : Nat} (u : HpT) (va : Int32) (hl_va : 1 ≤ va.toInt) (hh_va : va.toInt ≤ 60) (h0 : u 0 = some (.inr (8, [.ref (z + 1), .ref (z + 3), .ref (z + 6), .ref (z + 98), .ref (z + 99), .ref (z + 101), .ref (z + 106), .ref (z + 109), .ref (z + 112), .ref (z + 119), .int (0 : Int32), .int (-1 : Int32)]))) (h112 : u 112 = some (.inr (0, [.int (0 : Int32), .int (0 : Int32), .int (0 : Int32), .int (0 : Int32), .ref (z + 113), .ref (z + 114), .ref (z + 115), .ref (z + 116), .ref (z + 117), .ref (z + 118)]))) : Mt G l z yX9_minute cX9_minute 2 (some .int) { frames := 1, cells := 0, slots := 0, locals := 20 } [.ref (z + 0), .int va] u n (some (.int (-1000000003 : Int32))) u n := by
  refine mt_of (by decide +kernel) (Nat.le_of_ble_eq_true rfl) ?_
  intro p e s m below meth c C hr hlk hnm
  refine x_iload_n C 1 dX9_minute_0 rfl rfl ?_
  refine x_iconst (v := (1 : Int32)) C dX9_minute_1 (by decide) ?_
  refine x_icmp_lt_f C 11 dX9_minute_2 (by decide) (by simp only [Int32.lt_iff_toInt_lt, Int32.le_iff_toInt_le, i_eq_iff]; have e9 : (1 : Int32).toInt = 1 := (by decide); omega) ?_
  refine x_iload_n C 1 dX9_minute_5 rfl rfl ?_
  refine x_bipush (v := (60 : Int32)) C dX9_minute_6 (by decide) ?_
  refine x_icmp_le_t C 14 dX9_minute_8 (by decide) (by simp only [Int32.lt_iff_toInt_lt, Int32.le_iff_toInt_le, i_eq_iff]; have e9 : (60 : Int32).toInt = 60 := (by decide); omega) ?_
  refine x_aload_n C 0 dX9_minute_14 rfl rfl ?_
  refine gfX9_65 C dX9_minute_15 h0 rfl ?_
  refine x_callV C cl_X1_isThere kmX9_247 (ci := 0) (b := 112) (As := []) (rest := []) rfl h112 (p_X1_isThere_0 u h112) rfl rfl (Nat.le_of_ble_eq_true rfl) ⟨Nat.le_of_ble_eq_true rfl, Nat.le_of_ble_eq_true rfl⟩ ⟨Nat.le_of_ble_eq_true rfl, Nat.le_of_ble_eq_true rfl⟩ dX9_minute_18 ?_
  refine x_norm (st2 := [.int (0 : Int32)]) (kc2 := 0) (ks2 := 0) rfl rfl rfl rfl rfl ?_
  refine x_if_ne_f C 27 dX9_minute_21 (by decide) (by decide) ?_
  refine x_ldc C kcX9_221 dX9_minute_24 ?_
  exact x_iret C hr hlk (Nat.le_of_ble_eq_true rfl) (Nat.le_of_ble_eq_true rfl) dX9_minute_26 rfl rfl rfl
set_option maxRecDepth 20000 in
theorem p_X10_in_6 {G : GT} {l : Launch} {z n : Nat} (u : HpT) (va : Int32) (hl_va : 1 ≤ va.toInt) (hh_va : va.toInt ≤ 60) : Mt G l z yX10_in cX10_in 3 (some .boolean) { frames := 0, cells := 0, slots := 0, locals := 0 } [.int va, .int (1 : Int32), .int (60 : Int32)] u n (some (.int (1 : Int32))) u n := by
  refine mt_of (by decide +kernel) (Nat.le_of_ble_eq_true rfl) ?_
  intro p e s m below meth c C hr hlk hnm
  refine x_iload_n C 0 dX10_in_0 rfl rfl ?_
  refine x_iload_n C 1 dX10_in_1 rfl rfl ?_
  refine x_icmp_lt_f C 14 dX10_in_2 (by decide) (by simp only [Int32.lt_iff_toInt_lt, Int32.le_iff_toInt_le, i_eq_iff]; have e9 : (1 : Int32).toInt = 1 := (by decide); omega) ?_
  refine x_iload_n C 0 dX10_in_5 rfl rfl ?_
  refine x_iload_n C 2 dX10_in_6 rfl rfl ?_
  refine x_icmp_gt_f C 14 dX10_in_7 (by decide) (by simp only [Int32.lt_iff_toInt_lt, Int32.le_iff_toInt_le, i_eq_iff]; have e9 : (60 : Int32).toInt = 60 := (by decide); omega) ?_
  refine x_iconst (v := (1 : Int32)) C dX10_in_10 (by decide) ?_
  refine x_goto C 15 dX10_in_11 (by decide) ?_
  exact x_zret C hr hlk (Nat.le_of_ble_eq_true rfl) (Nat.le_of_ble_eq_true rfl) dX10_in_15 (by decide) rfl rfl rfl
set_option maxRecDepth 20000 in
theorem p_X10_isBridge_0 {G : GT} {l : Launch} {z n : Nat} (u : HpT) (h134 : u 134 = some (.inr (9, [.int (0 : Int32), .ref (z + 135), .int (0 : Int32), .int (0 : Int32), .int (0 : Int32), .int (-1 : Int32), .int (0 : Int32), .int (0 : Int32), .int (0 : Int32), .int (0 : Int32), .ref (z + 136), .ref (z + 137), .ref (z + 138), .ref (z + 139), .ref (z + 140), .int (0 : Int32), .int (0 : Int32), .int (0 : Int32), .int (0 : Int32), .ref (z + 141), .ref (z + 142), .ref (z + 143), .ref (z + 144), .ref (z + 145), .ref (z + 146), .int (0 : Int32), .int (0 : Int32), .ref (z + 147), .long (0 : Int64), .ref (z + 148), .int (0 : Int32), .int (0 : Int32), .int (0 : Int32), .ref (z + 149), .int (0 : Int32), .ref (z + 150), .ref (z + 151), .int (0 : Int32), .ref (z + 152), .ref (z + 153), .ref (z + 154), .ref (z + 155), .ref (z + 156)]))) : Mt G l z yX10_isBridge cX10_isBridge 1 (some .boolean) { frames := 0, cells := 0, slots := 0, locals := 0 } [.ref (z + 134)] u n (some (.int (0 : Int32))) u n := by
  refine mt_of (by decide +kernel) (Nat.le_of_ble_eq_true rfl) ?_
  intro p e s m below meth c C hr hlk hnm
  refine x_aload_n C 0 dX10_isBridge_0 rfl rfl ?_
  refine gfX10_150 C dX10_isBridge_1 h134 rfl ?_
  refine x_if_le_t C 11 dX10_isBridge_4 (by decide) (by decide) ?_
  refine x_iconst (v := (0 : Int32)) C dX10_isBridge_11 (by decide) ?_
  exact x_zret C hr hlk (Nat.le_of_ble_eq_true rfl) (Nat.le_of_ble_eq_true rfl) dX10_isBridge_12 (by decide) rfl rfl rfl
set_option maxRecDepth 20000 in
theorem p_X10_minute_1 {G : GT} {l : Launch} {z n : Nat} (u : HpT) (va : Int32) (hl_va : 1 ≤ va.toInt) (hh_va : va.toInt ≤ 60) (h134 : u 134 = some (.inr (9, [.int (0 : Int32), .ref (z + 135), .int (0 : Int32), .int (0 : Int32), .int (0 : Int32), .int (-1 : Int32), .int (0 : Int32), .int (0 : Int32), .int (0 : Int32), .int (0 : Int32), .ref (z + 136), .ref (z + 137), .ref (z + 138), .ref (z + 139), .ref (z + 140), .int (0 : Int32), .int (0 : Int32), .int (0 : Int32), .int (0 : Int32), .ref (z + 141), .ref (z + 142), .ref (z + 143), .ref (z + 144), .ref (z + 145), .ref (z + 146), .int (0 : Int32), .int (0 : Int32), .ref (z + 147), .long (0 : Int64), .ref (z + 148), .int (0 : Int32), .int (0 : Int32), .int (0 : Int32), .ref (z + 149), .int (0 : Int32), .ref (z + 150), .ref (z + 151), .int (0 : Int32), .ref (z + 152), .ref (z + 153), .ref (z + 154), .ref (z + 155), .ref (z + 156)]))) : Mt G l z yX10_minute cX10_minute 2 (some .int) { frames := 1, cells := 0, slots := 0, locals := 22 } [.ref (z + 134), .int va] u n (some (.int (-1000000003 : Int32))) u n := by
  refine mt_of (by decide +kernel) (Nat.le_of_ble_eq_true rfl) ?_
  intro p e s m below meth c C hr hlk hnm
  refine x_iload_n C 1 dX10_minute_0 rfl rfl ?_
  refine x_iconst (v := (1 : Int32)) C dX10_minute_1 (by decide) ?_
  refine x_bipush (v := (60 : Int32)) C dX10_minute_2 (by decide) ?_
  refine x_callS C cl_X10_in kmX10_82 (As := [.int va, .int (1 : Int32), .int (60 : Int32)]) (rest := []) (p_X10_in_6 u va hl_va hh_va) rfl rfl (Nat.le_of_ble_eq_true rfl) ⟨Nat.le_of_ble_eq_true rfl, Nat.le_of_ble_eq_true rfl⟩ ⟨Nat.le_of_ble_eq_true rfl, Nat.le_of_ble_eq_true rfl⟩ dX10_minute_4 ?_
  refine x_norm (st2 := [.int (1 : Int32)]) (kc2 := 0) (ks2 := 0) rfl rfl rfl rfl rfl ?_
  refine x_if_ne_t C 13 dX10_minute_7 (by decide) (by decide) ?_
  refine x_aload_n C 0 dX10_minute_13 rfl rfl ?_
  refine x_callV C cl_X10_isBridge kmX10_239 (ci := 9) (b := 134) (As := []) (rest := []) rfl h134 (p_X10_isBridge_0 u h134) rfl rfl (Nat.le_of_ble_eq_true rfl) ⟨Nat.le_of_ble_eq_true rfl, Nat.le_of_ble_eq_true rfl⟩ ⟨Nat.le_of_ble_eq_true rfl, Nat.le_of_ble_eq_true rfl⟩ dX10_minute_14 ?_
  refine x_norm (st2 := [.int (0 : Int32)]) (kc2 := 0) (ks2 := 0) rfl rfl rfl rfl rfl ?_
  refine x_if_ne_f C 23 dX10_minute_17 (by decide) (by decide) ?_
  refine x_ldc C kcX10_215 dX10_minute_20 ?_
  exact x_iret C hr hlk (Nat.le_of_ble_eq_true rfl) (Nat.le_of_ble_eq_true rfl) dX10_minute_22 rfl rfl rfl
set_option maxRecDepth 20000 in
theorem p_X9_minute_2 {G : GT} {l : Launch} {z n : Nat} (u : HpT) (va : Int32) (hl_va : 61 ≤ va.toInt) (hh_va : va.toInt ≤ 2147483647) : Mt G l z yX9_minute cX9_minute 2 (some .int) { frames := 0, cells := 0, slots := 0, locals := 0 } [.ref (z + 0), .int va] u n (some (.int (-1000000002 : Int32))) u n := by
  refine mt_of (by decide +kernel) (Nat.le_of_ble_eq_true rfl) ?_
  intro p e s m below meth c C hr hlk hnm
  refine x_iload_n C 1 dX9_minute_0 rfl rfl ?_
  refine x_iconst (v := (1 : Int32)) C dX9_minute_1 (by decide) ?_
  refine x_icmp_lt_f C 11 dX9_minute_2 (by decide) (by simp only [Int32.lt_iff_toInt_lt, Int32.le_iff_toInt_le, i_eq_iff]; have e9 : (1 : Int32).toInt = 1 := (by decide); omega) ?_
  refine x_iload_n C 1 dX9_minute_5 rfl rfl ?_
  refine x_bipush (v := (60 : Int32)) C dX9_minute_6 (by decide) ?_
  refine x_icmp_le_f C 14 dX9_minute_8 (by decide) (by simp only [Int32.lt_iff_toInt_lt, Int32.le_iff_toInt_le, i_eq_iff]; have e9 : (60 : Int32).toInt = 60 := (by decide); omega) ?_
  refine x_ldc C kcX9_80 dX9_minute_11 ?_
  exact x_iret C hr hlk (Nat.le_of_ble_eq_true rfl) (Nat.le_of_ble_eq_true rfl) dX9_minute_13 rfl rfl rfl
set_option maxRecDepth 20000 in
theorem p_X10_in_7 {G : GT} {l : Launch} {z n : Nat} (u : HpT) (va : Int32) (hl_va : 61 ≤ va.toInt) (hh_va : va.toInt ≤ 2147483647) : Mt G l z yX10_in cX10_in 3 (some .boolean) { frames := 0, cells := 0, slots := 0, locals := 0 } [.int va, .int (1 : Int32), .int (60 : Int32)] u n (some (.int (0 : Int32))) u n := by
  refine mt_of (by decide +kernel) (Nat.le_of_ble_eq_true rfl) ?_
  intro p e s m below meth c C hr hlk hnm
  refine x_iload_n C 0 dX10_in_0 rfl rfl ?_
  refine x_iload_n C 1 dX10_in_1 rfl rfl ?_
  refine x_icmp_lt_f C 14 dX10_in_2 (by decide) (by simp only [Int32.lt_iff_toInt_lt, Int32.le_iff_toInt_le, i_eq_iff]; have e9 : (1 : Int32).toInt = 1 := (by decide); omega) ?_
  refine x_iload_n C 0 dX10_in_5 rfl rfl ?_
  refine x_iload_n C 2 dX10_in_6 rfl rfl ?_
  refine x_icmp_gt_t C 14 dX10_in_7 (by decide) (by simp only [Int32.lt_iff_toInt_lt, Int32.le_iff_toInt_le, i_eq_iff]; have e9 : (60 : Int32).toInt = 60 := (by decide); omega) ?_
  refine x_iconst (v := (0 : Int32)) C dX10_in_14 (by decide) ?_
  exact x_zret C hr hlk (Nat.le_of_ble_eq_true rfl) (Nat.le_of_ble_eq_true rfl) dX10_in_15 (by decide) rfl rfl rfl
set_option maxRecDepth 20000 in
theorem p_X10_minute_2 {G : GT} {l : Launch} {z n : Nat} (u : HpT) (va : Int32) (hl_va : 61 ≤ va.toInt) (hh_va : va.toInt ≤ 2147483647) : Mt G l z yX10_minute cX10_minute 2 (some .int) { frames := 1, cells := 0, slots := 0, locals := 22 } [.ref (z + 134), .int va] u n (some (.int (-1000000002 : Int32))) u n := by
  refine mt_of (by decide +kernel) (Nat.le_of_ble_eq_true rfl) ?_
  intro p e s m below meth c C hr hlk hnm
  refine x_iload_n C 1 dX10_minute_0 rfl rfl ?_
  refine x_iconst (v := (1 : Int32)) C dX10_minute_1 (by decide) ?_
  refine x_bipush (v := (60 : Int32)) C dX10_minute_2 (by decide) ?_
  refine x_callS C cl_X10_in kmX10_82 (As := [.int va, .int (1 : Int32), .int (60 : Int32)]) (rest := []) (p_X10_in_7 u va hl_va hh_va) rfl rfl (Nat.le_of_ble_eq_true rfl) ⟨Nat.le_of_ble_eq_true rfl, Nat.le_of_ble_eq_true rfl⟩ ⟨Nat.le_of_ble_eq_true rfl, Nat.le_of_ble_eq_true rfl⟩ dX10_minute_4 ?_
  refine x_norm (st2 := [.int (0 : Int32)]) (kc2 := 0) (ks2 := 0) rfl rfl rfl rfl rfl ?_
  refine x_if_ne_f C 13 dX10_minute_7 (by decide) (by decide) ?_
  refine x_ldc C kcX10_86 dX10_minute_10 ?_
  exact x_iret C hr hlk (Nat.le_of_ble_eq_true rfl) (Nat.le_of_ble_eq_true rfl) dX10_minute_12 rfl rfl rfl
set_option maxRecDepth 20000 in
theorem p_X9_anew_0 {G : GT} {l : Launch} {z n : Nat} (u : HpT) (h0 : u 0 = some (.inr (8, [.ref (z + 1), .ref (z + 3), .ref (z + 6), .ref (z + 98), .ref (z + 99), .ref (z + 101), .ref (z + 106), .ref (z + 109), .ref (z + 112), .ref (z + 119), .int (0 : Int32), .int (-1 : Int32)]))) (h112 : u 112 = some (.inr (0, [.int (0 : Int32), .int (0 : Int32), .int (0 : Int32), .int (0 : Int32), .ref (z + 113), .ref (z + 114), .ref (z + 115), .ref (z + 116), .ref (z + 117), .ref (z + 118)]))) : Mt G l z yX9_anew cX9_anew 1 (some .int) { frames := 1, cells := 0, slots := 0, locals := 20 } [.ref (z + 0)] u n (some (.int (-1000000003 : Int32))) u n := by
  refine mt_of (by decide +kernel) (Nat.le_of_ble_eq_true rfl) ?_
  intro p e s m below meth c C hr hlk hnm
  refine x_aload_n C 0 dX9_anew_0 rfl rfl ?_
  refine gfX9_65 C dX9_anew_1 h0 rfl ?_
  refine x_callV C cl_X1_isThere kmX9_247 (ci := 0) (b := 112) (As := []) (rest := []) rfl h112 (p_X1_isThere_0 u h112) rfl rfl (Nat.le_of_ble_eq_true rfl) ⟨Nat.le_of_ble_eq_true rfl, Nat.le_of_ble_eq_true rfl⟩ ⟨Nat.le_of_ble_eq_true rfl, Nat.le_of_ble_eq_true rfl⟩ dX9_anew_4 ?_
  refine x_norm (st2 := [.int (0 : Int32)]) (kc2 := 0) (ks2 := 0) rfl rfl rfl rfl rfl ?_
  refine x_if_ne_f C 13 dX9_anew_7 (by decide) (by decide) ?_
  refine x_ldc C kcX9_221 dX9_anew_10 ?_
  exact x_iret C hr hlk (Nat.le_of_ble_eq_true rfl) (Nat.le_of_ble_eq_true rfl) dX9_anew_12 rfl rfl rfl
set_option maxRecDepth 20000 in
theorem p_X10_anew_0 {G : GT} {l : Launch} {z n : Nat} (u : HpT) (h134 : u 134 = some (.inr (9, [.int (0 : Int32), .ref (z + 135), .int (0 : Int32), .int (0 : Int32), .int (0 : Int32), .int (-1 : Int32), .int (0 : Int32), .int (0 : Int32), .int (0 : Int32), .int (0 : Int32), .ref (z + 136), .ref (z + 137), .ref (z + 138), .ref (z + 139), .ref (z + 140), .int (0 : Int32), .int (0 : Int32), .int (0 : Int32), .int (0 : Int32), .ref (z + 141), .ref (z + 142), .ref (z + 143), .ref (z + 144), .ref (z + 145), .ref (z + 146), .int (0 : Int32), .int (0 : Int32), .ref (z + 147), .long (0 : Int64), .ref (z + 148), .int (0 : Int32), .int (0 : Int32), .int (0 : Int32), .ref (z + 149), .int (0 : Int32), .ref (z + 150), .ref (z + 151), .int (0 : Int32), .ref (z + 152), .ref (z + 153), .ref (z + 154), .ref (z + 155), .ref (z + 156)]))) : Mt G l z yX10_anew cX10_anew 2 (some .int) { frames := 1, cells := 0, slots := 0, locals := 20 } [.ref (z + 134)] u n (some (.int (-1000000003 : Int32))) u n := by
  refine mt_of (by decide +kernel) (Nat.le_of_ble_eq_true rfl) ?_
  intro p e s m below meth c C hr hlk hnm
  refine x_aload_n C 0 dX10_anew_0 rfl rfl ?_
  refine x_callV C cl_X10_isBridge kmX10_239 (ci := 9) (b := 134) (As := []) (rest := []) rfl h134 (p_X10_isBridge_0 u h134) rfl rfl (Nat.le_of_ble_eq_true rfl) ⟨Nat.le_of_ble_eq_true rfl, Nat.le_of_ble_eq_true rfl⟩ ⟨Nat.le_of_ble_eq_true rfl, Nat.le_of_ble_eq_true rfl⟩ dX10_anew_1 ?_
  refine x_norm (st2 := [.int (0 : Int32)]) (kc2 := 0) (ks2 := 0) rfl rfl rfl rfl rfl ?_
  refine x_if_ne_f C 10 dX10_anew_4 (by decide) (by decide) ?_
  refine x_ldc C kcX10_215 dX10_anew_7 ?_
  exact x_iret C hr hlk (Nat.le_of_ble_eq_true rfl) (Nat.le_of_ble_eq_true rfl) dX10_anew_9 rfl rfl rfl
set_option maxRecDepth 20000 in
theorem p_X9_drift_0 {G : GT} {l : Launch} {z n : Nat} (u : HpT) (va : Int32) (hl_va : -2147483648 ≤ va.toInt) (hh_va : va.toInt ≤ 0) : Mt G l z yX9_drift cX9_drift 3 (some .int) { frames := 0, cells := 0, slots := 0, locals := 0 } [.ref (z + 0), .int va] u n (some (.int (-1000000002 : Int32))) u n := by
  refine mt_of (by decide +kernel) (Nat.le_of_ble_eq_true rfl) ?_
  intro p e s m below meth c C hr hlk hnm
  refine x_iload_n C 1 dX9_drift_0 rfl rfl ?_
  refine x_iconst (v := (1 : Int32)) C dX9_drift_1 (by decide) ?_
  refine x_icmp_lt_t C 11 dX9_drift_2 (by decide) (by simp only [Int32.lt_iff_toInt_lt, Int32.le_iff_toInt_le, i_eq_iff]; have e9 : (1 : Int32).toInt = 1 := (by decide); omega) ?_
  refine x_ldc C kcX9_80 dX9_drift_11 ?_
  exact x_iret C hr hlk (Nat.le_of_ble_eq_true rfl) (Nat.le_of_ble_eq_true rfl) dX9_drift_13 rfl rfl rfl
set_option maxRecDepth 20000 in
theorem p_X10_in_8 {G : GT} {l : Launch} {z n : Nat} (u : HpT) (va : Int32) (hl_va : -2147483648 ≤ va.toInt) (hh_va : va.toInt ≤ 0) : Mt G l z yX10_in cX10_in 3 (some .boolean) { frames := 0, cells := 0, slots := 0, locals := 0 } [.int va, .int (1 : Int32), .int (30 : Int32)] u n (some (.int (0 : Int32))) u n := by
  refine mt_of (by decide +kernel) (Nat.le_of_ble_eq_true rfl) ?_
  intro p e s m below meth c C hr hlk hnm
  refine x_iload_n C 0 dX10_in_0 rfl rfl ?_
  refine x_iload_n C 1 dX10_in_1 rfl rfl ?_
  refine x_icmp_lt_t C 14 dX10_in_2 (by decide) (by simp only [Int32.lt_iff_toInt_lt, Int32.le_iff_toInt_le, i_eq_iff]; have e9 : (1 : Int32).toInt = 1 := (by decide); omega) ?_
  refine x_iconst (v := (0 : Int32)) C dX10_in_14 (by decide) ?_
  exact x_zret C hr hlk (Nat.le_of_ble_eq_true rfl) (Nat.le_of_ble_eq_true rfl) dX10_in_15 (by decide) rfl rfl rfl
set_option maxRecDepth 20000 in
theorem p_X10_drift_0 {G : GT} {l : Launch} {z n : Nat} (u : HpT) (va : Int32) (hl_va : -2147483648 ≤ va.toInt) (hh_va : va.toInt ≤ 0) : Mt G l z yX10_drift cX10_drift 3 (some .int) { frames := 1, cells := 0, slots := 0, locals := 22 } [.ref (z + 134), .int va] u n (some (.int (-1000000002 : Int32))) u n := by
  refine mt_of (by decide +kernel) (Nat.le_of_ble_eq_true rfl) ?_
  intro p e s m below meth c C hr hlk hnm
  refine x_iload_n C 1 dX10_drift_0 rfl rfl ?_
  refine x_iconst (v := (1 : Int32)) C dX10_drift_1 (by decide) ?_
  refine x_bipush (v := (30 : Int32)) C dX10_drift_2 (by decide) ?_
  refine x_callS C cl_X10_in kmX10_82 (As := [.int va, .int (1 : Int32), .int (30 : Int32)]) (rest := []) (p_X10_in_8 u va hl_va hh_va) rfl rfl (Nat.le_of_ble_eq_true rfl) ⟨Nat.le_of_ble_eq_true rfl, Nat.le_of_ble_eq_true rfl⟩ ⟨Nat.le_of_ble_eq_true rfl, Nat.le_of_ble_eq_true rfl⟩ dX10_drift_4 ?_
  refine x_norm (st2 := [.int (0 : Int32)]) (kc2 := 0) (ks2 := 0) rfl rfl rfl rfl rfl ?_
  refine x_if_ne_f C 13 dX10_drift_7 (by decide) (by decide) ?_
  refine x_ldc C kcX10_86 dX10_drift_10 ?_
  exact x_iret C hr hlk (Nat.le_of_ble_eq_true rfl) (Nat.le_of_ble_eq_true rfl) dX10_drift_12 rfl rfl rfl
set_option maxRecDepth 20000 in
theorem p_X9_drift_1 {G : GT} {l : Launch} {z n : Nat} (u : HpT) (va : Int32) (hl_va : 1 ≤ va.toInt) (hh_va : va.toInt ≤ 30) (h0 : u 0 = some (.inr (8, [.ref (z + 1), .ref (z + 3), .ref (z + 6), .ref (z + 98), .ref (z + 99), .ref (z + 101), .ref (z + 106), .ref (z + 109), .ref (z + 112), .ref (z + 119), .int (0 : Int32), .int (-1 : Int32)]))) (h112 : u 112 = some (.inr (0, [.int (0 : Int32), .int (0 : Int32), .int (0 : Int32), .int (0 : Int32), .ref (z + 113), .ref (z + 114), .ref (z + 115), .ref (z + 116), .ref (z + 117), .ref (z + 118)]))) : Mt G l z yX9_drift cX9_drift 3 (some .int) { frames := 1, cells := 0, slots := 0, locals := 20 } [.ref (z + 0), .int va] u n (some (.int (-1000000003 : Int32))) u n := by
  refine mt_of (by decide +kernel) (Nat.le_of_ble_eq_true rfl) ?_
  intro p e s m below meth c C hr hlk hnm
  refine x_iload_n C 1 dX9_drift_0 rfl rfl ?_
  refine x_iconst (v := (1 : Int32)) C dX9_drift_1 (by decide) ?_
  refine x_icmp_lt_f C 11 dX9_drift_2 (by decide) (by simp only [Int32.lt_iff_toInt_lt, Int32.le_iff_toInt_le, i_eq_iff]; have e9 : (1 : Int32).toInt = 1 := (by decide); omega) ?_
  refine x_iload_n C 1 dX9_drift_5 rfl rfl ?_
  refine x_bipush (v := (30 : Int32)) C dX9_drift_6 (by decide) ?_
  refine x_icmp_le_t C 14 dX9_drift_8 (by decide) (by simp only [Int32.lt_iff_toInt_lt, Int32.le_iff_toInt_le, i_eq_iff]; have e9 : (30 : Int32).toInt = 30 := (by decide); omega) ?_
  refine x_aload_n C 0 dX9_drift_14 rfl rfl ?_
  refine gfX9_65 C dX9_drift_15 h0 rfl ?_
  refine x_callV C cl_X1_isThere kmX9_247 (ci := 0) (b := 112) (As := []) (rest := []) rfl h112 (p_X1_isThere_0 u h112) rfl rfl (Nat.le_of_ble_eq_true rfl) ⟨Nat.le_of_ble_eq_true rfl, Nat.le_of_ble_eq_true rfl⟩ ⟨Nat.le_of_ble_eq_true rfl, Nat.le_of_ble_eq_true rfl⟩ dX9_drift_18 ?_
  refine x_norm (st2 := [.int (0 : Int32)]) (kc2 := 0) (ks2 := 0) rfl rfl rfl rfl rfl ?_
  refine x_if_ne_f C 27 dX9_drift_21 (by decide) (by decide) ?_
  refine x_ldc C kcX9_221 dX9_drift_24 ?_
  exact x_iret C hr hlk (Nat.le_of_ble_eq_true rfl) (Nat.le_of_ble_eq_true rfl) dX9_drift_26 rfl rfl rfl
set_option maxRecDepth 20000 in
theorem p_X10_in_9 {G : GT} {l : Launch} {z n : Nat} (u : HpT) (va : Int32) (hl_va : 1 ≤ va.toInt) (hh_va : va.toInt ≤ 30) : Mt G l z yX10_in cX10_in 3 (some .boolean) { frames := 0, cells := 0, slots := 0, locals := 0 } [.int va, .int (1 : Int32), .int (30 : Int32)] u n (some (.int (1 : Int32))) u n := by
  refine mt_of (by decide +kernel) (Nat.le_of_ble_eq_true rfl) ?_
  intro p e s m below meth c C hr hlk hnm
  refine x_iload_n C 0 dX10_in_0 rfl rfl ?_
  refine x_iload_n C 1 dX10_in_1 rfl rfl ?_
  refine x_icmp_lt_f C 14 dX10_in_2 (by decide) (by simp only [Int32.lt_iff_toInt_lt, Int32.le_iff_toInt_le, i_eq_iff]; have e9 : (1 : Int32).toInt = 1 := (by decide); omega) ?_
  refine x_iload_n C 0 dX10_in_5 rfl rfl ?_
  refine x_iload_n C 2 dX10_in_6 rfl rfl ?_
  refine x_icmp_gt_f C 14 dX10_in_7 (by decide) (by simp only [Int32.lt_iff_toInt_lt, Int32.le_iff_toInt_le, i_eq_iff]; have e9 : (30 : Int32).toInt = 30 := (by decide); omega) ?_
  refine x_iconst (v := (1 : Int32)) C dX10_in_10 (by decide) ?_
  refine x_goto C 15 dX10_in_11 (by decide) ?_
  exact x_zret C hr hlk (Nat.le_of_ble_eq_true rfl) (Nat.le_of_ble_eq_true rfl) dX10_in_15 (by decide) rfl rfl rfl
set_option maxRecDepth 20000 in
theorem p_X10_drift_1 {G : GT} {l : Launch} {z n : Nat} (u : HpT) (va : Int32) (hl_va : 1 ≤ va.toInt) (hh_va : va.toInt ≤ 30) (h134 : u 134 = some (.inr (9, [.int (0 : Int32), .ref (z + 135), .int (0 : Int32), .int (0 : Int32), .int (0 : Int32), .int (-1 : Int32), .int (0 : Int32), .int (0 : Int32), .int (0 : Int32), .int (0 : Int32), .ref (z + 136), .ref (z + 137), .ref (z + 138), .ref (z + 139), .ref (z + 140), .int (0 : Int32), .int (0 : Int32), .int (0 : Int32), .int (0 : Int32), .ref (z + 141), .ref (z + 142), .ref (z + 143), .ref (z + 144), .ref (z + 145), .ref (z + 146), .int (0 : Int32), .int (0 : Int32), .ref (z + 147), .long (0 : Int64), .ref (z + 148), .int (0 : Int32), .int (0 : Int32), .int (0 : Int32), .ref (z + 149), .int (0 : Int32), .ref (z + 150), .ref (z + 151), .int (0 : Int32), .ref (z + 152), .ref (z + 153), .ref (z + 154), .ref (z + 155), .ref (z + 156)]))) : Mt G l z yX10_drift cX10_drift 3 (some .int) { frames := 1, cells := 0, slots := 0, locals := 22 } [.ref (z + 134), .int va] u n (some (.int (-1000000003 : Int32))) u n := by
  refine mt_of (by decide +kernel) (Nat.le_of_ble_eq_true rfl) ?_
  intro p e s m below meth c C hr hlk hnm
  refine x_iload_n C 1 dX10_drift_0 rfl rfl ?_
  refine x_iconst (v := (1 : Int32)) C dX10_drift_1 (by decide) ?_
  refine x_bipush (v := (30 : Int32)) C dX10_drift_2 (by decide) ?_
  refine x_callS C cl_X10_in kmX10_82 (As := [.int va, .int (1 : Int32), .int (30 : Int32)]) (rest := []) (p_X10_in_9 u va hl_va hh_va) rfl rfl (Nat.le_of_ble_eq_true rfl) ⟨Nat.le_of_ble_eq_true rfl, Nat.le_of_ble_eq_true rfl⟩ ⟨Nat.le_of_ble_eq_true rfl, Nat.le_of_ble_eq_true rfl⟩ dX10_drift_4 ?_
  refine x_norm (st2 := [.int (1 : Int32)]) (kc2 := 0) (ks2 := 0) rfl rfl rfl rfl rfl ?_
  refine x_if_ne_t C 13 dX10_drift_7 (by decide) (by decide) ?_
  refine x_aload_n C 0 dX10_drift_13 rfl rfl ?_
  refine x_callV C cl_X10_isBridge kmX10_239 (ci := 9) (b := 134) (As := []) (rest := []) rfl h134 (p_X10_isBridge_0 u h134) rfl rfl (Nat.le_of_ble_eq_true rfl) ⟨Nat.le_of_ble_eq_true rfl, Nat.le_of_ble_eq_true rfl⟩ ⟨Nat.le_of_ble_eq_true rfl, Nat.le_of_ble_eq_true rfl⟩ dX10_drift_14 ?_
  refine x_norm (st2 := [.int (0 : Int32)]) (kc2 := 0) (ks2 := 0) rfl rfl rfl rfl rfl ?_
  refine x_if_ne_f C 23 dX10_drift_17 (by decide) (by decide) ?_
  refine x_ldc C kcX10_215 dX10_drift_20 ?_
  exact x_iret C hr hlk (Nat.le_of_ble_eq_true rfl) (Nat.le_of_ble_eq_true rfl) dX10_drift_22 rfl rfl rfl
set_option maxRecDepth 20000 in
theorem p_X9_drift_2 {G : GT} {l : Launch} {z n : Nat} (u : HpT) (va : Int32) (hl_va : 31 ≤ va.toInt) (hh_va : va.toInt ≤ 2147483647) : Mt G l z yX9_drift cX9_drift 3 (some .int) { frames := 0, cells := 0, slots := 0, locals := 0 } [.ref (z + 0), .int va] u n (some (.int (-1000000002 : Int32))) u n := by
  refine mt_of (by decide +kernel) (Nat.le_of_ble_eq_true rfl) ?_
  intro p e s m below meth c C hr hlk hnm
  refine x_iload_n C 1 dX9_drift_0 rfl rfl ?_
  refine x_iconst (v := (1 : Int32)) C dX9_drift_1 (by decide) ?_
  refine x_icmp_lt_f C 11 dX9_drift_2 (by decide) (by simp only [Int32.lt_iff_toInt_lt, Int32.le_iff_toInt_le, i_eq_iff]; have e9 : (1 : Int32).toInt = 1 := (by decide); omega) ?_
  refine x_iload_n C 1 dX9_drift_5 rfl rfl ?_
  refine x_bipush (v := (30 : Int32)) C dX9_drift_6 (by decide) ?_
  refine x_icmp_le_f C 14 dX9_drift_8 (by decide) (by simp only [Int32.lt_iff_toInt_lt, Int32.le_iff_toInt_le, i_eq_iff]; have e9 : (30 : Int32).toInt = 30 := (by decide); omega) ?_
  refine x_ldc C kcX9_80 dX9_drift_11 ?_
  exact x_iret C hr hlk (Nat.le_of_ble_eq_true rfl) (Nat.le_of_ble_eq_true rfl) dX9_drift_13 rfl rfl rfl
set_option maxRecDepth 20000 in
theorem p_X10_in_10 {G : GT} {l : Launch} {z n : Nat} (u : HpT) (va : Int32) (hl_va : 31 ≤ va.toInt) (hh_va : va.toInt ≤ 2147483647) : Mt G l z yX10_in cX10_in 3 (some .boolean) { frames := 0, cells := 0, slots := 0, locals := 0 } [.int va, .int (1 : Int32), .int (30 : Int32)] u n (some (.int (0 : Int32))) u n := by
  refine mt_of (by decide +kernel) (Nat.le_of_ble_eq_true rfl) ?_
  intro p e s m below meth c C hr hlk hnm
  refine x_iload_n C 0 dX10_in_0 rfl rfl ?_
  refine x_iload_n C 1 dX10_in_1 rfl rfl ?_
  refine x_icmp_lt_f C 14 dX10_in_2 (by decide) (by simp only [Int32.lt_iff_toInt_lt, Int32.le_iff_toInt_le, i_eq_iff]; have e9 : (1 : Int32).toInt = 1 := (by decide); omega) ?_
  refine x_iload_n C 0 dX10_in_5 rfl rfl ?_
  refine x_iload_n C 2 dX10_in_6 rfl rfl ?_
  refine x_icmp_gt_t C 14 dX10_in_7 (by decide) (by simp only [Int32.lt_iff_toInt_lt, Int32.le_iff_toInt_le, i_eq_iff]; have e9 : (30 : Int32).toInt = 30 := (by decide); omega) ?_
  refine x_iconst (v := (0 : Int32)) C dX10_in_14 (by decide) ?_
  exact x_zret C hr hlk (Nat.le_of_ble_eq_true rfl) (Nat.le_of_ble_eq_true rfl) dX10_in_15 (by decide) rfl rfl rfl
set_option maxRecDepth 20000 in
theorem p_X10_drift_2 {G : GT} {l : Launch} {z n : Nat} (u : HpT) (va : Int32) (hl_va : 31 ≤ va.toInt) (hh_va : va.toInt ≤ 2147483647) : Mt G l z yX10_drift cX10_drift 3 (some .int) { frames := 1, cells := 0, slots := 0, locals := 22 } [.ref (z + 134), .int va] u n (some (.int (-1000000002 : Int32))) u n := by
  refine mt_of (by decide +kernel) (Nat.le_of_ble_eq_true rfl) ?_
  intro p e s m below meth c C hr hlk hnm
  refine x_iload_n C 1 dX10_drift_0 rfl rfl ?_
  refine x_iconst (v := (1 : Int32)) C dX10_drift_1 (by decide) ?_
  refine x_bipush (v := (30 : Int32)) C dX10_drift_2 (by decide) ?_
  refine x_callS C cl_X10_in kmX10_82 (As := [.int va, .int (1 : Int32), .int (30 : Int32)]) (rest := []) (p_X10_in_10 u va hl_va hh_va) rfl rfl (Nat.le_of_ble_eq_true rfl) ⟨Nat.le_of_ble_eq_true rfl, Nat.le_of_ble_eq_true rfl⟩ ⟨Nat.le_of_ble_eq_true rfl, Nat.le_of_ble_eq_true rfl⟩ dX10_drift_4 ?_
  refine x_norm (st2 := [.int (0 : Int32)]) (kc2 := 0) (ks2 := 0) rfl rfl rfl rfl rfl ?_
  refine x_if_ne_f C 13 dX10_drift_7 (by decide) (by decide) ?_
  refine x_ldc C kcX10_86 dX10_drift_10 ?_
  exact x_iret C hr hlk (Nat.le_of_ble_eq_true rfl) (Nat.le_of_ble_eq_true rfl) dX10_drift_12 rfl rfl rfl
set_option maxRecDepth 20000 in
theorem p_X9_undo_0 {G : GT} {l : Launch} {z n : Nat} (u : HpT) (va : Int32) (hl_va : -2147483648 ≤ va.toInt) (hh_va : va.toInt ≤ 0) : Mt G l z yX9_undo cX9_undo 2 (some .int) { frames := 0, cells := 0, slots := 0, locals := 0 } [.ref (z + 0), .int va] u n (some (.int (-1000000002 : Int32))) u n := by
  refine mt_of (by decide +kernel) (Nat.le_of_ble_eq_true rfl) ?_
  intro p e s m below meth c C hr hlk hnm
  refine x_iload_n C 1 dX9_undo_0 rfl rfl ?_
  refine x_iconst (v := (1 : Int32)) C dX9_undo_1 (by decide) ?_
  refine x_icmp_lt_t C 11 dX9_undo_2 (by decide) (by simp only [Int32.lt_iff_toInt_lt, Int32.le_iff_toInt_le, i_eq_iff]; have e9 : (1 : Int32).toInt = 1 := (by decide); omega) ?_
  refine x_ldc C kcX9_80 dX9_undo_11 ?_
  exact x_iret C hr hlk (Nat.le_of_ble_eq_true rfl) (Nat.le_of_ble_eq_true rfl) dX9_undo_13 rfl rfl rfl
set_option maxRecDepth 20000 in
theorem p_X10_undo_0 {G : GT} {l : Launch} {z n : Nat} (u : HpT) (va : Int32) (hl_va : -2147483648 ≤ va.toInt) (hh_va : va.toInt ≤ 0) : Mt G l z yX10_undo cX10_undo 3 (some .int) { frames := 1, cells := 0, slots := 0, locals := 22 } [.ref (z + 134), .int va] u n (some (.int (-1000000002 : Int32))) u n := by
  refine mt_of (by decide +kernel) (Nat.le_of_ble_eq_true rfl) ?_
  intro p e s m below meth c C hr hlk hnm
  refine x_iload_n C 1 dX10_undo_0 rfl rfl ?_
  refine x_iconst (v := (1 : Int32)) C dX10_undo_1 (by decide) ?_
  refine x_bipush (v := (30 : Int32)) C dX10_undo_2 (by decide) ?_
  refine x_callS C cl_X10_in kmX10_82 (As := [.int va, .int (1 : Int32), .int (30 : Int32)]) (rest := []) (p_X10_in_8 u va hl_va hh_va) rfl rfl (Nat.le_of_ble_eq_true rfl) ⟨Nat.le_of_ble_eq_true rfl, Nat.le_of_ble_eq_true rfl⟩ ⟨Nat.le_of_ble_eq_true rfl, Nat.le_of_ble_eq_true rfl⟩ dX10_undo_4 ?_
  refine x_norm (st2 := [.int (0 : Int32)]) (kc2 := 0) (ks2 := 0) rfl rfl rfl rfl rfl ?_
  refine x_if_ne_f C 13 dX10_undo_7 (by decide) (by decide) ?_
  refine x_ldc C kcX10_86 dX10_undo_10 ?_
  exact x_iret C hr hlk (Nat.le_of_ble_eq_true rfl) (Nat.le_of_ble_eq_true rfl) dX10_undo_12 rfl rfl rfl
set_option maxRecDepth 20000 in
theorem p_X9_undo_1 {G : GT} {l : Launch} {z n : Nat} (u : HpT) (va : Int32) (hl_va : 1 ≤ va.toInt) (hh_va : va.toInt ≤ 30) (h0 : u 0 = some (.inr (8, [.ref (z + 1), .ref (z + 3), .ref (z + 6), .ref (z + 98), .ref (z + 99), .ref (z + 101), .ref (z + 106), .ref (z + 109), .ref (z + 112), .ref (z + 119), .int (0 : Int32), .int (-1 : Int32)]))) (h6 : u 6 = some (.inr (5, [.ref (z + 7), .int (0 : Int32), .int (0 : Int32)]))) : Mt G l z yX9_undo cX9_undo 2 (some .int) { frames := 0, cells := 0, slots := 0, locals := 0 } [.ref (z + 0), .int va] u n (some (.int (-1000000003 : Int32))) u n := by
  refine mt_of (by decide +kernel) (Nat.le_of_ble_eq_true rfl) ?_
  intro p e s m below meth c C hr hlk hnm
  refine x_iload_n C 1 dX9_undo_0 rfl rfl ?_
  refine x_iconst (v := (1 : Int32)) C dX9_undo_1 (by decide) ?_
  refine x_icmp_lt_f C 11 dX9_undo_2 (by decide) (by simp only [Int32.lt_iff_toInt_lt, Int32.le_iff_toInt_le, i_eq_iff]; have e9 : (1 : Int32).toInt = 1 := (by decide); omega) ?_
  refine x_iload_n C 1 dX9_undo_5 rfl rfl ?_
  refine x_bipush (v := (30 : Int32)) C dX9_undo_6 (by decide) ?_
  refine x_icmp_le_t C 14 dX9_undo_8 (by decide) (by simp only [Int32.lt_iff_toInt_lt, Int32.le_iff_toInt_le, i_eq_iff]; have e9 : (30 : Int32).toInt = 30 := (by decide); omega) ?_
  refine x_iload_n C 1 dX9_undo_14 rfl rfl ?_
  refine x_aload_n C 0 dX9_undo_15 rfl rfl ?_
  refine gfX9_26 C dX9_undo_16 h0 rfl ?_
  refine gfX9_144 C dX9_undo_19 h6 rfl ?_
  refine x_icmp_le_f C 28 dX9_undo_22 (by decide) (by simp only [Int32.lt_iff_toInt_lt, Int32.le_iff_toInt_le, i_eq_iff]; have e9 : (0 : Int32).toInt = 0 := (by decide); omega) ?_
  refine x_ldc C kcX9_221 dX9_undo_25 ?_
  exact x_iret C hr hlk (Nat.le_of_ble_eq_true rfl) (Nat.le_of_ble_eq_true rfl) dX9_undo_27 rfl rfl rfl
set_option maxRecDepth 20000 in
theorem p_X10_undo_1 {G : GT} {l : Launch} {z n : Nat} (u : HpT) (va : Int32) (hl_va : 1 ≤ va.toInt) (hh_va : va.toInt ≤ 30) (h134 : u 134 = some (.inr (9, [.int (0 : Int32), .ref (z + 135), .int (0 : Int32), .int (0 : Int32), .int (0 : Int32), .int (-1 : Int32), .int (0 : Int32), .int (0 : Int32), .int (0 : Int32), .int (0 : Int32), .ref (z + 136), .ref (z + 137), .ref (z + 138), .ref (z + 139), .ref (z + 140), .int (0 : Int32), .int (0 : Int32), .int (0 : Int32), .int (0 : Int32), .ref (z + 141), .ref (z + 142), .ref (z + 143), .ref (z + 144), .ref (z + 145), .ref (z + 146), .int (0 : Int32), .int (0 : Int32), .ref (z + 147), .long (0 : Int64), .ref (z + 148), .int (0 : Int32), .int (0 : Int32), .int (0 : Int32), .ref (z + 149), .int (0 : Int32), .ref (z + 150), .ref (z + 151), .int (0 : Int32), .ref (z + 152), .ref (z + 153), .ref (z + 154), .ref (z + 155), .ref (z + 156)]))) : Mt G l z yX10_undo cX10_undo 3 (some .int) { frames := 1, cells := 0, slots := 0, locals := 22 } [.ref (z + 134), .int va] u n (some (.int (-1000000003 : Int32))) u n := by
  refine mt_of (by decide +kernel) (Nat.le_of_ble_eq_true rfl) ?_
  intro p e s m below meth c C hr hlk hnm
  refine x_iload_n C 1 dX10_undo_0 rfl rfl ?_
  refine x_iconst (v := (1 : Int32)) C dX10_undo_1 (by decide) ?_
  refine x_bipush (v := (30 : Int32)) C dX10_undo_2 (by decide) ?_
  refine x_callS C cl_X10_in kmX10_82 (As := [.int va, .int (1 : Int32), .int (30 : Int32)]) (rest := []) (p_X10_in_9 u va hl_va hh_va) rfl rfl (Nat.le_of_ble_eq_true rfl) ⟨Nat.le_of_ble_eq_true rfl, Nat.le_of_ble_eq_true rfl⟩ ⟨Nat.le_of_ble_eq_true rfl, Nat.le_of_ble_eq_true rfl⟩ dX10_undo_4 ?_
  refine x_norm (st2 := [.int (1 : Int32)]) (kc2 := 0) (ks2 := 0) rfl rfl rfl rfl rfl ?_
  refine x_if_ne_t C 13 dX10_undo_7 (by decide) (by decide) ?_
  refine x_iload_n C 1 dX10_undo_13 rfl rfl ?_
  refine x_aload_n C 0 dX10_undo_14 rfl rfl ?_
  refine gfX10_159 C dX10_undo_15 h134 rfl ?_
  refine x_icmp_le_f C 24 dX10_undo_18 (by decide) (by simp only [Int32.lt_iff_toInt_lt, Int32.le_iff_toInt_le, i_eq_iff]; have e9 : (0 : Int32).toInt = 0 := (by decide); omega) ?_
  refine x_ldc C kcX10_215 dX10_undo_21 ?_
  exact x_iret C hr hlk (Nat.le_of_ble_eq_true rfl) (Nat.le_of_ble_eq_true rfl) dX10_undo_23 rfl rfl rfl
set_option maxRecDepth 20000 in
theorem p_X9_undo_2 {G : GT} {l : Launch} {z n : Nat} (u : HpT) (va : Int32) (hl_va : 31 ≤ va.toInt) (hh_va : va.toInt ≤ 2147483647) : Mt G l z yX9_undo cX9_undo 2 (some .int) { frames := 0, cells := 0, slots := 0, locals := 0 } [.ref (z + 0), .int va] u n (some (.int (-1000000002 : Int32))) u n := by
  refine mt_of (by decide +kernel) (Nat.le_of_ble_eq_true rfl) ?_
  intro p e s m below meth c C hr hlk hnm
  refine x_iload_n C 1 dX9_undo_0 rfl rfl ?_
  refine x_iconst (v := (1 : Int32)) C dX9_undo_1 (by decide) ?_
  refine x_icmp_lt_f C 11 dX9_undo_2 (by decide) (by simp only [Int32.lt_iff_toInt_lt, Int32.le_iff_toInt_le, i_eq_iff]; have e9 : (1 : Int32).toInt = 1 := (by decide); omega) ?_
  refine x_iload_n C 1 dX9_undo_5 rfl rfl ?_
  refine x_bipush (v := (30 : Int32)) C dX9_undo_6 (by decide) ?_
  refine x_icmp_le_f C 14 dX9_undo_8 (by decide) (by simp only [Int32.lt_iff_toInt_lt, Int32.le_iff_toInt_le, i_eq_iff]; have e9 : (30 : Int32).toInt = 30 := (by decide); omega) ?_
  refine x_ldc C kcX9_80 dX9_undo_11 ?_
  exact x_iret C hr hlk (Nat.le_of_ble_eq_true rfl) (Nat.le_of_ble_eq_true rfl) dX9_undo_13 rfl rfl rfl
set_option maxRecDepth 20000 in
theorem p_X10_undo_2 {G : GT} {l : Launch} {z n : Nat} (u : HpT) (va : Int32) (hl_va : 31 ≤ va.toInt) (hh_va : va.toInt ≤ 2147483647) : Mt G l z yX10_undo cX10_undo 3 (some .int) { frames := 1, cells := 0, slots := 0, locals := 22 } [.ref (z + 134), .int va] u n (some (.int (-1000000002 : Int32))) u n := by
  refine mt_of (by decide +kernel) (Nat.le_of_ble_eq_true rfl) ?_
  intro p e s m below meth c C hr hlk hnm
  refine x_iload_n C 1 dX10_undo_0 rfl rfl ?_
  refine x_iconst (v := (1 : Int32)) C dX10_undo_1 (by decide) ?_
  refine x_bipush (v := (30 : Int32)) C dX10_undo_2 (by decide) ?_
  refine x_callS C cl_X10_in kmX10_82 (As := [.int va, .int (1 : Int32), .int (30 : Int32)]) (rest := []) (p_X10_in_10 u va hl_va hh_va) rfl rfl (Nat.le_of_ble_eq_true rfl) ⟨Nat.le_of_ble_eq_true rfl, Nat.le_of_ble_eq_true rfl⟩ ⟨Nat.le_of_ble_eq_true rfl, Nat.le_of_ble_eq_true rfl⟩ dX10_undo_4 ?_
  refine x_norm (st2 := [.int (0 : Int32)]) (kc2 := 0) (ks2 := 0) rfl rfl rfl rfl rfl ?_
  refine x_if_ne_f C 13 dX10_undo_7 (by decide) (by decide) ?_
  refine x_ldc C kcX10_86 dX10_undo_10 ?_
  exact x_iret C hr hlk (Nat.le_of_ble_eq_true rfl) (Nat.le_of_ble_eq_true rfl) dX10_undo_12 rfl rfl rfl
set_option maxRecDepth 20000 in
theorem p_X9_stay_0 {G : GT} {l : Launch} {z n : Nat} (u : HpT) (va : Int32) (hl_va : -2147483648 ≤ va.toInt) (hh_va : va.toInt ≤ -1) (vb : Int32) (hl_vb : -2147483648 ≤ vb.toInt) (hh_vb : vb.toInt ≤ 2147483647) (h0 : u 0 = some (.inr (8, [.ref (z + 1), .ref (z + 3), .ref (z + 6), .ref (z + 98), .ref (z + 99), .ref (z + 101), .ref (z + 106), .ref (z + 109), .ref (z + 112), .ref (z + 119), .int (0 : Int32), .int (-1 : Int32)]))) (h112 : u 112 = some (.inr (0, [.int (0 : Int32), .int (0 : Int32), .int (0 : Int32), .int (0 : Int32), .ref (z + 113), .ref (z + 114), .ref (z + 115), .ref (z + 116), .ref (z + 117), .ref (z + 118)]))) : Mt G l z yX9_stay cX9_stay 3 (some .int) { frames := 1, cells := 0, slots := 0, locals := 21 } [.ref (z + 0), .int va, .int vb] u n (some (.int (-1000000001 : Int32))) u n := by
  refine mt_of (by decide +kernel) (Nat.le_of_ble_eq_true rfl) ?_
  intro p e s m below meth c C hr hlk hnm
  refine x_aload_n C 0 dX9_stay_0 rfl rfl ?_
  refine gfX9_65 C dX9_stay_1 h0 rfl ?_
  refine x_iload_n C 1 dX9_stay_4 rfl rfl ?_
  refine x_callV C cl_X1_hasTraveller kmX9_193 (ci := 0) (b := 112) (As := [.int va]) (rest := []) rfl h112 (p_X1_hasTraveller_0 u va hl_va hh_va) rfl rfl (Nat.le_of_ble_eq_true rfl) ⟨Nat.le_of_ble_eq_true rfl, Nat.le_of_ble_eq_true rfl⟩ ⟨Nat.le_of_ble_eq_true rfl, Nat.le_of_ble_eq_true rfl⟩ dX9_stay_5 ?_
  refine x_norm (st2 := [.int (0 : Int32)]) (kc2 := 0) (ks2 := 0) rfl rfl rfl rfl rfl ?_
  refine x_if_eq_t C 22 dX9_stay_8 (by decide) (by decide) ?_
  refine x_ldc C kcX9_179 dX9_stay_22 ?_
  exact x_iret C hr hlk (Nat.le_of_ble_eq_true rfl) (Nat.le_of_ble_eq_true rfl) dX9_stay_24 rfl rfl rfl
set_option maxRecDepth 20000 in
theorem p_X10_stay_0 {G : GT} {l : Launch} {z n : Nat} (u : HpT) (va : Int32) (hl_va : -2147483648 ≤ va.toInt) (hh_va : va.toInt ≤ -1) (vb : Int32) (hl_vb : -2147483648 ≤ vb.toInt) (hh_vb : vb.toInt ≤ 2147483647) (h134 : u 134 = some (.inr (9, [.int (0 : Int32), .ref (z + 135), .int (0 : Int32), .int (0 : Int32), .int (0 : Int32), .int (-1 : Int32), .int (0 : Int32), .int (0 : Int32), .int (0 : Int32), .int (0 : Int32), .ref (z + 136), .ref (z + 137), .ref (z + 138), .ref (z + 139), .ref (z + 140), .int (0 : Int32), .int (0 : Int32), .int (0 : Int32), .int (0 : Int32), .ref (z + 141), .ref (z + 142), .ref (z + 143), .ref (z + 144), .ref (z + 145), .ref (z + 146), .int (0 : Int32), .int (0 : Int32), .ref (z + 147), .long (0 : Int64), .ref (z + 148), .int (0 : Int32), .int (0 : Int32), .int (0 : Int32), .ref (z + 149), .int (0 : Int32), .ref (z + 150), .ref (z + 151), .int (0 : Int32), .ref (z + 152), .ref (z + 153), .ref (z + 154), .ref (z + 155), .ref (z + 156)]))) : Mt G l z yX10_stay cX10_stay 3 (some .int) { frames := 2, cells := 0, slots := 0, locals := 43 } [.ref (z + 134), .int va, .int vb] u n (some (.int (-1000000001 : Int32))) u n := by
  refine mt_of (by decide +kernel) (Nat.le_of_ble_eq_true rfl) ?_
  intro p e s m below meth c C hr hlk hnm
  refine x_aload_n C 0 dX10_stay_0 rfl rfl ?_
  refine x_iload_n C 1 dX10_stay_1 rfl rfl ?_
  refine x_callV C cl_X10_isTraveller kmX10_203 (ci := 9) (b := 134) (As := [.int va]) (rest := []) rfl h134 (p_X10_isTraveller_0 u va hl_va hh_va h134) rfl rfl (Nat.le_of_ble_eq_true rfl) ⟨Nat.le_of_ble_eq_true rfl, Nat.le_of_ble_eq_true rfl⟩ ⟨Nat.le_of_ble_eq_true rfl, Nat.le_of_ble_eq_true rfl⟩ dX10_stay_2 ?_
  refine x_norm (st2 := [.int (0 : Int32)]) (kc2 := 0) (ks2 := 0) rfl rfl rfl rfl rfl ?_
  refine x_if_eq_t C 25 dX10_stay_5 (by decide) (by decide) ?_
  refine x_ldc C kcX10_193 dX10_stay_25 ?_
  exact x_iret C hr hlk (Nat.le_of_ble_eq_true rfl) (Nat.le_of_ble_eq_true rfl) dX10_stay_27 rfl rfl rfl
set_option maxRecDepth 20000 in
theorem p_X9_stay_1 {G : GT} {l : Launch} {z n : Nat} (u : HpT) (va : Int32) (hl_va : 0 ≤ va.toInt) (hh_va : va.toInt ≤ 2147483647) (vb : Int32) (hl_vb : -2147483648 ≤ vb.toInt) (hh_vb : vb.toInt ≤ 2147483647) (h0 : u 0 = some (.inr (8, [.ref (z + 1), .ref (z + 3), .ref (z + 6), .ref (z + 98), .ref (z + 99), .ref (z + 101), .ref (z + 106), .ref (z + 109), .ref (z + 112), .ref (z + 119), .int (0 : Int32), .int (-1 : Int32)]))) (h112 : u 112 = some (.inr (0, [.int (0 : Int32), .int (0 : Int32), .int (0 : Int32), .int (0 : Int32), .ref (z + 113), .ref (z + 114), .ref (z + 115), .ref (z + 116), .ref (z + 117), .ref (z + 118)]))) : Mt G l z yX9_stay cX9_stay 3 (some .int) { frames := 1, cells := 0, slots := 0, locals := 21 } [.ref (z + 0), .int va, .int vb] u n (some (.int (-1000000001 : Int32))) u n := by
  refine mt_of (by decide +kernel) (Nat.le_of_ble_eq_true rfl) ?_
  intro p e s m below meth c C hr hlk hnm
  refine x_aload_n C 0 dX9_stay_0 rfl rfl ?_
  refine gfX9_65 C dX9_stay_1 h0 rfl ?_
  refine x_iload_n C 1 dX9_stay_4 rfl rfl ?_
  refine x_callV C cl_X1_hasTraveller kmX9_193 (ci := 0) (b := 112) (As := [.int va]) (rest := []) rfl h112 (p_X1_hasTraveller_1 u va hl_va hh_va h112) rfl rfl (Nat.le_of_ble_eq_true rfl) ⟨Nat.le_of_ble_eq_true rfl, Nat.le_of_ble_eq_true rfl⟩ ⟨Nat.le_of_ble_eq_true rfl, Nat.le_of_ble_eq_true rfl⟩ dX9_stay_5 ?_
  refine x_norm (st2 := [.int (0 : Int32)]) (kc2 := 0) (ks2 := 0) rfl rfl rfl rfl rfl ?_
  refine x_if_eq_t C 22 dX9_stay_8 (by decide) (by decide) ?_
  refine x_ldc C kcX9_179 dX9_stay_22 ?_
  exact x_iret C hr hlk (Nat.le_of_ble_eq_true rfl) (Nat.le_of_ble_eq_true rfl) dX9_stay_24 rfl rfl rfl
set_option maxRecDepth 20000 in
theorem p_X10_stay_1 {G : GT} {l : Launch} {z n : Nat} (u : HpT) (va : Int32) (hl_va : 0 ≤ va.toInt) (hh_va : va.toInt ≤ 2147483647) (vb : Int32) (hl_vb : -2147483648 ≤ vb.toInt) (hh_vb : vb.toInt ≤ 2147483647) (h134 : u 134 = some (.inr (9, [.int (0 : Int32), .ref (z + 135), .int (0 : Int32), .int (0 : Int32), .int (0 : Int32), .int (-1 : Int32), .int (0 : Int32), .int (0 : Int32), .int (0 : Int32), .int (0 : Int32), .ref (z + 136), .ref (z + 137), .ref (z + 138), .ref (z + 139), .ref (z + 140), .int (0 : Int32), .int (0 : Int32), .int (0 : Int32), .int (0 : Int32), .ref (z + 141), .ref (z + 142), .ref (z + 143), .ref (z + 144), .ref (z + 145), .ref (z + 146), .int (0 : Int32), .int (0 : Int32), .ref (z + 147), .long (0 : Int64), .ref (z + 148), .int (0 : Int32), .int (0 : Int32), .int (0 : Int32), .ref (z + 149), .int (0 : Int32), .ref (z + 150), .ref (z + 151), .int (0 : Int32), .ref (z + 152), .ref (z + 153), .ref (z + 154), .ref (z + 155), .ref (z + 156)]))) : Mt G l z yX10_stay cX10_stay 3 (some .int) { frames := 2, cells := 0, slots := 0, locals := 43 } [.ref (z + 134), .int va, .int vb] u n (some (.int (-1000000001 : Int32))) u n := by
  refine mt_of (by decide +kernel) (Nat.le_of_ble_eq_true rfl) ?_
  intro p e s m below meth c C hr hlk hnm
  refine x_aload_n C 0 dX10_stay_0 rfl rfl ?_
  refine x_iload_n C 1 dX10_stay_1 rfl rfl ?_
  refine x_callV C cl_X10_isTraveller kmX10_203 (ci := 9) (b := 134) (As := [.int va]) (rest := []) rfl h134 (p_X10_isTraveller_1 u va hl_va hh_va h134) rfl rfl (Nat.le_of_ble_eq_true rfl) ⟨Nat.le_of_ble_eq_true rfl, Nat.le_of_ble_eq_true rfl⟩ ⟨Nat.le_of_ble_eq_true rfl, Nat.le_of_ble_eq_true rfl⟩ dX10_stay_2 ?_
  refine x_norm (st2 := [.int (0 : Int32)]) (kc2 := 0) (ks2 := 0) rfl rfl rfl rfl rfl ?_
  refine x_if_eq_t C 25 dX10_stay_5 (by decide) (by decide) ?_
  refine x_ldc C kcX10_193 dX10_stay_25 ?_
  exact x_iret C hr hlk (Nat.le_of_ble_eq_true rfl) (Nat.le_of_ble_eq_true rfl) dX10_stay_27 rfl rfl rfl
set_option maxRecDepth 20000 in
theorem p_X9_talk_0 {G : GT} {l : Launch} {z n : Nat} (u : HpT) (va : Int32) (hl_va : -2147483648 ≤ va.toInt) (hh_va : va.toInt ≤ -1) (vb : Int32) (hl_vb : -2147483648 ≤ vb.toInt) (hh_vb : vb.toInt ≤ 2147483647) (h0 : u 0 = some (.inr (8, [.ref (z + 1), .ref (z + 3), .ref (z + 6), .ref (z + 98), .ref (z + 99), .ref (z + 101), .ref (z + 106), .ref (z + 109), .ref (z + 112), .ref (z + 119), .int (0 : Int32), .int (-1 : Int32)]))) (h112 : u 112 = some (.inr (0, [.int (0 : Int32), .int (0 : Int32), .int (0 : Int32), .int (0 : Int32), .ref (z + 113), .ref (z + 114), .ref (z + 115), .ref (z + 116), .ref (z + 117), .ref (z + 118)]))) : Mt G l z yX9_talk cX9_talk 3 (some .int) { frames := 1, cells := 0, slots := 0, locals := 21 } [.ref (z + 0), .int va, .int vb] u n (some (.int (-1000000001 : Int32))) u n := by
  refine mt_of (by decide +kernel) (Nat.le_of_ble_eq_true rfl) ?_
  intro p e s m below meth c C hr hlk hnm
  refine x_aload_n C 0 dX9_talk_0 rfl rfl ?_
  refine gfX9_65 C dX9_talk_1 h0 rfl ?_
  refine x_iload_n C 1 dX9_talk_4 rfl rfl ?_
  refine x_callV C cl_X1_hasTraveller kmX9_193 (ci := 0) (b := 112) (As := [.int va]) (rest := []) rfl h112 (p_X1_hasTraveller_0 u va hl_va hh_va) rfl rfl (Nat.le_of_ble_eq_true rfl) ⟨Nat.le_of_ble_eq_true rfl, Nat.le_of_ble_eq_true rfl⟩ ⟨Nat.le_of_ble_eq_true rfl, Nat.le_of_ble_eq_true rfl⟩ dX9_talk_5 ?_
  refine x_norm (st2 := [.int (0 : Int32)]) (kc2 := 0) (ks2 := 0) rfl rfl rfl rfl rfl ?_
  refine x_if_ne_f C 14 dX9_talk_8 (by decide) (by decide) ?_
  refine x_ldc C kcX9_179 dX9_talk_11 ?_
  exact x_iret C hr hlk (Nat.le_of_ble_eq_true rfl) (Nat.le_of_ble_eq_true rfl) dX9_talk_13 rfl rfl rfl
set_option maxRecDepth 20000 in
theorem p_X10_talk_0 {G : GT} {l : Launch} {z n : Nat} (u : HpT) (va : Int32) (hl_va : -2147483648 ≤ va.toInt) (hh_va : va.toInt ≤ -1) (vb : Int32) (hl_vb : -2147483648 ≤ vb.toInt) (hh_vb : vb.toInt ≤ 2147483647) (h134 : u 134 = some (.inr (9, [.int (0 : Int32), .ref (z + 135), .int (0 : Int32), .int (0 : Int32), .int (0 : Int32), .int (-1 : Int32), .int (0 : Int32), .int (0 : Int32), .int (0 : Int32), .int (0 : Int32), .ref (z + 136), .ref (z + 137), .ref (z + 138), .ref (z + 139), .ref (z + 140), .int (0 : Int32), .int (0 : Int32), .int (0 : Int32), .int (0 : Int32), .ref (z + 141), .ref (z + 142), .ref (z + 143), .ref (z + 144), .ref (z + 145), .ref (z + 146), .int (0 : Int32), .int (0 : Int32), .ref (z + 147), .long (0 : Int64), .ref (z + 148), .int (0 : Int32), .int (0 : Int32), .int (0 : Int32), .ref (z + 149), .int (0 : Int32), .ref (z + 150), .ref (z + 151), .int (0 : Int32), .ref (z + 152), .ref (z + 153), .ref (z + 154), .ref (z + 155), .ref (z + 156)]))) : Mt G l z yX10_talk cX10_talk 3 (some .int) { frames := 2, cells := 0, slots := 0, locals := 43 } [.ref (z + 134), .int va, .int vb] u n (some (.int (-1000000001 : Int32))) u n := by
  refine mt_of (by decide +kernel) (Nat.le_of_ble_eq_true rfl) ?_
  intro p e s m below meth c C hr hlk hnm
  refine x_aload_n C 0 dX10_talk_0 rfl rfl ?_
  refine x_iload_n C 1 dX10_talk_1 rfl rfl ?_
  refine x_callV C cl_X10_isTraveller kmX10_203 (ci := 9) (b := 134) (As := [.int va]) (rest := []) rfl h134 (p_X10_isTraveller_0 u va hl_va hh_va h134) rfl rfl (Nat.le_of_ble_eq_true rfl) ⟨Nat.le_of_ble_eq_true rfl, Nat.le_of_ble_eq_true rfl⟩ ⟨Nat.le_of_ble_eq_true rfl, Nat.le_of_ble_eq_true rfl⟩ dX10_talk_2 ?_
  refine x_norm (st2 := [.int (0 : Int32)]) (kc2 := 0) (ks2 := 0) rfl rfl rfl rfl rfl ?_
  refine x_if_ne_f C 11 dX10_talk_5 (by decide) (by decide) ?_
  refine x_ldc C kcX10_193 dX10_talk_8 ?_
  exact x_iret C hr hlk (Nat.le_of_ble_eq_true rfl) (Nat.le_of_ble_eq_true rfl) dX10_talk_10 rfl rfl rfl
set_option maxRecDepth 20000 in
theorem p_X9_talk_1 {G : GT} {l : Launch} {z n : Nat} (u : HpT) (va : Int32) (hl_va : 0 ≤ va.toInt) (hh_va : va.toInt ≤ 2147483647) (vb : Int32) (hl_vb : -2147483648 ≤ vb.toInt) (hh_vb : vb.toInt ≤ 2147483647) (h0 : u 0 = some (.inr (8, [.ref (z + 1), .ref (z + 3), .ref (z + 6), .ref (z + 98), .ref (z + 99), .ref (z + 101), .ref (z + 106), .ref (z + 109), .ref (z + 112), .ref (z + 119), .int (0 : Int32), .int (-1 : Int32)]))) (h112 : u 112 = some (.inr (0, [.int (0 : Int32), .int (0 : Int32), .int (0 : Int32), .int (0 : Int32), .ref (z + 113), .ref (z + 114), .ref (z + 115), .ref (z + 116), .ref (z + 117), .ref (z + 118)]))) : Mt G l z yX9_talk cX9_talk 3 (some .int) { frames := 1, cells := 0, slots := 0, locals := 21 } [.ref (z + 0), .int va, .int vb] u n (some (.int (-1000000001 : Int32))) u n := by
  refine mt_of (by decide +kernel) (Nat.le_of_ble_eq_true rfl) ?_
  intro p e s m below meth c C hr hlk hnm
  refine x_aload_n C 0 dX9_talk_0 rfl rfl ?_
  refine gfX9_65 C dX9_talk_1 h0 rfl ?_
  refine x_iload_n C 1 dX9_talk_4 rfl rfl ?_
  refine x_callV C cl_X1_hasTraveller kmX9_193 (ci := 0) (b := 112) (As := [.int va]) (rest := []) rfl h112 (p_X1_hasTraveller_1 u va hl_va hh_va h112) rfl rfl (Nat.le_of_ble_eq_true rfl) ⟨Nat.le_of_ble_eq_true rfl, Nat.le_of_ble_eq_true rfl⟩ ⟨Nat.le_of_ble_eq_true rfl, Nat.le_of_ble_eq_true rfl⟩ dX9_talk_5 ?_
  refine x_norm (st2 := [.int (0 : Int32)]) (kc2 := 0) (ks2 := 0) rfl rfl rfl rfl rfl ?_
  refine x_if_ne_f C 14 dX9_talk_8 (by decide) (by decide) ?_
  refine x_ldc C kcX9_179 dX9_talk_11 ?_
  exact x_iret C hr hlk (Nat.le_of_ble_eq_true rfl) (Nat.le_of_ble_eq_true rfl) dX9_talk_13 rfl rfl rfl
set_option maxRecDepth 20000 in
theorem p_X10_talk_1 {G : GT} {l : Launch} {z n : Nat} (u : HpT) (va : Int32) (hl_va : 0 ≤ va.toInt) (hh_va : va.toInt ≤ 2147483647) (vb : Int32) (hl_vb : -2147483648 ≤ vb.toInt) (hh_vb : vb.toInt ≤ 2147483647) (h134 : u 134 = some (.inr (9, [.int (0 : Int32), .ref (z + 135), .int (0 : Int32), .int (0 : Int32), .int (0 : Int32), .int (-1 : Int32), .int (0 : Int32), .int (0 : Int32), .int (0 : Int32), .int (0 : Int32), .ref (z + 136), .ref (z + 137), .ref (z + 138), .ref (z + 139), .ref (z + 140), .int (0 : Int32), .int (0 : Int32), .int (0 : Int32), .int (0 : Int32), .ref (z + 141), .ref (z + 142), .ref (z + 143), .ref (z + 144), .ref (z + 145), .ref (z + 146), .int (0 : Int32), .int (0 : Int32), .ref (z + 147), .long (0 : Int64), .ref (z + 148), .int (0 : Int32), .int (0 : Int32), .int (0 : Int32), .ref (z + 149), .int (0 : Int32), .ref (z + 150), .ref (z + 151), .int (0 : Int32), .ref (z + 152), .ref (z + 153), .ref (z + 154), .ref (z + 155), .ref (z + 156)]))) : Mt G l z yX10_talk cX10_talk 3 (some .int) { frames := 2, cells := 0, slots := 0, locals := 43 } [.ref (z + 134), .int va, .int vb] u n (some (.int (-1000000001 : Int32))) u n := by
  refine mt_of (by decide +kernel) (Nat.le_of_ble_eq_true rfl) ?_
  intro p e s m below meth c C hr hlk hnm
  refine x_aload_n C 0 dX10_talk_0 rfl rfl ?_
  refine x_iload_n C 1 dX10_talk_1 rfl rfl ?_
  refine x_callV C cl_X10_isTraveller kmX10_203 (ci := 9) (b := 134) (As := [.int va]) (rest := []) rfl h134 (p_X10_isTraveller_1 u va hl_va hh_va h134) rfl rfl (Nat.le_of_ble_eq_true rfl) ⟨Nat.le_of_ble_eq_true rfl, Nat.le_of_ble_eq_true rfl⟩ ⟨Nat.le_of_ble_eq_true rfl, Nat.le_of_ble_eq_true rfl⟩ dX10_talk_2 ?_
  refine x_norm (st2 := [.int (0 : Int32)]) (kc2 := 0) (ks2 := 0) rfl rfl rfl rfl rfl ?_
  refine x_if_ne_f C 11 dX10_talk_5 (by decide) (by decide) ?_
  refine x_ldc C kcX10_193 dX10_talk_8 ?_
  exact x_iret C hr hlk (Nat.le_of_ble_eq_true rfl) (Nat.le_of_ble_eq_true rfl) dX10_talk_10 rfl rfl rfl
set_option maxRecDepth 20000 in
theorem p_X9_queue_0 {G : GT} {l : Launch} {z n : Nat} (u : HpT) (va : Int32) (hl_va : -2147483648 ≤ va.toInt) (hh_va : va.toInt ≤ -1) : Mt G l z yX9_queue cX9_queue 2 (some .int) { frames := 0, cells := 0, slots := 0, locals := 0 } [.ref (z + 0), .int va] u n (some (.int (-1000000002 : Int32))) u n := by
  refine mt_of (by decide +kernel) (Nat.le_of_ble_eq_true rfl) ?_
  intro p e s m below meth c C hr hlk hnm
  refine x_iload_n C 1 dX9_queue_0 rfl rfl ?_
  refine x_if_lt_t C 9 dX9_queue_1 (by decide) (by simp only [Int32.lt_iff_toInt_lt, Int32.le_iff_toInt_le, i_eq_iff]; have e9 : (0 : Int32).toInt = 0 := (by decide); omega) ?_
  refine x_ldc C kcX9_80 dX9_queue_9 ?_
  exact x_iret C hr hlk (Nat.le_of_ble_eq_true rfl) (Nat.le_of_ble_eq_true rfl) dX9_queue_11 rfl rfl rfl
set_option maxRecDepth 20000 in
theorem p_X10_in_11 {G : GT} {l : Launch} {z n : Nat} (u : HpT) (va : Int32) (hl_va : -2147483648 ≤ va.toInt) (hh_va : va.toInt ≤ -1) : Mt G l z yX10_in cX10_in 3 (some .boolean) { frames := 0, cells := 0, slots := 0, locals := 0 } [.int va, .int (0 : Int32), .int (1 : Int32)] u n (some (.int (0 : Int32))) u n := by
  refine mt_of (by decide +kernel) (Nat.le_of_ble_eq_true rfl) ?_
  intro p e s m below meth c C hr hlk hnm
  refine x_iload_n C 0 dX10_in_0 rfl rfl ?_
  refine x_iload_n C 1 dX10_in_1 rfl rfl ?_
  refine x_icmp_lt_t C 14 dX10_in_2 (by decide) (by simp only [Int32.lt_iff_toInt_lt, Int32.le_iff_toInt_le, i_eq_iff]; have e9 : (0 : Int32).toInt = 0 := (by decide); omega) ?_
  refine x_iconst (v := (0 : Int32)) C dX10_in_14 (by decide) ?_
  exact x_zret C hr hlk (Nat.le_of_ble_eq_true rfl) (Nat.le_of_ble_eq_true rfl) dX10_in_15 (by decide) rfl rfl rfl
set_option maxRecDepth 20000 in
theorem p_X10_queue_0 {G : GT} {l : Launch} {z n : Nat} (u : HpT) (va : Int32) (hl_va : -2147483648 ≤ va.toInt) (hh_va : va.toInt ≤ -1) : Mt G l z yX10_queue cX10_queue 8 (some .int) { frames := 1, cells := 0, slots := 0, locals := 22 } [.ref (z + 134), .int va] u n (some (.int (-1000000002 : Int32))) u n := by
  refine mt_of (by decide +kernel) (Nat.le_of_ble_eq_true rfl) ?_
  intro p e s m below meth c C hr hlk hnm
  refine x_iload_n C 1 dX10_queue_0 rfl rfl ?_
  refine x_iconst (v := (0 : Int32)) C dX10_queue_1 (by decide) ?_
  refine x_iconst (v := (1 : Int32)) C dX10_queue_2 (by decide) ?_
  refine x_callS C cl_X10_in kmX10_82 (As := [.int va, .int (0 : Int32), .int (1 : Int32)]) (rest := []) (p_X10_in_11 u va hl_va hh_va) rfl rfl (Nat.le_of_ble_eq_true rfl) ⟨Nat.le_of_ble_eq_true rfl, Nat.le_of_ble_eq_true rfl⟩ ⟨Nat.le_of_ble_eq_true rfl, Nat.le_of_ble_eq_true rfl⟩ dX10_queue_3 ?_
  refine x_norm (st2 := [.int (0 : Int32)]) (kc2 := 0) (ks2 := 0) rfl rfl rfl rfl rfl ?_
  refine x_if_ne_f C 12 dX10_queue_6 (by decide) (by decide) ?_
  refine x_ldc C kcX10_86 dX10_queue_9 ?_
  exact x_iret C hr hlk (Nat.le_of_ble_eq_true rfl) (Nat.le_of_ble_eq_true rfl) dX10_queue_11 rfl rfl rfl
set_option maxRecDepth 20000 in
theorem p_X5_fill_0 {G : GT} {l : Launch} {z n : Nat} (u : HpT) (h101 : u 101 = some (.inr (4, [.ref (z + 102), .ref (z + 103), .ref (z + 104), .ref (z + 105), .int (0 : Int32), .int (0 : Int32), .int (0 : Int32)]))) (h112 : u 112 = some (.inr (0, [.int (0 : Int32), .int (0 : Int32), .int (0 : Int32), .int (0 : Int32), .ref (z + 113), .ref (z + 114), .ref (z + 115), .ref (z + 116), .ref (z + 117), .ref (z + 118)]))) : Mt G l z yX5_fill cX5_fill 5 none { frames := 0, cells := 0, slots := 0, locals := 0 } [.ref (z + 101), .ref (z + 112), .ref (z + 3), .ref (z + 99)] u n none (hup u 101 (.inr (4, [.ref (z + 102), .ref (z + 103), .ref (z + 104), .ref (z + 105), .int (0 : Int32), .int (0 : Int32), .int (0 : Int32)]))) n := by
  refine mt_of (by decide +kernel) (Nat.le_of_ble_eq_true rfl) ?_
  intro p e s m below meth c C hr hlk hnm
  refine x_aload_n C 0 dX5_fill_0 rfl rfl ?_
  refine x_iconst (v := (0 : Int32)) C dX5_fill_1 (by decide) ?_
  obtain ⟨u1, eu1⟩ : ∃ w : HpT, w = (hup u 101 (.inr (4, [.ref (z + 102), .ref (z + 103), .ref (z + 104), .ref (z + 105), .int (0 : Int32), .int (0 : Int32), .int (0 : Int32)]))) := ⟨_, rfl⟩
  refine pfX5_24 C dX5_fill_2 h101 (Nat.le_of_ble_eq_true rfl) rfl eu1.symm ?_
  refine x_iconst (v := (0 : Int32)) C dX5_fill_5 (by decide) ?_
  refine x_istore C [(4, .int (0 : Int32)), (0, .ref (z + 101)), (1, .ref (z + 112)), (2, .ref (z + 3)), (3, .ref (z + 99))] dX5_fill_6 (by decide) rfl ?_
  refine x_iload C 0 dX5_fill_8 rfl ?_
  refine x_aload_n C 2 dX5_fill_10 rfl rfl ?_
  have k112_1 := (congrFun eu1 112).trans (hup_n' (by decide) (h112))
  refine gfX5_34 C dX5_fill_11 k112_1 rfl ?_
  refine x_icmp_ge_t C 107 dX5_fill_14 (by decide) (by decide) ?_
  exact x_vret C hr hlk (Nat.le_of_ble_eq_true rfl) (Nat.le_of_ble_eq_true rfl) dX5_fill_107 rfl (by rw [eu1]) rfl
set_option maxRecDepth 20000 in
theorem p_X5_payOfOrder_0 {G : GT} {l : Launch} {z n : Nat} (u : HpT) (h101 : u 101 = some (.inr (4, [.ref (z + 102), .ref (z + 103), .ref (z + 104), .ref (z + 105), .int (0 : Int32), .int (-1 : Int32), .int (0 : Int32)]))) : Mt G l z yX5_payOfOrder cX5_payOfOrder 5 (some .int) { frames := 0, cells := 0, slots := 0, locals := 0 } [.ref (z + 101)] u n (some (.int (0 : Int32))) u n := by
  refine mt_of (by decide +kernel) (Nat.le_of_ble_eq_true rfl) ?_
  intro p e s m below meth c C hr hlk hnm
  refine x_iconst (v := (0 : Int32)) C dX5_payOfOrder_0 (by decide) ?_
  refine x_istore_n C [(1, .int (0 : Int32)), (0, .ref (z + 101))] dX5_payOfOrder_1 rfl (by decide) rfl ?_
  refine x_iconst (v := (0 : Int32)) C dX5_payOfOrder_2 (by decide) ?_
  refine x_istore_n C [(2, .int (0 : Int32)), (1, .int (0 : Int32)), (0, .ref (z + 101))] dX5_payOfOrder_3 rfl (by decide) rfl ?_
  refine x_iconst (v := (0 : Int32)) C dX5_payOfOrder_4 (by decide) ?_
  refine x_istore_n C [(3, .int (0 : Int32)), (2, .int (0 : Int32)), (1, .int (0 : Int32)), (0, .ref (z + 101))] dX5_payOfOrder_5 rfl (by decide) rfl ?_
  refine x_iload_n C 0 dX5_payOfOrder_6 rfl rfl ?_
  refine x_aload_n C 3 dX5_payOfOrder_7 rfl rfl ?_
  refine gfX5_24 C dX5_payOfOrder_8 h101 rfl ?_
  refine x_icmp_ge_t C 59 dX5_payOfOrder_11 (by decide) (by decide) ?_
  refine x_iload_n C 1 dX5_payOfOrder_59 rfl rfl ?_
  exact x_iret C hr hlk (Nat.le_of_ble_eq_true rfl) (Nat.le_of_ble_eq_true rfl) dX5_payOfOrder_60 rfl rfl rfl
set_option maxRecDepth 20000 in
theorem p_X5_figuresOfOrder_0 {G : GT} {l : Launch} {z n : Nat} (u : HpT) (h101 : u 101 = some (.inr (4, [.ref (z + 102), .ref (z + 103), .ref (z + 104), .ref (z + 105), .int (0 : Int32), .int (0 : Int32), .int (0 : Int32)]))) : Mt G l z yX5_figuresOfOrder cX5_figuresOfOrder 3 (some .int) { frames := 0, cells := 0, slots := 0, locals := 0 } [.ref (z + 101)] u n (some (.int (0 : Int32))) u n := by
  refine mt_of (by decide +kernel) (Nat.le_of_ble_eq_true rfl) ?_
  intro p e s m below meth c C hr hlk hnm
  refine x_iconst (v := (0 : Int32)) C dX5_figuresOfOrder_0 (by decide) ?_
  refine x_istore_n C [(1, .int (0 : Int32)), (0, .ref (z + 101))] dX5_figuresOfOrder_1 rfl (by decide) rfl ?_
  refine x_iconst (v := (0 : Int32)) C dX5_figuresOfOrder_2 (by decide) ?_
  refine x_istore_n C [(2, .int (0 : Int32)), (1, .int (0 : Int32)), (0, .ref (z + 101))] dX5_figuresOfOrder_3 rfl (by decide) rfl ?_
  refine x_iload_n C 0 dX5_figuresOfOrder_4 rfl rfl ?_
  refine x_aload_n C 2 dX5_figuresOfOrder_5 rfl rfl ?_
  refine gfX5_24 C dX5_figuresOfOrder_6 h101 rfl ?_
  refine x_icmp_ge_t C 32 dX5_figuresOfOrder_9 (by decide) (by decide) ?_
  refine x_iload_n C 1 dX5_figuresOfOrder_32 rfl rfl ?_
  exact x_iret C hr hlk (Nat.le_of_ble_eq_true rfl) (Nat.le_of_ble_eq_true rfl) dX5_figuresOfOrder_33 rfl rfl rfl
set_option maxRecDepth 20000 in
theorem p_X5_nextOrder_0 {G : GT} {l : Launch} {z n : Nat} (u : HpT) (h101 : u 101 = some (.inr (4, [.ref (z + 102), .ref (z + 103), .ref (z + 104), .ref (z + 105), .int (0 : Int32), .int (0 : Int32), .int (0 : Int32)]))) : Mt G l z yX5_nextOrder cX5_nextOrder 5 (some .boolean) { frames := 0, cells := 0, slots := 0, locals := 0 } [.ref (z + 101)] u n (some (.int (0 : Int32))) u n := by
  refine mt_of (by decide +kernel) (Nat.le_of_ble_eq_true rfl) ?_
  intro p e s m below meth c C hr hlk hnm
  refine x_aload_n C 0 dX5_nextOrder_0 rfl rfl ?_
  refine gfX5_24 C dX5_nextOrder_1 h101 rfl ?_
  refine x_iconst (v := (2 : Int32)) C dX5_nextOrder_4 (by decide) ?_
  refine x_isub C dX5_nextOrder_5 ?_
  refine x_eqi (w := (-2 : Int32)) (by decide) ?_
  refine x_istore_n C [(1, .int (-2 : Int32)), (0, .ref (z + 101))] dX5_nextOrder_6 rfl (by decide) rfl ?_
  refine x_iload_n C 0 dX5_nextOrder_7 rfl rfl ?_
  refine x_if_lt_t C 34 dX5_nextOrder_8 (by decide) (by decide) ?_
  refine x_iload_n C 0 dX5_nextOrder_34 rfl rfl ?_
  refine x_if_ge_f C 40 dX5_nextOrder_35 (by decide) (by decide) ?_
  refine x_iconst (v := (0 : Int32)) C dX5_nextOrder_38 (by decide) ?_
  exact x_zret C hr hlk (Nat.le_of_ble_eq_true rfl) (Nat.le_of_ble_eq_true rfl) dX5_nextOrder_39 (by decide) rfl rfl rfl
set_option maxRecDepth 20000 in
theorem p_X5_tryOrders_0 {G : GT} {l : Launch} {z n : Nat} (u : HpT) (h101 : u 101 = some (.inr (4, [.ref (z + 102), .ref (z + 103), .ref (z + 104), .ref (z + 105), .int (0 : Int32), .int (0 : Int32), .int (0 : Int32)]))) : Mt G l z yX5_tryOrders cX5_tryOrders 4 none { frames := 1, cells := 0, slots := 0, locals := 24 } [.ref (z + 101)] u n none (hup u 101 (.inr (4, [.ref (z + 102), .ref (z + 103), .ref (z + 104), .ref (z + 105), .int (0 : Int32), .int (0 : Int32), .int (0 : Int32)]))) n := by
  refine mt_of (by decide +kernel) (Nat.le_of_ble_eq_true rfl) ?_
  intro p e s m below meth c C hr hlk hnm
  refine x_aload_n C 0 dX5_tryOrders_0 rfl rfl ?_
  refine x_iconst (v := (-1 : Int32)) C dX5_tryOrders_1 (by decide) ?_
  obtain ⟨u1, eu1⟩ : ∃ w : HpT, w = (hup u 101 (.inr (4, [.ref (z + 102), .ref (z + 103), .ref (z + 104), .ref (z + 105), .int (0 : Int32), .int (-1 : Int32), .int (0 : Int32)]))) := ⟨_, rfl⟩
  refine pfX5_28 C dX5_tryOrders_2 h101 (Nat.le_of_ble_eq_true rfl) rfl eu1.symm ?_
  refine x_aload_n C 0 dX5_tryOrders_5 rfl rfl ?_
  refine x_iconst (v := (0 : Int32)) C dX5_tryOrders_6 (by decide) ?_
  have k101_1 := (congrFun eu1 101).trans (hup_s _ _ _)
  obtain ⟨u2, eu2⟩ : ∃ w : HpT, w = (hup u1 101 (.inr (4, [.ref (z + 102), .ref (z + 103), .ref (z + 104), .ref (z + 105), .int (0 : Int32), .int (-1 : Int32), .int (0 : Int32)]))) := ⟨_, rfl⟩
  refine pfX5_31 C dX5_tryOrders_7 k101_1 (Nat.le_of_ble_eq_true rfl) rfl eu2.symm ?_
  refine x_iconst (v := (1 : Int32)) C dX5_tryOrders_10 (by decide) ?_
  refine x_istore_n C [(1, .int (1 : Int32)), (0, .ref (z + 101))] dX5_tryOrders_11 rfl (by decide) rfl ?_
  refine x_iconst (v := (0 : Int32)) C dX5_tryOrders_12 (by decide) ?_
  refine x_istore_n C [(2, .int (0 : Int32)), (1, .int (1 : Int32)), (0, .ref (z + 101))] dX5_tryOrders_13 rfl (by decide) rfl ?_
  refine x_iload_n C 0 dX5_tryOrders_14 rfl rfl ?_
  refine x_sipush (v := (720 : Int32)) C dX5_tryOrders_15 (by decide) ?_
  refine x_icmp_ge_f C 62 dX5_tryOrders_18 (by decide) (by decide) ?_
  refine x_iload_n C 1 dX5_tryOrders_21 rfl rfl ?_
  refine x_if_eq_f C 62 dX5_tryOrders_22 (by decide) (by decide) ?_
  refine x_aload_n C 2 dX5_tryOrders_25 rfl rfl ?_
  have k101_2 := (congrFun eu2 101).trans (hup_s _ _ _)
  refine x_callV C cl_X5_payOfOrder kmX5_67 (ci := 4) (b := 101) (As := []) (rest := []) rfl k101_2 (p_X5_payOfOrder_0 u2 k101_2) rfl rfl (Nat.le_of_ble_eq_true rfl) ⟨Nat.le_of_ble_eq_true rfl, Nat.le_of_ble_eq_true rfl⟩ ⟨Nat.le_of_ble_eq_true rfl, Nat.le_of_ble_eq_true rfl⟩ dX5_tryOrders_26 ?_
  refine x_norm (st2 := [.int (0 : Int32)]) (kc2 := 0) (ks2 := 0) rfl rfl rfl rfl rfl ?_
  refine x_istore_n C [(3, .int (0 : Int32)), (2, .int (0 : Int32)), (1, .int (1 : Int32)), (0, .ref (z + 101))] dX5_tryOrders_29 rfl (by decide) rfl ?_
  refine x_iload_n C 0 dX5_tryOrders_30 rfl rfl ?_
  refine x_aload_n C 3 dX5_tryOrders_31 rfl rfl ?_
  refine gfX5_28 C dX5_tryOrders_32 k101_2 rfl ?_
  refine x_icmp_le_f C 51 dX5_tryOrders_35 (by decide) (by decide) ?_
  refine x_aload_n C 3 dX5_tryOrders_38 rfl rfl ?_
  refine x_iload_n C 0 dX5_tryOrders_39 rfl rfl ?_
  obtain ⟨u3, eu3⟩ : ∃ w : HpT, w = (hup u2 101 (.inr (4, [.ref (z + 102), .ref (z + 103), .ref (z + 104), .ref (z + 105), .int (0 : Int32), .int (0 : Int32), .int (0 : Int32)]))) := ⟨_, rfl⟩
  refine pfX5_28 C dX5_tryOrders_40 k101_2 (Nat.le_of_ble_eq_true rfl) rfl eu3.symm ?_
  refine x_aload_n C 3 dX5_tryOrders_43 rfl rfl ?_
  refine x_aload_n C 3 dX5_tryOrders_44 rfl rfl ?_
  have k101_3 := (congrFun eu3 101).trans (hup_s _ _ _)
  refine x_callV C cl_X5_figuresOfOrder kmX5_71 (ci := 4) (b := 101) (As := []) (rest := [.ref (z + 101)]) rfl k101_3 (p_X5_figuresOfOrder_0 u3 k101_3) rfl rfl (Nat.le_of_ble_eq_true rfl) ⟨Nat.le_of_ble_eq_true rfl, Nat.le_of_ble_eq_true rfl⟩ ⟨Nat.le_of_ble_eq_true rfl, Nat.le_of_ble_eq_true rfl⟩ dX5_tryOrders_45 ?_
  refine x_norm (st2 := [.int (0 : Int32), .ref (z + 101)]) (kc2 := 0) (ks2 := 0) rfl rfl rfl rfl rfl ?_
  obtain ⟨u4, eu4⟩ : ∃ w : HpT, w = (hup u3 101 (.inr (4, [.ref (z + 102), .ref (z + 103), .ref (z + 104), .ref (z + 105), .int (0 : Int32), .int (0 : Int32), .int (0 : Int32)]))) := ⟨_, rfl⟩
  refine pfX5_31 C dX5_tryOrders_48 k101_3 (Nat.le_of_ble_eq_true rfl) rfl eu4.symm ?_
  refine x_aload_n C 3 dX5_tryOrders_51 rfl rfl ?_
  have k101_4 := (congrFun eu4 101).trans (hup_s _ _ _)
  refine x_callV C cl_X5_nextOrder kmX5_74 (ci := 4) (b := 101) (As := []) (rest := []) rfl k101_4 (p_X5_nextOrder_0 u4 k101_4) rfl rfl (Nat.le_of_ble_eq_true rfl) ⟨Nat.le_of_ble_eq_true rfl, Nat.le_of_ble_eq_true rfl⟩ ⟨Nat.le_of_ble_eq_true rfl, Nat.le_of_ble_eq_true rfl⟩ dX5_tryOrders_52 ?_
  refine x_norm (st2 := [.int (0 : Int32)]) (kc2 := 0) (ks2 := 0) rfl rfl rfl rfl rfl ?_
  refine x_istore_n C [(1, .int (0 : Int32)), (3, .int (0 : Int32)), (2, .int (0 : Int32)), (0, .ref (z + 101))] dX5_tryOrders_55 rfl (by decide) rfl ?_
  refine x_iinc C 2 [(2, .int (1 : Int32)), (1, .int (0 : Int32)), (3, .int (0 : Int32)), (0, .ref (z + 101))] dX5_tryOrders_56 rfl (by decide) (by decide) rfl ?_
  refine x_goto C 14 dX5_tryOrders_59 (by decide) ?_
  refine x_iload_n C 0 dX5_tryOrders_14 rfl rfl ?_
  refine x_sipush (v := (720 : Int32)) C dX5_tryOrders_15 (by decide) ?_
  refine x_icmp_ge_f C 62 dX5_tryOrders_18 (by decide) (by decide) ?_
  refine x_iload_n C 1 dX5_tryOrders_21 rfl rfl ?_
  refine x_if_eq_t C 62 dX5_tryOrders_22 (by decide) (by decide) ?_
  exact x_vret C hr hlk (Nat.le_of_ble_eq_true rfl) (Nat.le_of_ble_eq_true rfl) dX5_tryOrders_62 rfl (by rw [eu4, eu3, eu2, eu1]; simp only [hup_hup, hup_sk, ne_eq, Nat.reduceEqDiff, not_false_eq_true]) rfl
set_option maxRecDepth 20000 in
theorem p_X9_queue_1 {G : GT} {l : Launch} {z n : Nat} (u : HpT) (h0 : u 0 = some (.inr (8, [.ref (z + 1), .ref (z + 3), .ref (z + 6), .ref (z + 98), .ref (z + 99), .ref (z + 101), .ref (z + 106), .ref (z + 109), .ref (z + 112), .ref (z + 119), .int (0 : Int32), .int (-1 : Int32)]))) (h3 : u 3 = some (.inr (2, [.int (0 : Int32), .int (0 : Int32), .int (0 : Int32), .int (0 : Int32), .int (-1 : Int32), .int (0 : Int32), .int (-1 : Int32), .int (0 : Int32), .int (0 : Int32), .int (0 : Int32), .ref (z + 4), .ref (z + 5)]))) (h101 : u 101 = some (.inr (4, [.ref (z + 102), .ref (z + 103), .ref (z + 104), .ref (z + 105), .int (0 : Int32), .int (0 : Int32), .int (0 : Int32)]))) (h112 : u 112 = some (.inr (0, [.int (0 : Int32), .int (0 : Int32), .int (0 : Int32), .int (0 : Int32), .ref (z + 113), .ref (z + 114), .ref (z + 115), .ref (z + 116), .ref (z + 117), .ref (z + 118)]))) : Mt G l z yX9_queue cX9_queue 2 (some .int) { frames := 2, cells := 0, slots := 0, locals := 47 } [.ref (z + 0), .int (0 : Int32)] u n (some (.int (0 : Int32))) (hup u 101 (.inr (4, [.ref (z + 102), .ref (z + 103), .ref (z + 104), .ref (z + 105), .int (0 : Int32), .int (0 : Int32), .int (0 : Int32)]))) n := by
  refine mt_of (by decide +kernel) (Nat.le_of_ble_eq_true rfl) ?_
  intro p e s m below meth c C hr hlk hnm
  refine x_iload_n C 1 dX9_queue_0 rfl rfl ?_
  refine x_if_lt_f C 9 dX9_queue_1 (by decide) (by decide) ?_
  refine x_iload_n C 1 dX9_queue_4 rfl rfl ?_
  refine x_iconst (v := (1 : Int32)) C dX9_queue_5 (by decide) ?_
  refine x_icmp_le_t C 12 dX9_queue_6 (by decide) (by decide) ?_
  refine x_aload_n C 0 dX9_queue_12 rfl rfl ?_
  refine gfX9_19 C dX9_queue_13 h0 rfl ?_
  refine gfX9_158 C dX9_queue_16 h3 rfl ?_
  refine x_iconst (v := (-1 : Int32)) C dX9_queue_19 (by decide) ?_
  refine x_icmp_eq_t C 26 dX9_queue_20 (by decide) (by decide) ?_
  refine x_aload_n C 0 dX9_queue_26 rfl rfl ?_
  refine gfX9_46 C dX9_queue_27 h0 rfl ?_
  refine x_aload_n C 0 dX9_queue_30 rfl rfl ?_
  refine gfX9_65 C dX9_queue_31 h0 rfl ?_
  refine x_aload_n C 0 dX9_queue_34 rfl rfl ?_
  refine gfX9_19 C dX9_queue_35 h0 rfl ?_
  refine x_aload_n C 0 dX9_queue_38 rfl rfl ?_
  refine gfX9_39 C dX9_queue_39 h0 rfl ?_
  refine x_callV C cl_X5_fill kmX9_296 (ci := 4) (b := 101) (As := [.ref (z + 112), .ref (z + 3), .ref (z + 99)]) (rest := []) rfl h101 (p_X5_fill_0 u h101 h112) rfl rfl (Nat.le_of_ble_eq_true rfl) ⟨Nat.le_of_ble_eq_true rfl, Nat.le_of_ble_eq_true rfl⟩ ⟨Nat.le_of_ble_eq_true rfl, Nat.le_of_ble_eq_true rfl⟩ dX9_queue_42 ?_
  obtain ⟨u1, eu1⟩ : ∃ w : HpT, w = (hup u 101 (.inr (4, [.ref (z + 102), .ref (z + 103), .ref (z + 104), .ref (z + 105), .int (0 : Int32), .int (0 : Int32), .int (0 : Int32)]))) := ⟨_, rfl⟩
  refine x_norm (st2 := []) (kc2 := 0) (ks2 := 0) rfl rfl rfl rfl eu1.symm ?_
  refine x_aload_n C 0 dX9_queue_45 rfl rfl ?_
  have k0_1 := (congrFun eu1 0).trans (hup_n' (by decide) (h0))
  refine gfX9_46 C dX9_queue_46 k0_1 rfl ?_
  have k101_1 := (congrFun eu1 101).trans (hup_s _ _ _)
  refine x_callV C cl_X5_tryOrders kmX9_300 (ci := 4) (b := 101) (As := []) (rest := []) rfl k101_1 (p_X5_tryOrders_0 u1 k101_1) rfl rfl (Nat.le_of_ble_eq_true rfl) ⟨Nat.le_of_ble_eq_true rfl, Nat.le_of_ble_eq_true rfl⟩ ⟨Nat.le_of_ble_eq_true rfl, Nat.le_of_ble_eq_true rfl⟩ dX9_queue_49 ?_
  obtain ⟨u2, eu2⟩ : ∃ w : HpT, w = (hup u1 101 (.inr (4, [.ref (z + 102), .ref (z + 103), .ref (z + 104), .ref (z + 105), .int (0 : Int32), .int (0 : Int32), .int (0 : Int32)]))) := ⟨_, rfl⟩
  refine x_norm (st2 := []) (kc2 := 0) (ks2 := 0) rfl rfl rfl rfl eu2.symm ?_
  refine x_iload_n C 1 dX9_queue_52 rfl rfl ?_
  refine x_if_ne_f C 66 dX9_queue_53 (by decide) (by decide) ?_
  refine x_aload_n C 0 dX9_queue_56 rfl rfl ?_
  have k0_2 := (congrFun eu2 0).trans (hup_n' (by decide) (k0_1))
  refine gfX9_46 C dX9_queue_57 k0_2 rfl ?_
  have k101_2 := (congrFun eu2 101).trans (hup_s _ _ _)
  refine gfX9_303 C dX9_queue_60 k101_2 rfl ?_
  refine x_goto C 73 dX9_queue_63 (by decide) ?_
  exact x_iret C hr hlk (Nat.le_of_ble_eq_true rfl) (Nat.le_of_ble_eq_true rfl) dX9_queue_73 rfl (by rw [eu2, eu1]; simp only [hup_hup, hup_sk, ne_eq, Nat.reduceEqDiff, not_false_eq_true]) rfl
set_option maxRecDepth 20000 in
theorem p_X10_in_12 {G : GT} {l : Launch} {z n : Nat} (u : HpT) : Mt G l z yX10_in cX10_in 3 (some .boolean) { frames := 0, cells := 0, slots := 0, locals := 0 } [.int (0 : Int32), .int (0 : Int32), .int (1 : Int32)] u n (some (.int (1 : Int32))) u n := by
  refine mt_of (by decide +kernel) (Nat.le_of_ble_eq_true rfl) ?_
  intro p e s m below meth c C hr hlk hnm
  refine x_iload_n C 0 dX10_in_0 rfl rfl ?_
  refine x_iload_n C 1 dX10_in_1 rfl rfl ?_
  refine x_icmp_lt_f C 14 dX10_in_2 (by decide) (by decide) ?_
  refine x_iload_n C 0 dX10_in_5 rfl rfl ?_
  refine x_iload_n C 2 dX10_in_6 rfl rfl ?_
  refine x_icmp_gt_f C 14 dX10_in_7 (by decide) (by decide) ?_
  refine x_iconst (v := (1 : Int32)) C dX10_in_10 (by decide) ?_
  refine x_goto C 15 dX10_in_11 (by decide) ?_
  exact x_zret C hr hlk (Nat.le_of_ble_eq_true rfl) (Nat.le_of_ble_eq_true rfl) dX10_in_15 (by decide) rfl rfl rfl
set_option maxRecDepth 20000 in
theorem p_X10_queue_1 {G : GT} {l : Launch} {z n : Nat} (u : HpT) (h134 : u 134 = some (.inr (9, [.int (0 : Int32), .ref (z + 135), .int (0 : Int32), .int (0 : Int32), .int (0 : Int32), .int (-1 : Int32), .int (0 : Int32), .int (0 : Int32), .int (0 : Int32), .int (0 : Int32), .ref (z + 136), .ref (z + 137), .ref (z + 138), .ref (z + 139), .ref (z + 140), .int (0 : Int32), .int (0 : Int32), .int (0 : Int32), .int (0 : Int32), .ref (z + 141), .ref (z + 142), .ref (z + 143), .ref (z + 144), .ref (z + 145), .ref (z + 146), .int (0 : Int32), .int (0 : Int32), .ref (z + 147), .long (0 : Int64), .ref (z + 148), .int (0 : Int32), .int (0 : Int32), .int (0 : Int32), .ref (z + 149), .int (0 : Int32), .ref (z + 150), .ref (z + 151), .int (0 : Int32), .ref (z + 152), .ref (z + 153), .ref (z + 154), .ref (z + 155), .ref (z + 156)]))) (h146 : u 146 = some (aI G 25 (upd (upd (fun _ => 0) 4 (-1 : Int32)) 6 (-1 : Int32)))) : Mt G l z yX10_queue cX10_queue 8 (some .int) { frames := 1, cells := 0, slots := 0, locals := 23 } [.ref (z + 134), .int (0 : Int32)] u n (some (.int (0 : Int32))) u n := by
  refine mt_of (by decide +kernel) (Nat.le_of_ble_eq_true rfl) ?_
  intro p e s m below meth c C hr hlk hnm
  refine x_iload_n C 1 dX10_queue_0 rfl rfl ?_
  refine x_iconst (v := (0 : Int32)) C dX10_queue_1 (by decide) ?_
  refine x_iconst (v := (1 : Int32)) C dX10_queue_2 (by decide) ?_
  refine x_callS C cl_X10_in kmX10_82 (As := [.int (0 : Int32), .int (0 : Int32), .int (1 : Int32)]) (rest := []) (p_X10_in_12 u) rfl rfl (Nat.le_of_ble_eq_true rfl) ⟨Nat.le_of_ble_eq_true rfl, Nat.le_of_ble_eq_true rfl⟩ ⟨Nat.le_of_ble_eq_true rfl, Nat.le_of_ble_eq_true rfl⟩ dX10_queue_3 ?_
  refine x_norm (st2 := [.int (1 : Int32)]) (kc2 := 0) (ks2 := 0) rfl rfl rfl rfl rfl ?_
  refine x_if_ne_t C 12 dX10_queue_6 (by decide) (by decide) ?_
  refine x_aload_n C 0 dX10_queue_12 rfl rfl ?_
  refine gfX10_47 C dX10_queue_13 h134 rfl ?_
  refine x_iconst (v := (4 : Int32)) C dX10_queue_16 (by decide) ?_
  refine x_ialdk C 4 h146 (vp_in_lit (by decide) (by decide)) (by decide) dX10_queue_17 ?_
  refine x_eqi (w := (-1 : Int32)) (by decide) ?_
  refine x_iconst (v := (-1 : Int32)) C dX10_queue_18 (by decide) ?_
  refine x_icmp_eq_t C 25 dX10_queue_19 (by decide) (by decide) ?_
  refine x_aload_n C 0 dX10_queue_25 rfl rfl ?_
  refine x_iconst (v := (0 : Int32)) C dX10_queue_26 (by decide) ?_
  refine x_callV C cl_X10_are kmX10_175 (ci := 9) (b := 134) (As := [.int (0 : Int32)]) (rest := []) rfl h134 (p_X10_are_0 u h134) rfl rfl (Nat.le_of_ble_eq_true rfl) ⟨Nat.le_of_ble_eq_true rfl, Nat.le_of_ble_eq_true rfl⟩ ⟨Nat.le_of_ble_eq_true rfl, Nat.le_of_ble_eq_true rfl⟩ dX10_queue_27 ?_
  refine x_norm (st2 := [.int (0 : Int32)]) (kc2 := 0) (ks2 := 0) rfl rfl rfl rfl rfl ?_
  refine x_istore_n C [(2, .int (0 : Int32)), (0, .ref (z + 134)), (1, .int (0 : Int32))] dX10_queue_30 rfl (by decide) rfl ?_
  refine x_iload_n C 0 dX10_queue_31 rfl rfl ?_
  refine x_if_ne_f C 37 dX10_queue_32 (by decide) (by decide) ?_
  refine x_iconst (v := (0 : Int32)) C dX10_queue_35 (by decide) ?_
  exact x_iret C hr hlk (Nat.le_of_ble_eq_true rfl) (Nat.le_of_ble_eq_true rfl) dX10_queue_36 rfl rfl rfl
set_option maxRecDepth 20000 in
theorem p_X9_queue_2 {G : GT} {l : Launch} {z n : Nat} (u : HpT) (h0 : u 0 = some (.inr (8, [.ref (z + 1), .ref (z + 3), .ref (z + 6), .ref (z + 98), .ref (z + 99), .ref (z + 101), .ref (z + 106), .ref (z + 109), .ref (z + 112), .ref (z + 119), .int (0 : Int32), .int (-1 : Int32)]))) (h3 : u 3 = some (.inr (2, [.int (0 : Int32), .int (0 : Int32), .int (0 : Int32), .int (0 : Int32), .int (-1 : Int32), .int (0 : Int32), .int (-1 : Int32), .int (0 : Int32), .int (0 : Int32), .int (0 : Int32), .ref (z + 4), .ref (z + 5)]))) (h101 : u 101 = some (.inr (4, [.ref (z + 102), .ref (z + 103), .ref (z + 104), .ref (z + 105), .int (0 : Int32), .int (0 : Int32), .int (0 : Int32)]))) (h112 : u 112 = some (.inr (0, [.int (0 : Int32), .int (0 : Int32), .int (0 : Int32), .int (0 : Int32), .ref (z + 113), .ref (z + 114), .ref (z + 115), .ref (z + 116), .ref (z + 117), .ref (z + 118)]))) : Mt G l z yX9_queue cX9_queue 2 (some .int) { frames := 2, cells := 0, slots := 0, locals := 47 } [.ref (z + 0), .int (1 : Int32)] u n (some (.int (0 : Int32))) (hup u 101 (.inr (4, [.ref (z + 102), .ref (z + 103), .ref (z + 104), .ref (z + 105), .int (0 : Int32), .int (0 : Int32), .int (0 : Int32)]))) n := by
  refine mt_of (by decide +kernel) (Nat.le_of_ble_eq_true rfl) ?_
  intro p e s m below meth c C hr hlk hnm
  refine x_iload_n C 1 dX9_queue_0 rfl rfl ?_
  refine x_if_lt_f C 9 dX9_queue_1 (by decide) (by decide) ?_
  refine x_iload_n C 1 dX9_queue_4 rfl rfl ?_
  refine x_iconst (v := (1 : Int32)) C dX9_queue_5 (by decide) ?_
  refine x_icmp_le_t C 12 dX9_queue_6 (by decide) (by decide) ?_
  refine x_aload_n C 0 dX9_queue_12 rfl rfl ?_
  refine gfX9_19 C dX9_queue_13 h0 rfl ?_
  refine gfX9_158 C dX9_queue_16 h3 rfl ?_
  refine x_iconst (v := (-1 : Int32)) C dX9_queue_19 (by decide) ?_
  refine x_icmp_eq_t C 26 dX9_queue_20 (by decide) (by decide) ?_
  refine x_aload_n C 0 dX9_queue_26 rfl rfl ?_
  refine gfX9_46 C dX9_queue_27 h0 rfl ?_
  refine x_aload_n C 0 dX9_queue_30 rfl rfl ?_
  refine gfX9_65 C dX9_queue_31 h0 rfl ?_
  refine x_aload_n C 0 dX9_queue_34 rfl rfl ?_
  refine gfX9_19 C dX9_queue_35 h0 rfl ?_
  refine x_aload_n C 0 dX9_queue_38 rfl rfl ?_
  refine gfX9_39 C dX9_queue_39 h0 rfl ?_
  refine x_callV C cl_X5_fill kmX9_296 (ci := 4) (b := 101) (As := [.ref (z + 112), .ref (z + 3), .ref (z + 99)]) (rest := []) rfl h101 (p_X5_fill_0 u h101 h112) rfl rfl (Nat.le_of_ble_eq_true rfl) ⟨Nat.le_of_ble_eq_true rfl, Nat.le_of_ble_eq_true rfl⟩ ⟨Nat.le_of_ble_eq_true rfl, Nat.le_of_ble_eq_true rfl⟩ dX9_queue_42 ?_
  obtain ⟨u1, eu1⟩ : ∃ w : HpT, w = (hup u 101 (.inr (4, [.ref (z + 102), .ref (z + 103), .ref (z + 104), .ref (z + 105), .int (0 : Int32), .int (0 : Int32), .int (0 : Int32)]))) := ⟨_, rfl⟩
  refine x_norm (st2 := []) (kc2 := 0) (ks2 := 0) rfl rfl rfl rfl eu1.symm ?_
  refine x_aload_n C 0 dX9_queue_45 rfl rfl ?_
  have k0_1 := (congrFun eu1 0).trans (hup_n' (by decide) (h0))
  refine gfX9_46 C dX9_queue_46 k0_1 rfl ?_
  have k101_1 := (congrFun eu1 101).trans (hup_s _ _ _)
  refine x_callV C cl_X5_tryOrders kmX9_300 (ci := 4) (b := 101) (As := []) (rest := []) rfl k101_1 (p_X5_tryOrders_0 u1 k101_1) rfl rfl (Nat.le_of_ble_eq_true rfl) ⟨Nat.le_of_ble_eq_true rfl, Nat.le_of_ble_eq_true rfl⟩ ⟨Nat.le_of_ble_eq_true rfl, Nat.le_of_ble_eq_true rfl⟩ dX9_queue_49 ?_
  obtain ⟨u2, eu2⟩ : ∃ w : HpT, w = (hup u1 101 (.inr (4, [.ref (z + 102), .ref (z + 103), .ref (z + 104), .ref (z + 105), .int (0 : Int32), .int (0 : Int32), .int (0 : Int32)]))) := ⟨_, rfl⟩
  refine x_norm (st2 := []) (kc2 := 0) (ks2 := 0) rfl rfl rfl rfl eu2.symm ?_
  refine x_iload_n C 1 dX9_queue_52 rfl rfl ?_
  refine x_if_ne_t C 66 dX9_queue_53 (by decide) (by decide) ?_
  refine x_aload_n C 0 dX9_queue_66 rfl rfl ?_
  have k0_2 := (congrFun eu2 0).trans (hup_n' (by decide) (k0_1))
  refine gfX9_46 C dX9_queue_67 k0_2 rfl ?_
  have k101_2 := (congrFun eu2 101).trans (hup_s _ _ _)
  refine gfX9_306 C dX9_queue_70 k101_2 rfl ?_
  exact x_iret C hr hlk (Nat.le_of_ble_eq_true rfl) (Nat.le_of_ble_eq_true rfl) dX9_queue_73 rfl (by rw [eu2, eu1]; simp only [hup_hup, hup_sk, ne_eq, Nat.reduceEqDiff, not_false_eq_true]) rfl
set_option maxRecDepth 20000 in
theorem p_X10_in_13 {G : GT} {l : Launch} {z n : Nat} (u : HpT) : Mt G l z yX10_in cX10_in 3 (some .boolean) { frames := 0, cells := 0, slots := 0, locals := 0 } [.int (1 : Int32), .int (0 : Int32), .int (1 : Int32)] u n (some (.int (1 : Int32))) u n := by
  refine mt_of (by decide +kernel) (Nat.le_of_ble_eq_true rfl) ?_
  intro p e s m below meth c C hr hlk hnm
  refine x_iload_n C 0 dX10_in_0 rfl rfl ?_
  refine x_iload_n C 1 dX10_in_1 rfl rfl ?_
  refine x_icmp_lt_f C 14 dX10_in_2 (by decide) (by decide) ?_
  refine x_iload_n C 0 dX10_in_5 rfl rfl ?_
  refine x_iload_n C 2 dX10_in_6 rfl rfl ?_
  refine x_icmp_gt_f C 14 dX10_in_7 (by decide) (by decide) ?_
  refine x_iconst (v := (1 : Int32)) C dX10_in_10 (by decide) ?_
  refine x_goto C 15 dX10_in_11 (by decide) ?_
  exact x_zret C hr hlk (Nat.le_of_ble_eq_true rfl) (Nat.le_of_ble_eq_true rfl) dX10_in_15 (by decide) rfl rfl rfl
set_option maxRecDepth 20000 in
theorem p_X10_queue_2 {G : GT} {l : Launch} {z n : Nat} (u : HpT) (h134 : u 134 = some (.inr (9, [.int (0 : Int32), .ref (z + 135), .int (0 : Int32), .int (0 : Int32), .int (0 : Int32), .int (-1 : Int32), .int (0 : Int32), .int (0 : Int32), .int (0 : Int32), .int (0 : Int32), .ref (z + 136), .ref (z + 137), .ref (z + 138), .ref (z + 139), .ref (z + 140), .int (0 : Int32), .int (0 : Int32), .int (0 : Int32), .int (0 : Int32), .ref (z + 141), .ref (z + 142), .ref (z + 143), .ref (z + 144), .ref (z + 145), .ref (z + 146), .int (0 : Int32), .int (0 : Int32), .ref (z + 147), .long (0 : Int64), .ref (z + 148), .int (0 : Int32), .int (0 : Int32), .int (0 : Int32), .ref (z + 149), .int (0 : Int32), .ref (z + 150), .ref (z + 151), .int (0 : Int32), .ref (z + 152), .ref (z + 153), .ref (z + 154), .ref (z + 155), .ref (z + 156)]))) (h146 : u 146 = some (aI G 25 (upd (upd (fun _ => 0) 4 (-1 : Int32)) 6 (-1 : Int32)))) : Mt G l z yX10_queue cX10_queue 8 (some .int) { frames := 1, cells := 0, slots := 0, locals := 23 } [.ref (z + 134), .int (1 : Int32)] u n (some (.int (0 : Int32))) u n := by
  refine mt_of (by decide +kernel) (Nat.le_of_ble_eq_true rfl) ?_
  intro p e s m below meth c C hr hlk hnm
  refine x_iload_n C 1 dX10_queue_0 rfl rfl ?_
  refine x_iconst (v := (0 : Int32)) C dX10_queue_1 (by decide) ?_
  refine x_iconst (v := (1 : Int32)) C dX10_queue_2 (by decide) ?_
  refine x_callS C cl_X10_in kmX10_82 (As := [.int (1 : Int32), .int (0 : Int32), .int (1 : Int32)]) (rest := []) (p_X10_in_13 u) rfl rfl (Nat.le_of_ble_eq_true rfl) ⟨Nat.le_of_ble_eq_true rfl, Nat.le_of_ble_eq_true rfl⟩ ⟨Nat.le_of_ble_eq_true rfl, Nat.le_of_ble_eq_true rfl⟩ dX10_queue_3 ?_
  refine x_norm (st2 := [.int (1 : Int32)]) (kc2 := 0) (ks2 := 0) rfl rfl rfl rfl rfl ?_
  refine x_if_ne_t C 12 dX10_queue_6 (by decide) (by decide) ?_
  refine x_aload_n C 0 dX10_queue_12 rfl rfl ?_
  refine gfX10_47 C dX10_queue_13 h134 rfl ?_
  refine x_iconst (v := (4 : Int32)) C dX10_queue_16 (by decide) ?_
  refine x_ialdk C 4 h146 (vp_in_lit (by decide) (by decide)) (by decide) dX10_queue_17 ?_
  refine x_eqi (w := (-1 : Int32)) (by decide) ?_
  refine x_iconst (v := (-1 : Int32)) C dX10_queue_18 (by decide) ?_
  refine x_icmp_eq_t C 25 dX10_queue_19 (by decide) (by decide) ?_
  refine x_aload_n C 0 dX10_queue_25 rfl rfl ?_
  refine x_iconst (v := (0 : Int32)) C dX10_queue_26 (by decide) ?_
  refine x_callV C cl_X10_are kmX10_175 (ci := 9) (b := 134) (As := [.int (0 : Int32)]) (rest := []) rfl h134 (p_X10_are_0 u h134) rfl rfl (Nat.le_of_ble_eq_true rfl) ⟨Nat.le_of_ble_eq_true rfl, Nat.le_of_ble_eq_true rfl⟩ ⟨Nat.le_of_ble_eq_true rfl, Nat.le_of_ble_eq_true rfl⟩ dX10_queue_27 ?_
  refine x_norm (st2 := [.int (0 : Int32)]) (kc2 := 0) (ks2 := 0) rfl rfl rfl rfl rfl ?_
  refine x_istore_n C [(2, .int (0 : Int32)), (0, .ref (z + 134)), (1, .int (1 : Int32))] dX10_queue_30 rfl (by decide) rfl ?_
  refine x_iload_n C 0 dX10_queue_31 rfl rfl ?_
  refine x_if_ne_f C 37 dX10_queue_32 (by decide) (by decide) ?_
  refine x_iconst (v := (0 : Int32)) C dX10_queue_35 (by decide) ?_
  exact x_iret C hr hlk (Nat.le_of_ble_eq_true rfl) (Nat.le_of_ble_eq_true rfl) dX10_queue_36 rfl rfl rfl
set_option maxRecDepth 20000 in
theorem p_X9_queue_3 {G : GT} {l : Launch} {z n : Nat} (u : HpT) (va : Int32) (hl_va : 2 ≤ va.toInt) (hh_va : va.toInt ≤ 2147483647) : Mt G l z yX9_queue cX9_queue 2 (some .int) { frames := 0, cells := 0, slots := 0, locals := 0 } [.ref (z + 0), .int va] u n (some (.int (-1000000002 : Int32))) u n := by
  refine mt_of (by decide +kernel) (Nat.le_of_ble_eq_true rfl) ?_
  intro p e s m below meth c C hr hlk hnm
  refine x_iload_n C 1 dX9_queue_0 rfl rfl ?_
  refine x_if_lt_f C 9 dX9_queue_1 (by decide) (by simp only [Int32.lt_iff_toInt_lt, Int32.le_iff_toInt_le, i_eq_iff]; have e9 : (0 : Int32).toInt = 0 := (by decide); omega) ?_
  refine x_iload_n C 1 dX9_queue_4 rfl rfl ?_
  refine x_iconst (v := (1 : Int32)) C dX9_queue_5 (by decide) ?_
  refine x_icmp_le_f C 12 dX9_queue_6 (by decide) (by simp only [Int32.lt_iff_toInt_lt, Int32.le_iff_toInt_le, i_eq_iff]; have e9 : (1 : Int32).toInt = 1 := (by decide); omega) ?_
  refine x_ldc C kcX9_80 dX9_queue_9 ?_
  exact x_iret C hr hlk (Nat.le_of_ble_eq_true rfl) (Nat.le_of_ble_eq_true rfl) dX9_queue_11 rfl rfl rfl
set_option maxRecDepth 20000 in
theorem p_X10_in_14 {G : GT} {l : Launch} {z n : Nat} (u : HpT) (va : Int32) (hl_va : 2 ≤ va.toInt) (hh_va : va.toInt ≤ 2147483647) : Mt G l z yX10_in cX10_in 3 (some .boolean) { frames := 0, cells := 0, slots := 0, locals := 0 } [.int va, .int (0 : Int32), .int (1 : Int32)] u n (some (.int (0 : Int32))) u n := by
  refine mt_of (by decide +kernel) (Nat.le_of_ble_eq_true rfl) ?_
  intro p e s m below meth c C hr hlk hnm
  refine x_iload_n C 0 dX10_in_0 rfl rfl ?_
  refine x_iload_n C 1 dX10_in_1 rfl rfl ?_
  refine x_icmp_lt_f C 14 dX10_in_2 (by decide) (by simp only [Int32.lt_iff_toInt_lt, Int32.le_iff_toInt_le, i_eq_iff]; have e9 : (0 : Int32).toInt = 0 := (by decide); omega) ?_
  refine x_iload_n C 0 dX10_in_5 rfl rfl ?_
  refine x_iload_n C 2 dX10_in_6 rfl rfl ?_
  refine x_icmp_gt_t C 14 dX10_in_7 (by decide) (by simp only [Int32.lt_iff_toInt_lt, Int32.le_iff_toInt_le, i_eq_iff]; have e9 : (1 : Int32).toInt = 1 := (by decide); omega) ?_
  refine x_iconst (v := (0 : Int32)) C dX10_in_14 (by decide) ?_
  exact x_zret C hr hlk (Nat.le_of_ble_eq_true rfl) (Nat.le_of_ble_eq_true rfl) dX10_in_15 (by decide) rfl rfl rfl
set_option maxRecDepth 20000 in
theorem p_X10_queue_3 {G : GT} {l : Launch} {z n : Nat} (u : HpT) (va : Int32) (hl_va : 2 ≤ va.toInt) (hh_va : va.toInt ≤ 2147483647) : Mt G l z yX10_queue cX10_queue 8 (some .int) { frames := 1, cells := 0, slots := 0, locals := 22 } [.ref (z + 134), .int va] u n (some (.int (-1000000002 : Int32))) u n := by
  refine mt_of (by decide +kernel) (Nat.le_of_ble_eq_true rfl) ?_
  intro p e s m below meth c C hr hlk hnm
  refine x_iload_n C 1 dX10_queue_0 rfl rfl ?_
  refine x_iconst (v := (0 : Int32)) C dX10_queue_1 (by decide) ?_
  refine x_iconst (v := (1 : Int32)) C dX10_queue_2 (by decide) ?_
  refine x_callS C cl_X10_in kmX10_82 (As := [.int va, .int (0 : Int32), .int (1 : Int32)]) (rest := []) (p_X10_in_14 u va hl_va hh_va) rfl rfl (Nat.le_of_ble_eq_true rfl) ⟨Nat.le_of_ble_eq_true rfl, Nat.le_of_ble_eq_true rfl⟩ ⟨Nat.le_of_ble_eq_true rfl, Nat.le_of_ble_eq_true rfl⟩ dX10_queue_3 ?_
  refine x_norm (st2 := [.int (0 : Int32)]) (kc2 := 0) (ks2 := 0) rfl rfl rfl rfl rfl ?_
  refine x_if_ne_f C 12 dX10_queue_6 (by decide) (by decide) ?_
  refine x_ldc C kcX10_86 dX10_queue_9 ?_
  exact x_iret C hr hlk (Nat.le_of_ble_eq_true rfl) (Nat.le_of_ble_eq_true rfl) dX10_queue_11 rfl rfl rfl
set_option maxRecDepth 20000 in
theorem p_X9_dry_0 {G : GT} {l : Launch} {z n : Nat} (u : HpT) (va : Int32) (hl_va : -2147483648 ≤ va.toInt) (hh_va : va.toInt ≤ -1) (vb : Int32) (hl_vb : -2147483648 ≤ vb.toInt) (hh_vb : vb.toInt ≤ 2147483647) : Mt G l z yX9_dry cX9_dry 6 (some .int) { frames := 0, cells := 0, slots := 0, locals := 0 } [.ref (z + 0), .int va, .int vb] u n (some (.int (-1000000002 : Int32))) u n := by
  refine mt_of (by decide +kernel) (Nat.le_of_ble_eq_true rfl) ?_
  intro p e s m below meth c C hr hlk hnm
  refine x_iload_n C 1 dX9_dry_0 rfl rfl ?_
  refine x_if_lt_t C 20 dX9_dry_1 (by decide) (by simp only [Int32.lt_iff_toInt_lt, Int32.le_iff_toInt_le, i_eq_iff]; have e9 : (0 : Int32).toInt = 0 := (by decide); omega) ?_
  refine x_ldc C kcX9_80 dX9_dry_20 ?_
  exact x_iret C hr hlk (Nat.le_of_ble_eq_true rfl) (Nat.le_of_ble_eq_true rfl) dX9_dry_22 rfl rfl rfl
set_option maxRecDepth 20000 in
theorem p_X10_in_15 {G : GT} {l : Launch} {z n : Nat} (u : HpT) (va : Int32) (hl_va : -2147483648 ≤ va.toInt) (hh_va : va.toInt ≤ -1) : Mt G l z yX10_in cX10_in 3 (some .boolean) { frames := 0, cells := 0, slots := 0, locals := 0 } [.int va, .int (0 : Int32), .int (60 : Int32)] u n (some (.int (0 : Int32))) u n := by
  refine mt_of (by decide +kernel) (Nat.le_of_ble_eq_true rfl) ?_
  intro p e s m below meth c C hr hlk hnm
  refine x_iload_n C 0 dX10_in_0 rfl rfl ?_
  refine x_iload_n C 1 dX10_in_1 rfl rfl ?_
  refine x_icmp_lt_t C 14 dX10_in_2 (by decide) (by simp only [Int32.lt_iff_toInt_lt, Int32.le_iff_toInt_le, i_eq_iff]; have e9 : (0 : Int32).toInt = 0 := (by decide); omega) ?_
  refine x_iconst (v := (0 : Int32)) C dX10_in_14 (by decide) ?_
  exact x_zret C hr hlk (Nat.le_of_ble_eq_true rfl) (Nat.le_of_ble_eq_true rfl) dX10_in_15 (by decide) rfl rfl rfl
set_option maxRecDepth 20000 in
theorem p_X10_dry_0 {G : GT} {l : Launch} {z n : Nat} (u : HpT) (va : Int32) (hl_va : -2147483648 ≤ va.toInt) (hh_va : va.toInt ≤ -1) (vb : Int32) (hl_vb : -2147483648 ≤ vb.toInt) (hh_vb : vb.toInt ≤ 2147483647) : Mt G l z yX10_dry cX10_dry 6 (some .int) { frames := 1, cells := 0, slots := 0, locals := 22 } [.ref (z + 134), .int va, .int vb] u n (some (.int (-1000000002 : Int32))) u n := by
  refine mt_of (by decide +kernel) (Nat.le_of_ble_eq_true rfl) ?_
  intro p e s m below meth c C hr hlk hnm
  refine x_iload_n C 1 dX10_dry_0 rfl rfl ?_
  refine x_iconst (v := (0 : Int32)) C dX10_dry_1 (by decide) ?_
  refine x_bipush (v := (60 : Int32)) C dX10_dry_2 (by decide) ?_
  refine x_callS C cl_X10_in kmX10_82 (As := [.int va, .int (0 : Int32), .int (60 : Int32)]) (rest := []) (p_X10_in_15 u va hl_va hh_va) rfl rfl (Nat.le_of_ble_eq_true rfl) ⟨Nat.le_of_ble_eq_true rfl, Nat.le_of_ble_eq_true rfl⟩ ⟨Nat.le_of_ble_eq_true rfl, Nat.le_of_ble_eq_true rfl⟩ dX10_dry_4 ?_
  refine x_norm (st2 := [.int (0 : Int32)]) (kc2 := 0) (ks2 := 0) rfl rfl rfl rfl rfl ?_
  refine x_if_eq_t C 20 dX10_dry_7 (by decide) (by decide) ?_
  refine x_ldc C kcX10_86 dX10_dry_20 ?_
  exact x_iret C hr hlk (Nat.le_of_ble_eq_true rfl) (Nat.le_of_ble_eq_true rfl) dX10_dry_22 rfl rfl rfl
set_option maxRecDepth 20000 in
theorem p_X9_dry_1 {G : GT} {l : Launch} {z n : Nat} (u : HpT) (va : Int32) (hl_va : 0 ≤ va.toInt) (hh_va : va.toInt ≤ 60) (vb : Int32) (hl_vb : -2147483648 ≤ vb.toInt) (hh_vb : vb.toInt ≤ -1) : Mt G l z yX9_dry cX9_dry 6 (some .int) { frames := 0, cells := 0, slots := 0, locals := 0 } [.ref (z + 0), .int va, .int vb] u n (some (.int (-1000000002 : Int32))) u n := by
  refine mt_of (by decide +kernel) (Nat.le_of_ble_eq_true rfl) ?_
  intro p e s m below meth c C hr hlk hnm
  refine x_iload_n C 1 dX9_dry_0 rfl rfl ?_
  refine x_if_lt_f C 20 dX9_dry_1 (by decide) (by simp only [Int32.lt_iff_toInt_lt, Int32.le_iff_toInt_le, i_eq_iff]; have e9 : (0 : Int32).toInt = 0 := (by decide); omega) ?_
  refine x_iload_n C 1 dX9_dry_4 rfl rfl ?_
  refine x_bipush (v := (60 : Int32)) C dX9_dry_5 (by decide) ?_
  refine x_icmp_gt_f C 20 dX9_dry_7 (by decide) (by simp only [Int32.lt_iff_toInt_lt, Int32.le_iff_toInt_le, i_eq_iff]; have e9 : (60 : Int32).toInt = 60 := (by decide); omega) ?_
  refine x_iload_n C 2 dX9_dry_10 rfl rfl ?_
  refine x_if_lt_t C 20 dX9_dry_11 (by decide) (by simp only [Int32.lt_iff_toInt_lt, Int32.le_iff_toInt_le, i_eq_iff]; have e9 : (0 : Int32).toInt = 0 := (by decide); omega) ?_
  refine x_ldc C kcX9_80 dX9_dry_20 ?_
  exact x_iret C hr hlk (Nat.le_of_ble_eq_true rfl) (Nat.le_of_ble_eq_true rfl) dX9_dry_22 rfl rfl rfl
set_option maxRecDepth 20000 in
theorem p_X10_in_16 {G : GT} {l : Launch} {z n : Nat} (u : HpT) (va : Int32) (hl_va : 0 ≤ va.toInt) (hh_va : va.toInt ≤ 60) : Mt G l z yX10_in cX10_in 3 (some .boolean) { frames := 0, cells := 0, slots := 0, locals := 0 } [.int va, .int (0 : Int32), .int (60 : Int32)] u n (some (.int (1 : Int32))) u n := by
  refine mt_of (by decide +kernel) (Nat.le_of_ble_eq_true rfl) ?_
  intro p e s m below meth c C hr hlk hnm
  refine x_iload_n C 0 dX10_in_0 rfl rfl ?_
  refine x_iload_n C 1 dX10_in_1 rfl rfl ?_
  refine x_icmp_lt_f C 14 dX10_in_2 (by decide) (by simp only [Int32.lt_iff_toInt_lt, Int32.le_iff_toInt_le, i_eq_iff]; have e9 : (0 : Int32).toInt = 0 := (by decide); omega) ?_
  refine x_iload_n C 0 dX10_in_5 rfl rfl ?_
  refine x_iload_n C 2 dX10_in_6 rfl rfl ?_
  refine x_icmp_gt_f C 14 dX10_in_7 (by decide) (by simp only [Int32.lt_iff_toInt_lt, Int32.le_iff_toInt_le, i_eq_iff]; have e9 : (60 : Int32).toInt = 60 := (by decide); omega) ?_
  refine x_iconst (v := (1 : Int32)) C dX10_in_10 (by decide) ?_
  refine x_goto C 15 dX10_in_11 (by decide) ?_
  exact x_zret C hr hlk (Nat.le_of_ble_eq_true rfl) (Nat.le_of_ble_eq_true rfl) dX10_in_15 (by decide) rfl rfl rfl
set_option maxRecDepth 20000 in
theorem p_X10_in_17 {G : GT} {l : Launch} {z n : Nat} (u : HpT) (vb : Int32) (hl_vb : -2147483648 ≤ vb.toInt) (hh_vb : vb.toInt ≤ -1) : Mt G l z yX10_in cX10_in 3 (some .boolean) { frames := 0, cells := 0, slots := 0, locals := 0 } [.int vb, .int (0 : Int32), .int (100 : Int32)] u n (some (.int (0 : Int32))) u n := by
  refine mt_of (by decide +kernel) (Nat.le_of_ble_eq_true rfl) ?_
  intro p e s m below meth c C hr hlk hnm
  refine x_iload_n C 0 dX10_in_0 rfl rfl ?_
  refine x_iload_n C 1 dX10_in_1 rfl rfl ?_
  refine x_icmp_lt_t C 14 dX10_in_2 (by decide) (by simp only [Int32.lt_iff_toInt_lt, Int32.le_iff_toInt_le, i_eq_iff]; have e9 : (0 : Int32).toInt = 0 := (by decide); omega) ?_
  refine x_iconst (v := (0 : Int32)) C dX10_in_14 (by decide) ?_
  exact x_zret C hr hlk (Nat.le_of_ble_eq_true rfl) (Nat.le_of_ble_eq_true rfl) dX10_in_15 (by decide) rfl rfl rfl
set_option maxRecDepth 20000 in
theorem p_X10_dry_1 {G : GT} {l : Launch} {z n : Nat} (u : HpT) (va : Int32) (hl_va : 0 ≤ va.toInt) (hh_va : va.toInt ≤ 60) (vb : Int32) (hl_vb : -2147483648 ≤ vb.toInt) (hh_vb : vb.toInt ≤ -1) : Mt G l z yX10_dry cX10_dry 6 (some .int) { frames := 1, cells := 0, slots := 0, locals := 22 } [.ref (z + 134), .int va, .int vb] u n (some (.int (-1000000002 : Int32))) u n := by
  refine mt_of (by decide +kernel) (Nat.le_of_ble_eq_true rfl) ?_
  intro p e s m below meth c C hr hlk hnm
  refine x_iload_n C 1 dX10_dry_0 rfl rfl ?_
  refine x_iconst (v := (0 : Int32)) C dX10_dry_1 (by decide) ?_
  refine x_bipush (v := (60 : Int32)) C dX10_dry_2 (by decide) ?_
  refine x_callS C cl_X10_in kmX10_82 (As := [.int va, .int (0 : Int32), .int (60 : Int32)]) (rest := []) (p_X10_in_16 u va hl_va hh_va) rfl rfl (Nat.le_of_ble_eq_true rfl) ⟨Nat.le_of_ble_eq_true rfl, Nat.le_of_ble_eq_true rfl⟩ ⟨Nat.le_of_ble_eq_true rfl, Nat.le_of_ble_eq_true rfl⟩ dX10_dry_4 ?_
  refine x_norm (st2 := [.int (1 : Int32)]) (kc2 := 0) (ks2 := 0) rfl rfl rfl rfl rfl ?_
  refine x_if_eq_f C 20 dX10_dry_7 (by decide) (by decide) ?_
  refine x_iload_n C 2 dX10_dry_10 rfl rfl ?_
  refine x_iconst (v := (0 : Int32)) C dX10_dry_11 (by decide) ?_
  refine x_bipush (v := (100 : Int32)) C dX10_dry_12 (by decide) ?_
  refine x_callS C cl_X10_in kmX10_82 (As := [.int vb, .int (0 : Int32), .int (100 : Int32)]) (rest := []) (p_X10_in_17 u vb hl_vb hh_vb) rfl rfl (Nat.le_of_ble_eq_true rfl) ⟨Nat.le_of_ble_eq_true rfl, Nat.le_of_ble_eq_true rfl⟩ ⟨Nat.le_of_ble_eq_true rfl, Nat.le_of_ble_eq_true rfl⟩ dX10_dry_14 ?_
  refine x_norm (st2 := [.int (0 : Int32)]) (kc2 := 0) (ks2 := 0) rfl rfl rfl rfl rfl ?_
  refine x_if_ne_f C 23 dX10_dry_17 (by decide) (by decide) ?_
  refine x_ldc C kcX10_86 dX10_dry_20 ?_
  exact x_iret C hr hlk (Nat.le_of_ble_eq_true rfl) (Nat.le_of_ble_eq_true rfl) dX10_dry_22 rfl rfl rfl
set_option maxRecDepth 20000 in
theorem p_X9_dry_2 {G : GT} {l : Launch} {z n : Nat} (u : HpT) (va : Int32) (hl_va : 0 ≤ va.toInt) (hh_va : va.toInt ≤ 60) (vb : Int32) (hl_vb : 0 ≤ vb.toInt) (hh_vb : vb.toInt ≤ 100) : Mt G l z yX9_dry cX9_dry 6 (some .int) { frames := 0, cells := 0, slots := 0, locals := 0 } [.ref (z + 0), .int va, .int vb] u n (some (.int (dryF vb va.toInt.toNat 1000000000).toInt32)) u n := by
  refine mt_of (by decide +kernel) (Nat.le_of_ble_eq_true rfl) ?_
  intro p e s m below meth c C hr hlk hnm
  refine x_iload_n C 1 dX9_dry_0 rfl rfl ?_
  refine x_if_lt_f C 20 dX9_dry_1 (by decide) (by simp only [Int32.lt_iff_toInt_lt, Int32.le_iff_toInt_le, i_eq_iff]; have e9 : (0 : Int32).toInt = 0 := (by decide); omega) ?_
  refine x_iload_n C 1 dX9_dry_4 rfl rfl ?_
  refine x_bipush (v := (60 : Int32)) C dX9_dry_5 (by decide) ?_
  refine x_icmp_gt_f C 20 dX9_dry_7 (by decide) (by simp only [Int32.lt_iff_toInt_lt, Int32.le_iff_toInt_le, i_eq_iff]; have e9 : (60 : Int32).toInt = 60 := (by decide); omega) ?_
  refine x_iload_n C 2 dX9_dry_10 rfl rfl ?_
  refine x_if_lt_f C 20 dX9_dry_11 (by decide) (by simp only [Int32.lt_iff_toInt_lt, Int32.le_iff_toInt_le, i_eq_iff]; have e9 : (0 : Int32).toInt = 0 := (by decide); omega) ?_
  refine x_iload_n C 2 dX9_dry_14 rfl rfl ?_
  refine x_bipush (v := (100 : Int32)) C dX9_dry_15 (by decide) ?_
  refine x_icmp_le_t C 23 dX9_dry_17 (by decide) (by simp only [Int32.lt_iff_toInt_lt, Int32.le_iff_toInt_le, i_eq_iff]; have e9 : (100 : Int32).toInt = 100 := (by decide); omega) ?_
  refine x_ldc2 C kcX9_309 dX9_dry_23 ?_
  refine x_lstore_n C [(3, .long (1000000000 : Int64)), (0, .ref (z + 0)), (1, .int va), (2, .int vb)] dX9_dry_26 rfl (by decide) rfl ?_
  refine x_iconst (v := (0 : Int32)) C dX9_dry_27 (by decide) ?_
  refine x_istore C [(5, .int (0 : Int32)), (3, .long (1000000000 : Int64)), (0, .ref (z + 0)), (1, .int va), (2, .int vb)] dX9_dry_28 (by decide) rfl ?_
  exact dryC C hr hlk (by omega) va.toInt.toNat 0 1000000000 (by have e9 : (0 : Int32).toInt = 0 := (by decide); omega) (by decide)
set_option maxRecDepth 20000 in
theorem p_X10_in_18 {G : GT} {l : Launch} {z n : Nat} (u : HpT) (vb : Int32) (hl_vb : 0 ≤ vb.toInt) (hh_vb : vb.toInt ≤ 100) : Mt G l z yX10_in cX10_in 3 (some .boolean) { frames := 0, cells := 0, slots := 0, locals := 0 } [.int vb, .int (0 : Int32), .int (100 : Int32)] u n (some (.int (1 : Int32))) u n := by
  refine mt_of (by decide +kernel) (Nat.le_of_ble_eq_true rfl) ?_
  intro p e s m below meth c C hr hlk hnm
  refine x_iload_n C 0 dX10_in_0 rfl rfl ?_
  refine x_iload_n C 1 dX10_in_1 rfl rfl ?_
  refine x_icmp_lt_f C 14 dX10_in_2 (by decide) (by simp only [Int32.lt_iff_toInt_lt, Int32.le_iff_toInt_le, i_eq_iff]; have e9 : (0 : Int32).toInt = 0 := (by decide); omega) ?_
  refine x_iload_n C 0 dX10_in_5 rfl rfl ?_
  refine x_iload_n C 2 dX10_in_6 rfl rfl ?_
  refine x_icmp_gt_f C 14 dX10_in_7 (by decide) (by simp only [Int32.lt_iff_toInt_lt, Int32.le_iff_toInt_le, i_eq_iff]; have e9 : (100 : Int32).toInt = 100 := (by decide); omega) ?_
  refine x_iconst (v := (1 : Int32)) C dX10_in_10 (by decide) ?_
  refine x_goto C 15 dX10_in_11 (by decide) ?_
  exact x_zret C hr hlk (Nat.le_of_ble_eq_true rfl) (Nat.le_of_ble_eq_true rfl) dX10_in_15 (by decide) rfl rfl rfl
set_option maxRecDepth 20000 in
theorem p_X10_dry_2 {G : GT} {l : Launch} {z n : Nat} (u : HpT) (va : Int32) (hl_va : 0 ≤ va.toInt) (hh_va : va.toInt ≤ 60) (vb : Int32) (hl_vb : 0 ≤ vb.toInt) (hh_vb : vb.toInt ≤ 100) : Mt G l z yX10_dry cX10_dry 6 (some .int) { frames := 1, cells := 0, slots := 0, locals := 22 } [.ref (z + 134), .int va, .int vb] u n (some (.int (dryF vb va.toInt.toNat 1000000000).toInt32)) u n := by
  refine mt_of (by decide +kernel) (Nat.le_of_ble_eq_true rfl) ?_
  intro p e s m below meth c C hr hlk hnm
  refine x_iload_n C 1 dX10_dry_0 rfl rfl ?_
  refine x_iconst (v := (0 : Int32)) C dX10_dry_1 (by decide) ?_
  refine x_bipush (v := (60 : Int32)) C dX10_dry_2 (by decide) ?_
  refine x_callS C cl_X10_in kmX10_82 (As := [.int va, .int (0 : Int32), .int (60 : Int32)]) (rest := []) (p_X10_in_16 u va hl_va hh_va) rfl rfl (Nat.le_of_ble_eq_true rfl) ⟨Nat.le_of_ble_eq_true rfl, Nat.le_of_ble_eq_true rfl⟩ ⟨Nat.le_of_ble_eq_true rfl, Nat.le_of_ble_eq_true rfl⟩ dX10_dry_4 ?_
  refine x_norm (st2 := [.int (1 : Int32)]) (kc2 := 0) (ks2 := 0) rfl rfl rfl rfl rfl ?_
  refine x_if_eq_f C 20 dX10_dry_7 (by decide) (by decide) ?_
  refine x_iload_n C 2 dX10_dry_10 rfl rfl ?_
  refine x_iconst (v := (0 : Int32)) C dX10_dry_11 (by decide) ?_
  refine x_bipush (v := (100 : Int32)) C dX10_dry_12 (by decide) ?_
  refine x_callS C cl_X10_in kmX10_82 (As := [.int vb, .int (0 : Int32), .int (100 : Int32)]) (rest := []) (p_X10_in_18 u vb hl_vb hh_vb) rfl rfl (Nat.le_of_ble_eq_true rfl) ⟨Nat.le_of_ble_eq_true rfl, Nat.le_of_ble_eq_true rfl⟩ ⟨Nat.le_of_ble_eq_true rfl, Nat.le_of_ble_eq_true rfl⟩ dX10_dry_14 ?_
  refine x_norm (st2 := [.int (1 : Int32)]) (kc2 := 0) (ks2 := 0) rfl rfl rfl rfl rfl ?_
  refine x_if_ne_t C 23 dX10_dry_17 (by decide) (by decide) ?_
  refine x_ldc2 C kcX10_286 dX10_dry_23 ?_
  refine x_lstore_n C [(3, .long (1000000000 : Int64)), (0, .ref (z + 134)), (1, .int va), (2, .int vb)] dX10_dry_26 rfl (by decide) rfl ?_
  refine x_iconst (v := (0 : Int32)) C dX10_dry_27 (by decide) ?_
  refine x_istore C [(5, .int (0 : Int32)), (3, .long (1000000000 : Int64)), (0, .ref (z + 134)), (1, .int va), (2, .int vb)] dX10_dry_28 (by decide) rfl ?_
  exact dryM C hr hlk (by omega) va.toInt.toNat 0 1000000000 (by have e9 : (0 : Int32).toInt = 0 := (by decide); omega) (by decide)
set_option maxRecDepth 20000 in
theorem p_X9_dry_3 {G : GT} {l : Launch} {z n : Nat} (u : HpT) (va : Int32) (hl_va : 0 ≤ va.toInt) (hh_va : va.toInt ≤ 60) (vb : Int32) (hl_vb : 101 ≤ vb.toInt) (hh_vb : vb.toInt ≤ 2147483647) : Mt G l z yX9_dry cX9_dry 6 (some .int) { frames := 0, cells := 0, slots := 0, locals := 0 } [.ref (z + 0), .int va, .int vb] u n (some (.int (-1000000002 : Int32))) u n := by
  refine mt_of (by decide +kernel) (Nat.le_of_ble_eq_true rfl) ?_
  intro p e s m below meth c C hr hlk hnm
  refine x_iload_n C 1 dX9_dry_0 rfl rfl ?_
  refine x_if_lt_f C 20 dX9_dry_1 (by decide) (by simp only [Int32.lt_iff_toInt_lt, Int32.le_iff_toInt_le, i_eq_iff]; have e9 : (0 : Int32).toInt = 0 := (by decide); omega) ?_
  refine x_iload_n C 1 dX9_dry_4 rfl rfl ?_
  refine x_bipush (v := (60 : Int32)) C dX9_dry_5 (by decide) ?_
  refine x_icmp_gt_f C 20 dX9_dry_7 (by decide) (by simp only [Int32.lt_iff_toInt_lt, Int32.le_iff_toInt_le, i_eq_iff]; have e9 : (60 : Int32).toInt = 60 := (by decide); omega) ?_
  refine x_iload_n C 2 dX9_dry_10 rfl rfl ?_
  refine x_if_lt_f C 20 dX9_dry_11 (by decide) (by simp only [Int32.lt_iff_toInt_lt, Int32.le_iff_toInt_le, i_eq_iff]; have e9 : (0 : Int32).toInt = 0 := (by decide); omega) ?_
  refine x_iload_n C 2 dX9_dry_14 rfl rfl ?_
  refine x_bipush (v := (100 : Int32)) C dX9_dry_15 (by decide) ?_
  refine x_icmp_le_f C 23 dX9_dry_17 (by decide) (by simp only [Int32.lt_iff_toInt_lt, Int32.le_iff_toInt_le, i_eq_iff]; have e9 : (100 : Int32).toInt = 100 := (by decide); omega) ?_
  refine x_ldc C kcX9_80 dX9_dry_20 ?_
  exact x_iret C hr hlk (Nat.le_of_ble_eq_true rfl) (Nat.le_of_ble_eq_true rfl) dX9_dry_22 rfl rfl rfl
