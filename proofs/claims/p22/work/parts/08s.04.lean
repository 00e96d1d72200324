set_option maxRecDepth 20000 in
set_option maxHeartbeats 2000000 in
theorem sf_X5_payOfOrder {g : Nat → Int} (w : Mem) (hI : Inv g w) : Sf (fun (q : Int32) => (True)) (f_X5_payOfOrder w) := by
  obtain ⟨hg0, hg1⟩ := hI.1
  unfold f_X5_payOfOrder
  refine sf_bind (Q := fun (v6 : Int32) => (True)) ?_ (fun v6 hqv6 hvv6 => ?_)
  · have l_0 : (0 : Int32).toInt = 0 := by decide
    refine sf_lp (fun (s6 : (Int32 × Int32 × Int32)) => (0 ≤ s6.2.2.toInt) ∧ (s6.2.2.toInt ≤ 6)) (fun (s6 : (Int32 × Int32 × Int32)) => (7 - s6.2.2.toInt).toNat) (fun s6 hss6 => ?_) _ _ (show (0 ≤ (0 : Int32).toInt) ∧ ((0 : Int32).toInt ≤ 6) from ⟨by omega, by omega⟩) (show (7 - (0 : Int32).toInt).toNat < 5000000000 from by omega)
    obtain ⟨hss6_0, hss6_1⟩ := hss6
    refine (?_ : Sf (lpP _ _ (7 - s6.2.2.toInt).toNat _) _)
    have h1_ : 0 ≤ (w 101 4).toInt ∧ (w 101 4).toInt ≤ 6 := iv_101_4 hI
    refine sf_ite (fun c2_ => ?_) (fun c2_ => ?_)
    · have rc2_ : s6.2.2.toInt < (w 101 4).toInt := by rw [Int32.lt_iff_toInt_lt] at c2_; omega
      refine sf_rd (by omega) (by omega) (fun x1 ex1 => ?_)
      have n3_ : (s6.2.2.toNatClampNeg : Int) = s6.2.2.toInt := i_clq (by omega)
      have fx1 : 0 ≤ x1.toInt ∧ x1.toInt ≤ 5 := by rw [ex1]; exact ia_102 (j := s6.2.2.toNatClampNeg) hI
      refine sf_rd (by omega) (by omega) (fun x2 ex2 => ?_)
      refine sf_bind (Q := fun (v3 : (Int32 × Int32)) => (True)) ?_ (fun v3 hqv3 hvv3 => ?_)
      · have zz4_l : -2147483648 ≤ x2.toInt := Int32.le_toInt x2
        have zz4_h : x2.toInt ≤ 2147483647 := Int32.toInt_le x2
        have zz5_l : -2147483648 ≤ s6.1.toInt := Int32.le_toInt s6.1
        have zz5_h : s6.1.toInt ≤ 2147483647 := Int32.toInt_le s6.1
        refine sf_ite (fun c6_ => ?_) (fun c6_ => ?_)
        · have rc6_ : x2.toInt < s6.1.toInt := by rw [Int32.lt_iff_toInt_lt] at c6_; omega
          have zz7_l : -2147483648 ≤ s6.2.1.toInt := Int32.le_toInt s6.2.1
          have zz7_h : s6.2.1.toInt ≤ 2147483647 := Int32.toInt_le s6.2.1
          exact sf_some (show (True) from trivial)
        · have rc6_ : ¬ x2.toInt < s6.1.toInt := by rw [Int32.lt_iff_toInt_lt] at c6_; omega
          refine sf_rd (by omega) (by omega) (fun x4 ex4 => ?_)
          refine sf_rd (by omega) (by omega) (fun x5 ex5 => ?_)
          have zz8_l : -2147483648 ≤ x4.toInt := Int32.le_toInt x4
          have zz8_h : x4.toInt ≤ 2147483647 := Int32.toInt_le x4
          have zz9_l : -2147483648 ≤ s6.2.1.toInt := Int32.le_toInt s6.2.1
          have zz9_h : s6.2.1.toInt ≤ 2147483647 := Int32.toInt_le s6.2.1
          have zz10_l : -2147483648 ≤ x5.toInt := Int32.le_toInt x5
          have zz10_h : x5.toInt ≤ 2147483647 := Int32.toInt_le x5
          exact sf_some (show (True) from trivial)
      · have hvv3_0 := hvv3
        have zz11_l : -2147483648 ≤ v3.1.toInt := Int32.le_toInt v3.1
        have zz11_h : v3.1.toInt ≤ 2147483647 := Int32.toInt_le v3.1
        have zz12_l : -2147483648 ≤ v3.2.toInt := Int32.le_toInt v3.2
        have zz12_h : v3.2.toInt ≤ 2147483647 := Int32.toInt_le v3.2
        have l_1 : (1 : Int32).toInt = 1 := by decide
        have e13_ : (s6.2.2 + (1 : Int32)).toInt = s6.2.2.toInt + (1 : Int32).toInt := i_add (by omega) (by omega)
        exact sf_some (show ((0 ≤ (s6.2.2 + (1 : Int32)).toInt) ∧ ((s6.2.2 + (1 : Int32)).toInt ≤ 6)) ∧ (7 - (s6.2.2 + (1 : Int32)).toInt).toNat < (7 - s6.2.2.toInt).toNat from ⟨⟨by omega, by omega⟩, by omega⟩)
    · have rc2_ : ¬ s6.2.2.toInt < (w 101 4).toInt := by rw [Int32.lt_iff_toInt_lt] at c2_; omega
      have zz14_l : -2147483648 ≤ s6.2.1.toInt := Int32.le_toInt s6.2.1
      have zz14_h : s6.2.1.toInt ≤ 2147483647 := Int32.toInt_le s6.2.1
      exact sf_some (show (True) from trivial)
  · have hvv6_0 := hvv6
    have zz15_l : -2147483648 ≤ v6.toInt := Int32.le_toInt v6
    have zz15_h : v6.toInt ≤ 2147483647 := Int32.toInt_le v6
    exact sf_some (show (True) from trivial)
set_option maxRecDepth 20000 in
set_option maxHeartbeats 2000000 in
theorem sf_X5_swap {g : Nat → Int} (a1 : Int32) (a2 : Int32) (w : Mem) (hI : Inv g w) (pre0 : 0 ≤ a1.toInt) (pre1 : a1.toInt ≤ 5) (pre2 : 0 ≤ a2.toInt) (pre3 : a2.toInt ≤ 5) : Sf (fun (q : Mem) => (Inv g q)) (f_X5_swap a1 a2 w) := by
  obtain ⟨hg0, hg1⟩ := hI.1
  unfold f_X5_swap
  refine sf_rd (by omega) (by omega) (fun x1 ex1 => ?_)
  have n1_ : (a1.toNatClampNeg : Int) = a1.toInt := i_clq (by omega)
  have fx1 : 0 ≤ x1.toInt ∧ x1.toInt ≤ 5 := by rw [ex1]; exact ia_102 (j := a1.toNatClampNeg) hI
  refine sf_rd (by omega) (by omega) (fun x2 ex2 => ?_)
  have n2_ : (a2.toNatClampNeg : Int) = a2.toInt := i_clq (by omega)
  have fx2 : 0 ≤ x2.toInt ∧ x2.toInt ≤ 5 := by rw [ex2]; exact ia_102 (j := a2.toNatClampNeg) hI
  refine sf_wr (by omega) (by omega) (fun w3 ew3 => ?_)
  have hIw3 : Inv g w3 := by rw [ew3]; exact ua_102 hI (by omega) (by omega) (show 0 ≤ x2.toInt ∧ x2.toInt ≤ 5 from by omega)
  refine sf_wr (by omega) (by omega) (fun w4 ew4 => ?_)
  have hIw4 : Inv g w4 := by rw [ew4]; exact ua_102 hIw3 (by omega) (by omega) (show 0 ≤ x1.toInt ∧ x1.toInt ≤ 5 from by omega)
  exact sf_some (show (Inv g w4) from hIw4)
set_option maxRecDepth 20000 in
set_option maxHeartbeats 2000000 in
theorem sf_X5_nextOrder {g : Nat → Int} (w : Mem) (hI : Inv g w) : Sf (fun (q : Int32 × Mem) => (Inv g q.2) ∧ (0 ≤ q.1.toInt ∧ q.1.toInt ≤ 1)) (f_X5_nextOrder w) := by
  obtain ⟨hg0, hg1⟩ := hI.1
  unfold f_X5_nextOrder
  refine sf_lt (fun t1 et1 => ?_)
  have ft1 : (-2 ≤ t1.toInt) ∧ (t1.toInt ≤ 4) ∧ (t1.toInt = (w 101 4).toInt - (2)) := by
    have h1_ : 0 ≤ (w 101 4).toInt ∧ (w 101 4).toInt ≤ 6 := iv_101_4 hI
    have l_2 : (2 : Int32).toInt = 2 := by decide
    generalize hyy2_ : ((w 101 4) - (2 : Int32)) = y2_
    have e3_ : y2_.toInt = (w 101 4).toInt - (2 : Int32).toInt := by rw [← hyy2_]; exact i_sub (by omega) (by omega)
    have f9 : t1.toInt = y2_.toInt := by rw [et1, hyy2_]
    exact ⟨by omega, by omega, by omega⟩
  refine sf_bind (Q := fun (v4 : Int32) => (-2 ≤ v4.toInt) ∧ (v4.toInt ≤ 4) ∧ (v4.toInt ≤ (w 101 4).toInt - 2)) ?_ (fun v4 hqv4 hvv4 => ?_)
  · have h4_ : 0 ≤ (w 101 4).toInt ∧ (w 101 4).toInt ≤ 6 := iv_101_4 hI
    refine sf_lp (fun (s7 : Int32) => (-2 ≤ s7.toInt) ∧ (s7.toInt ≤ 4) ∧ (s7.toInt ≤ (w 101 4).toInt - 2)) (fun (s7 : Int32) => (s7.toInt - (-3)).toNat) (fun s7 hss7 => ?_) _ _ (show (-2 ≤ t1.toInt) ∧ (t1.toInt ≤ 4) ∧ (t1.toInt ≤ (w 101 4).toInt - 2) from ⟨by omega, by omega, by omega⟩) (show (t1.toInt - (-3)).toNat < 5000000000 from by omega)
    obtain ⟨hss7_0, hss7_1, hss7_2⟩ := hss7
    refine (?_ : Sf (lpP _ _ (s7.toInt - (-3)).toNat _) _)
    have l_0 : (0 : Int32).toInt = 0 := by decide
    refine sf_ite (fun c5_ => ?_) (fun c5_ => ?_)
    · have rc5_ : s7.toInt < 0 := by rw [Int32.lt_iff_toInt_lt] at c5_; omega
      exact sf_some (show (-2 ≤ s7.toInt) ∧ (s7.toInt ≤ 4) ∧ (s7.toInt ≤ (w 101 4).toInt - 2) from ⟨by omega, by omega, by omega⟩)
    · have rc5_ : ¬ s7.toInt < 0 := by rw [Int32.lt_iff_toInt_lt] at c5_; omega
      refine sf_rd (by omega) (by omega) (fun x2 ex2 => ?_)
      have n6_ : (s7.toNatClampNeg : Int) = s7.toInt := i_clq (by omega)
      have fx2 : 0 ≤ x2.toInt ∧ x2.toInt ≤ 5 := by rw [ex2]; exact ia_102 (j := s7.toNatClampNeg) hI
      have l_1 : (1 : Int32).toInt = 1 := by decide
      generalize hyy7_ : (s7 + (1 : Int32)) = y7_
      have e8_ : y7_.toInt = s7.toInt + (1 : Int32).toInt := by rw [← hyy7_]; exact i_add (by omega) (by omega)
      refine sf_rd (by omega) (by omega) (fun x3 ex3 => ?_)
      have n9_ : (y7_.toNatClampNeg : Int) = y7_.toInt := i_clq (by omega)
      have fx3 : 0 ≤ x3.toInt ∧ x3.toInt ≤ 5 := by rw [ex3]; exact ia_102 (j := y7_.toNatClampNeg) hI
      refine sf_ite (fun c10_ => ?_) (fun c10_ => ?_)
      · have rc10_ : x3.toInt < x2.toInt := by rw [Int32.lt_iff_toInt_lt] at c10_; omega
        have l_m1 : (-1 : Int32).toInt = -1 := by decide
        generalize hyy11_ : (s7 + (-1 : Int32)) = y11_
        have e12_ : y11_.toInt = s7.toInt + (-1 : Int32).toInt := by rw [← hyy11_]; exact i_add (by omega) (by omega)
        exact sf_some (show ((-2 ≤ y11_.toInt) ∧ (y11_.toInt ≤ 4) ∧ (y11_.toInt ≤ (w 101 4).toInt - 2)) ∧ (y11_.toInt - (-3)).toNat < (s7.toInt - (-3)).toNat from ⟨⟨by omega, by omega, by omega⟩, by omega⟩)
      · have rc10_ : ¬ x3.toInt < x2.toInt := by rw [Int32.lt_iff_toInt_lt] at c10_; omega
        exact sf_some (show (-2 ≤ s7.toInt) ∧ (s7.toInt ≤ 4) ∧ (s7.toInt ≤ (w 101 4).toInt - 2) from ⟨by omega, by omega, by omega⟩)
  · obtain ⟨hvv4_0, hvv4_1, hvv4_2⟩ := hvv4
    have h13_ : 0 ≤ (w 101 4).toInt ∧ (w 101 4).toInt ≤ 6 := iv_101_4 hI
    have l_0 : (0 : Int32).toInt = 0 := by decide
    refine sf_ite (fun c14_ => ?_) (fun c14_ => ?_)
    · have rc14_ : v4.toInt < 0 := by rw [Int32.lt_iff_toInt_lt] at c14_; omega
      exact sf_some (show (Inv g w) ∧ (0 ≤ (0 : Int32).toInt ∧ (0 : Int32).toInt ≤ 1) from ⟨hI, by omega⟩)
    · have rc14_ : ¬ v4.toInt < 0 := by rw [Int32.lt_iff_toInt_lt] at c14_; omega
      refine sf_lt (fun t5 et5 => ?_)
      have ft5 : (-1 ≤ t5.toInt) ∧ (t5.toInt ≤ 5) ∧ (t5.toInt = (w 101 4).toInt - (1)) := by
        have l_1 : (1 : Int32).toInt = 1 := by decide
        generalize hyy15_ : ((w 101 4) - (1 : Int32)) = y15_
        have e16_ : y15_.toInt = (w 101 4).toInt - (1 : Int32).toInt := by rw [← hyy15_]; exact i_sub (by omega) (by omega)
        have f9 : t5.toInt = y15_.toInt := by rw [et5, hyy15_]
        exact ⟨by omega, by omega, by omega⟩
      refine sf_bind (Q := fun (v8 : Int32) => (-1 ≤ v8.toInt) ∧ (v8.toInt ≤ 5) ∧ (v4.toInt ≤ v8.toInt)) ?_ (fun v8 hqv8 hvv8 => ?_)
      · refine sf_lp (fun (s47 : Int32) => (-1 ≤ s47.toInt) ∧ (s47.toInt ≤ 5) ∧ (v4.toInt ≤ s47.toInt)) (fun (s47 : Int32) => (s47.toInt - (-2)).toNat) (fun s47 hss47 => ?_) _ _ (show (-1 ≤ t5.toInt) ∧ (t5.toInt ≤ 5) ∧ (v4.toInt ≤ t5.toInt) from ⟨by omega, by omega, by omega⟩) (show (t5.toInt - (-2)).toNat < 5000000000 from by omega)
        obtain ⟨hss47_0, hss47_1, hss47_2⟩ := hss47
        refine (?_ : Sf (lpP _ _ (s47.toInt - (-2)).toNat _) _)
        refine sf_ite (fun c17_ => ?_) (fun c17_ => ?_)
        · have rc17_ : v4.toInt < s47.toInt := by rw [Int32.lt_iff_toInt_lt] at c17_; omega
          refine sf_rd (by omega) (by omega) (fun x6 ex6 => ?_)
          have n18_ : (s47.toNatClampNeg : Int) = s47.toInt := i_clq (by omega)
          have fx6 : 0 ≤ x6.toInt ∧ x6.toInt ≤ 5 := by rw [ex6]; exact ia_102 (j := s47.toNatClampNeg) hI
          refine sf_rd (by omega) (by omega) (fun x7 ex7 => ?_)
          have n19_ : (v4.toNatClampNeg : Int) = v4.toInt := i_clq (by omega)
          have fx7 : 0 ≤ x7.toInt ∧ x7.toInt ≤ 5 := by rw [ex7]; exact ia_102 (j := v4.toNatClampNeg) hI
          refine sf_ite (fun c20_ => ?_) (fun c20_ => ?_)
          · have rc20_ : x6.toInt < x7.toInt := by rw [Int32.lt_iff_toInt_lt] at c20_; omega
            have l_m1 : (-1 : Int32).toInt = -1 := by decide
            generalize hyy21_ : (s47 + (-1 : Int32)) = y21_
            have e22_ : y21_.toInt = s47.toInt + (-1 : Int32).toInt := by rw [← hyy21_]; exact i_add (by omega) (by omega)
            exact sf_some (show ((-1 ≤ y21_.toInt) ∧ (y21_.toInt ≤ 5) ∧ (v4.toInt ≤ y21_.toInt)) ∧ (y21_.toInt - (-2)).toNat < (s47.toInt - (-2)).toNat from ⟨⟨by omega, by omega, by omega⟩, by omega⟩)
          · have rc20_ : ¬ x6.toInt < x7.toInt := by rw [Int32.lt_iff_toInt_lt] at c20_; omega
            exact sf_some (show (-1 ≤ s47.toInt) ∧ (s47.toInt ≤ 5) ∧ (v4.toInt ≤ s47.toInt) from ⟨by omega, by omega, by omega⟩)
        · have rc17_ : ¬ v4.toInt < s47.toInt := by rw [Int32.lt_iff_toInt_lt] at c17_; omega
          exact sf_some (show (-1 ≤ s47.toInt) ∧ (s47.toInt ≤ 5) ∧ (v4.toInt ≤ s47.toInt) from ⟨by omega, by omega, by omega⟩)
      · obtain ⟨hvv8_0, hvv8_1, hvv8_2⟩ := hvv8
        refine sf_bind (sf_X5_swap v4 v8 w hI (by omega) (by omega) (by omega) (by omega)) (fun w9 hqw9 hpw9 => ?_)
        have hIw9 := hpw9
        refine sf_lt (fun t10 et10 => ?_)
        have ft10 : (-1 ≤ t10.toInt) ∧ (t10.toInt ≤ 5) ∧ (t10.toInt = (w9 101 4).toInt - (1)) := by
          have h23_ : 0 ≤ (w9 101 4).toInt ∧ (w9 101 4).toInt ≤ 6 := iv_101_4 hIw9
          have k24_ : (w9 101 4).toInt = (w 101 4).toInt := congrArg Int32.toInt (fr_X5_swap v4 v8 w w9 hqw9 101 4 (by omega))
          have l_1 : (1 : Int32).toInt = 1 := by decide
          generalize hyy25_ : ((w9 101 4) - (1 : Int32)) = y25_
          have e26_ : y25_.toInt = (w9 101 4).toInt - (1 : Int32).toInt := by rw [← hyy25_]; exact i_sub (by omega) (by omega)
          have f9 : t10.toInt = y25_.toInt := by rw [et10, hyy25_]
          exact ⟨by omega, by omega, by omega⟩
        refine sf_bind (Q := fun (v12 : Mem) => (Inv g v12) ∧ ((v12 101 4).toInt = (w9 101 4).toInt)) ?_ (fun v12 hqv12 hvv12 => ?_)
        · have l_1 : (1 : Int32).toInt = 1 := by decide
          generalize hyy27_ : (v4 + (1 : Int32)) = y27_
          have e28_ : y27_.toInt = v4.toInt + (1 : Int32).toInt := by rw [← hyy27_]; exact i_add (by omega) (by omega)
          have h29_ : 0 ≤ (w9 101 4).toInt ∧ (w9 101 4).toInt ≤ 6 := iv_101_4 hIw9
          have k30_ : (w9 101 4).toInt = (w 101 4).toInt := congrArg Int32.toInt (fr_X5_swap v4 v8 w w9 hqw9 101 4 (by omega))
          refine sf_lp (fun (s91 : (Int32 × Int32 × Mem)) => (Inv g s91.2.2) ∧ (1 ≤ s91.1.toInt) ∧ (s91.1.toInt ≤ 5) ∧ (-1 ≤ s91.2.1.toInt) ∧ (s91.2.1.toInt ≤ 5) ∧ ((s91.2.2 101 4).toInt = (w9 101 4).toInt)) (fun (s91 : (Int32 × Int32 × Mem)) => (6 - s91.1.toInt).toNat) (fun s91 hss91 => ?_) _ _ (show (Inv g w9) ∧ (1 ≤ y27_.toInt) ∧ (y27_.toInt ≤ 5) ∧ (-1 ≤ t10.toInt) ∧ (t10.toInt ≤ 5) ∧ ((w9 101 4).toInt = (w9 101 4).toInt) from ⟨hIw9, by omega, by omega, by omega, by omega, rfl⟩) (show (6 - y27_.toInt).toNat < 5000000000 from by omega)
          obtain ⟨hIs91, hss91_1, hss91_2, hss91_3, hss91_4, hss91_5⟩ := hss91
          refine (?_ : Sf (lpP _ _ (6 - s91.1.toInt).toNat _) _)
          have h31_ : 0 ≤ (s91.2.2 101 4).toInt ∧ (s91.2.2 101 4).toInt ≤ 6 := iv_101_4 hIs91
          refine sf_ite (fun c32_ => ?_) (fun c32_ => ?_)
          · have rc32_ : s91.1.toInt < s91.2.1.toInt := by rw [Int32.lt_iff_toInt_lt] at c32_; omega
            refine sf_bind (sf_X5_swap s91.1 s91.2.1 s91.2.2 hIs91 (by omega) (by omega) (by omega) (by omega)) (fun w11 hqw11 hpw11 => ?_)
            have hIw11 := hpw11
            generalize hyy33_ : (s91.1 + (1 : Int32)) = y33_
            have e34_ : y33_.toInt = s91.1.toInt + (1 : Int32).toInt := by rw [← hyy33_]; exact i_add (by omega) (by omega)
            have l_m1 : (-1 : Int32).toInt = -1 := by decide
            generalize hyy35_ : (s91.2.1 + (-1 : Int32)) = y35_
            have e36_ : y35_.toInt = s91.2.1.toInt + (-1 : Int32).toInt := by rw [← hyy35_]; exact i_add (by omega) (by omega)
            have h37_ : 0 ≤ (w11 101 4).toInt ∧ (w11 101 4).toInt ≤ 6 := iv_101_4 hIw11
            have k38_ : (w11 101 4).toInt = (s91.2.2 101 4).toInt := congrArg Int32.toInt (fr_X5_swap s91.1 s91.2.1 s91.2.2 w11 hqw11 101 4 (by omega))
            exact sf_some (show ((Inv g w11) ∧ (1 ≤ y33_.toInt) ∧ (y33_.toInt ≤ 5) ∧ (-1 ≤ y35_.toInt) ∧ (y35_.toInt ≤ 5) ∧ ((w11 101 4).toInt = (w9 101 4).toInt)) ∧ (6 - y33_.toInt).toNat < (6 - s91.1.toInt).toNat from ⟨⟨hIw11, by omega, by omega, by omega, by omega, by omega⟩, by omega⟩)
          · have rc32_ : ¬ s91.1.toInt < s91.2.1.toInt := by rw [Int32.lt_iff_toInt_lt] at c32_; omega
            exact sf_some (show (Inv g s91.2.2) ∧ ((s91.2.2 101 4).toInt = (w9 101 4).toInt) from ⟨hIs91, by omega⟩)
        · obtain ⟨hIv12, hvv12_1⟩ := hvv12
          have h39_ : 0 ≤ (w9 101 4).toInt ∧ (w9 101 4).toInt ≤ 6 := iv_101_4 hIw9
          have k40_ : (w9 101 4).toInt = (w 101 4).toInt := congrArg Int32.toInt (fr_X5_swap v4 v8 w w9 hqw9 101 4 (by omega))
          have h41_ : 0 ≤ (v12 101 4).toInt ∧ (v12 101 4).toInt ≤ 6 := iv_101_4 hIv12
          have l_1 : (1 : Int32).toInt = 1 := by decide
          exact sf_some (show (Inv g v12) ∧ (0 ≤ (1 : Int32).toInt ∧ (1 : Int32).toInt ≤ 1) from ⟨hIv12, by omega⟩)
set_option maxRecDepth 20000 in
set_option maxHeartbeats 2000000 in
theorem sf_X5_figuresOfOrder {g : Nat → Int} (w : Mem) (hI : Inv g w) : Sf (fun (q : Int32) => (True)) (f_X5_figuresOfOrder w) := by
  obtain ⟨hg0, hg1⟩ := hI.1
  unfold f_X5_figuresOfOrder
  refine sf_bind (Q := fun (v3 : Int32) => (True)) ?_ (fun v3 hqv3 hvv3 => ?_)
  · have l_0 : (0 : Int32).toInt = 0 := by decide
    refine sf_lp (fun (s4 : (Int32 × Int32)) => (0 ≤ s4.2.toInt) ∧ (s4.2.toInt ≤ 6)) (fun (s4 : (Int32 × Int32)) => (7 - s4.2.toInt).toNat) (fun s4 hss4 => ?_) _ _ (show (0 ≤ (0 : Int32).toInt) ∧ ((0 : Int32).toInt ≤ 6) from ⟨by omega, by omega⟩) (show (7 - (0 : Int32).toInt).toNat < 5000000000 from by omega)
    obtain ⟨hss4_0, hss4_1⟩ := hss4
    refine (?_ : Sf (lpP _ _ (7 - s4.2.toInt).toNat _) _)
    have h1_ : 0 ≤ (w 101 4).toInt ∧ (w 101 4).toInt ≤ 6 := iv_101_4 hI
    refine sf_ite (fun c2_ => ?_) (fun c2_ => ?_)
    · have rc2_ : s4.2.toInt < (w 101 4).toInt := by rw [Int32.lt_iff_toInt_lt] at c2_; omega
      refine sf_rd (by omega) (by omega) (fun x1 ex1 => ?_)
      have n3_ : (s4.2.toNatClampNeg : Int) = s4.2.toInt := i_clq (by omega)
      have fx1 : 0 ≤ x1.toInt ∧ x1.toInt ≤ 5 := by rw [ex1]; exact ia_102 (j := s4.2.toNatClampNeg) hI
      refine sf_lt (fun t2 et2 => ?_)
      have zz5_l : -2147483648 ≤ t2.toInt := Int32.le_toInt t2
      have zz5_h : t2.toInt ≤ 2147483647 := Int32.toInt_le t2
      have l_1 : (1 : Int32).toInt = 1 := by decide
      have e6_ : (s4.2 + (1 : Int32)).toInt = s4.2.toInt + (1 : Int32).toInt := i_add (by omega) (by omega)
      exact sf_some (show ((0 ≤ (s4.2 + (1 : Int32)).toInt) ∧ ((s4.2 + (1 : Int32)).toInt ≤ 6)) ∧ (7 - (s4.2 + (1 : Int32)).toInt).toNat < (7 - s4.2.toInt).toNat from ⟨⟨by omega, by omega⟩, by omega⟩)
    · have rc2_ : ¬ s4.2.toInt < (w 101 4).toInt := by rw [Int32.lt_iff_toInt_lt] at c2_; omega
      have zz7_l : -2147483648 ≤ s4.1.toInt := Int32.le_toInt s4.1
      have zz7_h : s4.1.toInt ≤ 2147483647 := Int32.toInt_le s4.1
      exact sf_some (show (True) from trivial)
  · have hvv3_0 := hvv3
    have zz8_l : -2147483648 ≤ v3.toInt := Int32.le_toInt v3
    have zz8_h : v3.toInt ≤ 2147483647 := Int32.toInt_le v3
    exact sf_some (show (True) from trivial)
set_option maxRecDepth 20000 in
set_option maxHeartbeats 2000000 in
theorem sf_X5_tryOrders {g : Nat → Int} (w : Mem) (hI : Inv g w) : Sf (fun (q : Mem) => (Inv g q)) (f_X5_tryOrders w) := by
  obtain ⟨hg0, hg1⟩ := hI.1
  unfold f_X5_tryOrders
  have l_m1 : (-1 : Int32).toInt = -1 := by decide
  refine sf_pw (fun w1 ew1 => ?_)
  have hIw1 : Inv g w1 := by rw [ew1]; exact uq_101_5 hI
  have l_0 : (0 : Int32).toInt = 0 := by decide
  refine sf_pw (fun w2 ew2 => ?_)
  have hIw2 : Inv g w2 := by rw [ew2]; exact uq_101_6 hIw1
  refine sf_bind (Q := fun (v9 : Mem) => (Inv g v9)) ?_ (fun v9 hqv9 hvv9 => ?_)
  · have l_1 : (1 : Int32).toInt = 1 := by decide
    refine sf_lp (fun (s14 : (Int32 × Int32 × Mem)) => (Inv g s14.2.2) ∧ (0 ≤ s14.1.toInt) ∧ (s14.1.toInt ≤ 1) ∧ (0 ≤ s14.2.1.toInt) ∧ (s14.2.1.toInt ≤ 720)) (fun (s14 : (Int32 × Int32 × Mem)) => (721 - s14.2.1.toInt).toNat) (fun s14 hss14 => ?_) _ _ (show (Inv g w2) ∧ (0 ≤ (1 : Int32).toInt) ∧ ((1 : Int32).toInt ≤ 1) ∧ (0 ≤ (0 : Int32).toInt) ∧ ((0 : Int32).toInt ≤ 720) from ⟨hIw2, by omega, by omega, by omega, by omega⟩) (show (721 - (0 : Int32).toInt).toNat < 5000000000 from by omega)
    obtain ⟨hIs14, hss14_1, hss14_2, hss14_3, hss14_4⟩ := hss14
    refine (?_ : Sf (lpP _ _ (721 - s14.2.1.toInt).toNat _) _)
    have l_720 : (720 : Int32).toInt = 720 := by decide
    refine sf_ite (fun c1_ => ?_) (fun c1_ => ?_)
    · have rc1_ : s14.2.1.toInt < 720 := by rw [Int32.lt_iff_toInt_lt] at c1_; omega
      refine sf_ite (fun c2_ => ?_) (fun c2_ => ?_)
      · have rc2_ : s14.1.toInt = 0 := by rw [i_eq_iff] at c2_; omega
        exact sf_some (show (Inv g s14.2.2) from hIs14)
      · have rc2_ : ¬ s14.1.toInt = 0 := by rw [i_eq_iff] at c2_; omega
        refine sf_bind (sf_X5_payOfOrder  s14.2.2 hIs14) (fun r3 hqr3 hpr3 => ?_)
        refine sf_bind (Q := fun (v4 : Mem) => (Inv g v4)) ?_ (fun v4 hqv4 hvv4 => ?_)
        · have zz3_l : -2147483648 ≤ (s14.2.2 101 5).toInt := Int32.le_toInt (s14.2.2 101 5)
          have zz3_h : (s14.2.2 101 5).toInt ≤ 2147483647 := Int32.toInt_le (s14.2.2 101 5)
          have zz4_l : -2147483648 ≤ r3.toInt := Int32.le_toInt r3
          have zz4_h : r3.toInt ≤ 2147483647 := Int32.toInt_le r3
          refine sf_ite (fun c5_ => ?_) (fun c5_ => ?_)
          · have rc5_ : (s14.2.2 101 5).toInt < r3.toInt := by rw [Int32.lt_iff_toInt_lt] at c5_; omega
            refine sf_pw (fun w6 ew6 => ?_)
            have hIw6 : Inv g w6 := by rw [ew6]; exact uq_101_5 hIs14
            refine sf_bind (sf_X5_figuresOfOrder  w6 hIw6) (fun r7 hqr7 hpr7 => ?_)
            have zz6_l : -2147483648 ≤ r7.toInt := Int32.le_toInt r7
            have zz6_h : r7.toInt ≤ 2147483647 := Int32.toInt_le r7
            refine sf_pw (fun w8 ew8 => ?_)
            have hIw8 : Inv g w8 := by rw [ew8]; exact uq_101_6 hIw6
            exact sf_some (show (Inv g w8) from hIw8)
          · have rc5_ : ¬ (s14.2.2 101 5).toInt < r3.toInt := by rw [Int32.lt_iff_toInt_lt] at c5_; omega
            exact sf_some (show (Inv g s14.2.2) from hIs14)
        · have hIv4 := hvv4
          refine sf_bind (sf_X5_nextOrder  v4 hIv4) (fun q5 hqq5 hpq5 => ?_)
          obtain ⟨hIq5, hpq5_0⟩ := hpq5
          have e7_ : (s14.2.1 + (1 : Int32)).toInt = s14.2.1.toInt + (1 : Int32).toInt := i_add (by omega) (by omega)
          exact sf_some (show ((Inv g q5.2) ∧ (0 ≤ q5.1.toInt) ∧ (q5.1.toInt ≤ 1) ∧ (0 ≤ (s14.2.1 + (1 : Int32)).toInt) ∧ ((s14.2.1 + (1 : Int32)).toInt ≤ 720)) ∧ (721 - (s14.2.1 + (1 : Int32)).toInt).toNat < (721 - s14.2.1.toInt).toNat from ⟨⟨hIq5, by omega, by omega, by omega, by omega⟩, by omega⟩)
    · have rc1_ : ¬ s14.2.1.toInt < 720 := by rw [Int32.lt_iff_toInt_lt] at c1_; omega
      exact sf_some (show (Inv g s14.2.2) from hIs14)
  · have hIv9 := hvv9
    exact sf_some (show (Inv g v9) from hIv9)
set_option maxRecDepth 20000 in
set_option maxHeartbeats 2000000 in
theorem sf_X9_queue {g : Nat → Int} (a1 : Int32) (w : Mem) (hI : Inv g w) : Sf (fun (q : Int32 × Mem) => (Inv g q.2)) (f_X9_queue a1 w) := by
  obtain ⟨hg0, hg1⟩ := hI.1
  unfold f_X9_queue
  have zz1_l : -2147483648 ≤ a1.toInt := Int32.le_toInt a1
  have zz1_h : a1.toInt ≤ 2147483647 := Int32.toInt_le a1
  have l_0 : (0 : Int32).toInt = 0 := by decide
  refine sf_ite (fun c2_ => ?_) (fun c2_ => ?_)
  · have rc2_ : a1.toInt < 0 := by rw [Int32.lt_iff_toInt_lt] at c2_; omega
    have l_m1000000002 : (-1000000002 : Int32).toInt = -1000000002 := by decide
    exact sf_some (show (Inv g w) from hI)
  · have rc2_ : ¬ a1.toInt < 0 := by rw [Int32.lt_iff_toInt_lt] at c2_; omega
    have l_1 : (1 : Int32).toInt = 1 := by decide
    refine sf_ite (fun c3_ => ?_) (fun c3_ => ?_)
    · have rc3_ : 1 < a1.toInt := by rw [Int32.lt_iff_toInt_lt] at c3_; omega
      have l_m1000000002 : (-1000000002 : Int32).toInt = -1000000002 := by decide
      exact sf_some (show (Inv g w) from hI)
    · have rc3_ : ¬ 1 < a1.toInt := by rw [Int32.lt_iff_toInt_lt] at c3_; omega
      have zz4_l : -2147483648 ≤ (w 3 4).toInt := Int32.le_toInt (w 3 4)
      have zz4_h : (w 3 4).toInt ≤ 2147483647 := Int32.toInt_le (w 3 4)
      have l_m1 : (-1 : Int32).toInt = -1 := by decide
      refine sf_ite (fun c5_ => ?_) (fun c5_ => ?_)
      · have rc5_ : (w 3 4).toInt = -1 := by rw [i_eq_iff] at c5_; omega
        refine sf_bind (sf_X5_fill (brp (w 0 8)) (brp_ok (w 0 8)) w hI) (fun w1 hqw1 hpw1 => ?_)
        have hIw1 := hpw1
        refine sf_bind (sf_X5_tryOrders  w1 hIw1) (fun w2 hqw2 hpw2 => ?_)
        have hIw2 := hpw2
        refine sf_ite (fun c6_ => ?_) (fun c6_ => ?_)
        · have rc6_ : a1.toInt = 0 := by rw [i_eq_iff] at c6_; omega
          have zz7_l : -2147483648 ≤ (w2 101 5).toInt := Int32.le_toInt (w2 101 5)
          have zz7_h : (w2 101 5).toInt ≤ 2147483647 := Int32.toInt_le (w2 101 5)
          exact sf_some (show (Inv g w2) from hIw2)
        · have rc6_ : ¬ a1.toInt = 0 := by rw [i_eq_iff] at c6_; omega
          have zz8_l : -2147483648 ≤ (w2 101 6).toInt := Int32.le_toInt (w2 101 6)
          have zz8_h : (w2 101 6).toInt ≤ 2147483647 := Int32.toInt_le (w2 101 6)
          exact sf_some (show (Inv g w2) from hIw2)
      · have rc5_ : ¬ (w 3 4).toInt = -1 := by rw [i_eq_iff] at c5_; omega
        have l_m1000000003 : (-1000000003 : Int32).toInt = -1000000003 := by decide
        exact sf_some (show (Inv g w) from hI)
set_option maxRecDepth 20000 in
set_option maxHeartbeats 2000000 in
theorem sf_X9_dry (a1 : Int32) (a2 : Int32) : Sf (fun (q : Int32) => (True)) (f_X9_dry a1 a2) := by
  unfold f_X9_dry
  have zz1_l : -2147483648 ≤ a1.toInt := Int32.le_toInt a1
  have zz1_h : a1.toInt ≤ 2147483647 := Int32.toInt_le a1
  have l_0 : (0 : Int32).toInt = 0 := by decide
  refine sf_ite (fun c2_ => ?_) (fun c2_ => ?_)
  · have rc2_ : a1.toInt < 0 := by rw [Int32.lt_iff_toInt_lt] at c2_; omega
    have l_m1000000002 : (-1000000002 : Int32).toInt = -1000000002 := by decide
    exact sf_some (show (True) from trivial)
  · have rc2_ : ¬ a1.toInt < 0 := by rw [Int32.lt_iff_toInt_lt] at c2_; omega
    have l_60 : (60 : Int32).toInt = 60 := by decide
    refine sf_ite (fun c3_ => ?_) (fun c3_ => ?_)
    · have rc3_ : 60 < a1.toInt := by rw [Int32.lt_iff_toInt_lt] at c3_; omega
      have l_m1000000002 : (-1000000002 : Int32).toInt = -1000000002 := by decide
      exact sf_some (show (True) from trivial)
    · have rc3_ : ¬ 60 < a1.toInt := by rw [Int32.lt_iff_toInt_lt] at c3_; omega
      have zz4_l : -2147483648 ≤ a2.toInt := Int32.le_toInt a2
      have zz4_h : a2.toInt ≤ 2147483647 := Int32.toInt_le a2
      refine sf_ite (fun c5_ => ?_) (fun c5_ => ?_)
      · have rc5_ : a2.toInt < 0 := by rw [Int32.lt_iff_toInt_lt] at c5_; omega
        have l_m1000000002 : (-1000000002 : Int32).toInt = -1000000002 := by decide
        exact sf_some (show (True) from trivial)
      · have rc5_ : ¬ a2.toInt < 0 := by rw [Int32.lt_iff_toInt_lt] at c5_; omega
        have l_100 : (100 : Int32).toInt = 100 := by decide
        refine sf_ite (fun c6_ => ?_) (fun c6_ => ?_)
        · have rc6_ : 100 < a2.toInt := by rw [Int32.lt_iff_toInt_lt] at c6_; omega
          have l_m1000000002 : (-1000000002 : Int32).toInt = -1000000002 := by decide
          exact sf_some (show (True) from trivial)
        · have rc6_ : ¬ 100 < a2.toInt := by rw [Int32.lt_iff_toInt_lt] at c6_; omega
          refine sf_bind (Q := fun (v2 : Int64) => (True)) ?_ (fun v2 hqv2 hvv2 => ?_)
          · refine sf_lp (fun (s30 : (Int64 × Int32)) => (0 ≤ s30.2.toInt) ∧ (s30.2.toInt ≤ 60)) (fun (s30 : (Int64 × Int32)) => (61 - s30.2.toInt).toNat) (fun s30 hss30 => ?_) _ _ (show (0 ≤ (0 : Int32).toInt) ∧ ((0 : Int32).toInt ≤ 60) from ⟨by omega, by omega⟩) (show (61 - (0 : Int32).toInt).toNat < 5000000000 from by omega)
            obtain ⟨hss30_0, hss30_1⟩ := hss30
            refine (?_ : Sf (lpP _ _ (61 - s30.2.toInt).toNat _) _)
            refine sf_ite (fun c7_ => ?_) (fun c7_ => ?_)
            · have rc7_ : s30.2.toInt < a1.toInt := by rw [Int32.lt_iff_toInt_lt] at c7_; omega
              refine sf_ltl (fun t1 et1 => ?_)
              have l_1 : (1 : Int32).toInt = 1 := by decide
              have e8_ : (s30.2 + (1 : Int32)).toInt = s30.2.toInt + (1 : Int32).toInt := i_add (by omega) (by omega)
              exact sf_some (show ((0 ≤ (s30.2 + (1 : Int32)).toInt) ∧ ((s30.2 + (1 : Int32)).toInt ≤ 60)) ∧ (61 - (s30.2 + (1 : Int32)).toInt).toNat < (61 - s30.2.toInt).toNat from ⟨⟨by omega, by omega⟩, by omega⟩)
            · have rc7_ : ¬ s30.2.toInt < a1.toInt := by rw [Int32.lt_iff_toInt_lt] at c7_; omega
              exact sf_some (show (True) from trivial)
          · have hvv2_0 := hvv2
            exact sf_some (show (True) from trivial)
set_option maxRecDepth 20000 in
set_option maxHeartbeats 2000000 in
theorem sf_X2_add_106 {g : Nat → Int} (a1 : Int32) (a2 : Int32) (w : Mem) (hI : Inv g w) : Sf (fun (q : Int32 × Mem) => (Inv g q.2) ∧ (0 ≤ q.1.toInt ∧ q.1.toInt ≤ 1)) (f_X2_add_106 a1 a2 w) := by
  obtain ⟨hg0, hg1⟩ := hI.1
  unfold f_X2_add_106
  have h1_ : 0 ≤ (w 106 2).toInt ∧ (w 106 2).toInt ≤ 6 := iv_106_2 hI
  have l_6 : (6 : Int32).toInt = 6 := by decide
  refine sf_ite (fun c2_ => ?_) (fun c2_ => ?_)
  · have rc2_ : (w 106 2).toInt < 6 := by rw [Int32.lt_iff_toInt_lt] at c2_; omega
    refine sf_ite (fun c3_ => ?_) (fun c3_ => ?_)
    · have rc3_ : (w 106 2).toInt < 6 := by rw [Int32.lt_iff_toInt_lt] at c3_; omega
      have zz4_l : -2147483648 ≤ a1.toInt := Int32.le_toInt a1
      have zz4_h : a1.toInt ≤ 2147483647 := Int32.toInt_le a1
      refine sf_wr (by omega) (by omega) (fun w1 ew1 => ?_)
      have n5_ : ((w 106 2).toNatClampNeg : Int) = (w 106 2).toInt := i_clq (by omega)
      have hIw1 : Inv g w1 := by rw [ew1]; exact ub_107 hI
      have h6_ : 0 ≤ (w1 106 2).toInt ∧ (w1 106 2).toInt ≤ 6 := iv_106_2 hIw1
      have k7_ : (w1 106 2).toInt = (w 106 2).toInt := by rw [ew1, wu_ne (by omega)]
      have zz8_l : -2147483648 ≤ a2.toInt := Int32.le_toInt a2
      have zz8_h : a2.toInt ≤ 2147483647 := Int32.toInt_le a2
      refine sf_wr (by omega) (by omega) (fun w2 ew2 => ?_)
      have n9_ : ((w1 106 2).toNatClampNeg : Int) = (w1 106 2).toInt := i_clq (by omega)
      have hIw2 : Inv g w2 := by rw [ew2]; exact ub_108 hIw1
      have h10_ : 0 ≤ (w2 106 2).toInt ∧ (w2 106 2).toInt ≤ 6 := iv_106_2 hIw2
      have k11_ : (w2 106 2).toInt = (w1 106 2).toInt := by rw [ew2, wu_ne (by omega)]
      have l_1 : (1 : Int32).toInt = 1 := by decide
      have e12_ : ((w2 106 2) + (1 : Int32)).toInt = (w2 106 2).toInt + (1 : Int32).toInt := i_add (by omega) (by omega)
      refine sf_pw (fun w3 ew3 => ?_)
      have hIw3 : Inv g w3 := by rw [ew3]; exact up_106_2 hIw2 (show 0 ≤ ((w2 106 2) + (1 : Int32)).toInt ∧ ((w2 106 2) + (1 : Int32)).toInt ≤ 6 from by omega)
      exact sf_some (show (Inv g w3) ∧ (0 ≤ (1 : Int32).toInt ∧ (1 : Int32).toInt ≤ 1) from ⟨hIw3, by omega⟩)
    · have rc3_ : ¬ (w 106 2).toInt < 6 := by rw [Int32.lt_iff_toInt_lt] at c3_; omega
      exfalso; omega
  · have rc2_ : ¬ (w 106 2).toInt < 6 := by rw [Int32.lt_iff_toInt_lt] at c2_; omega
    have l_0 : (0 : Int32).toInt = 0 := by decide
    exact sf_some (show (Inv g w) ∧ (0 ≤ (0 : Int32).toInt ∧ (0 : Int32).toInt ≤ 1) from ⟨hI, by omega⟩)
set_option maxRecDepth 20000 in
set_option maxHeartbeats 2000000 in
theorem sf_X9_stayed {g : Nat → Int} (a1 : Int32) (a2 : Int32) (w : Mem) (hI : Inv g w) : Sf (fun (q : Int32 × Mem) => (Inv g q.2)) (f_X9_stayed a1 a2 w) := by
  obtain ⟨hg0, hg1⟩ := hI.1
  unfold f_X9_stayed
  have zz1_l : -2147483648 ≤ a1.toInt := Int32.le_toInt a1
  have zz1_h : a1.toInt ≤ 2147483647 := Int32.toInt_le a1
  refine sf_bind (sf_X1_hasTraveller (brp (w 0 8)) (brp_ok (w 0 8)) a1 w hI) (fun r1 hqr1 hpr1 => ?_)
  obtain ⟨hpr1_0, hpr1_1⟩ := hpr1
  have l_0 : (0 : Int32).toInt = 0 := by decide
  refine sf_ite (fun c2_ => ?_) (fun c2_ => ?_)
  · have rc2_ : r1.toInt = 0 := by rw [i_eq_iff] at c2_; omega
    have l_m1000000001 : (-1000000001 : Int32).toInt = -1000000001 := by decide
    exact sf_some (show (Inv g w) from hI)
  · have rc2_ : ¬ r1.toInt = 0 := by rw [i_eq_iff] at c2_; omega
    have zz3_l : -2147483648 ≤ a2.toInt := Int32.le_toInt a2
    have zz3_h : a2.toInt ≤ 2147483647 := Int32.toInt_le a2
    refine sf_ite (fun c4_ => ?_) (fun c4_ => ?_)
    · have rc4_ : a2.toInt < 0 := by rw [Int32.lt_iff_toInt_lt] at c4_; omega
      have l_m1000000002 : (-1000000002 : Int32).toInt = -1000000002 := by decide
      exact sf_some (show (Inv g w) from hI)
    · have rc4_ : ¬ a2.toInt < 0 := by rw [Int32.lt_iff_toInt_lt] at c4_; omega
      have l_100 : (100 : Int32).toInt = 100 := by decide
      refine sf_ite (fun c5_ => ?_) (fun c5_ => ?_)
      · have rc5_ : 100 < a2.toInt := by rw [Int32.lt_iff_toInt_lt] at c5_; omega
        have l_m1000000002 : (-1000000002 : Int32).toInt = -1000000002 := by decide
        exact sf_some (show (Inv g w) from hI)
      · have rc5_ : ¬ 100 < a2.toInt := by rw [Int32.lt_iff_toInt_lt] at c5_; omega
        refine sf_bind (sf_X2_add_106 a1 a2 w hI) (fun q2 hqq2 hpq2 => ?_)
        obtain ⟨hIq2, hpq2_0⟩ := hpq2
        refine sf_ite (fun c6_ => ?_) (fun c6_ => ?_)
        · have rc6_ : q2.1.toInt = 0 := by rw [i_eq_iff] at c6_; omega
          have l_m1000000004 : (-1000000004 : Int32).toInt = -1000000004 := by decide
          exact sf_some (show (Inv g q2.2) from hIq2)
        · have rc6_ : ¬ q2.1.toInt = 0 := by rw [i_eq_iff] at c6_; omega
          have h7_ : 0 ≤ (q2.2 106 2).toInt ∧ (q2.2 106 2).toInt ≤ 6 := iv_106_2 hIq2
          exact sf_some (show (Inv g q2.2) from hIq2)
set_option maxRecDepth 20000 in
set_option maxHeartbeats 2000000 in
theorem sf_X2_fits_106 {g : Nat → Int} (b1 : Nat) (hb1 : BrO b1) (a2 : Int32) (w : Mem) (hI : Inv g w) : Sf (fun (q : Int32) => (0 ≤ q.toInt ∧ q.toInt ≤ 1)) (f_X2_fits_106 b1 a2 w) := by
  have hbb_b1 : b1 = 112 ∨ b1 = 119 := hb1
  obtain ⟨hg0, hg1⟩ := hI.1
  unfold f_X2_fits_106
  have l_0 : (0 : Int32).toInt = 0 := by decide
  refine sf_lp (fun (s2 : Int32) => (0 ≤ s2.toInt) ∧ (s2.toInt ≤ 6)) (fun (s2 : Int32) => (7 - s2.toInt).toNat) (fun s2 hss2 => ?_) _ _ (show (0 ≤ (0 : Int32).toInt) ∧ ((0 : Int32).toInt ≤ 6) from ⟨by omega, by omega⟩) (show (7 - (0 : Int32).toInt).toNat < 5000000000 from by omega)
  obtain ⟨hss2_0, hss2_1⟩ := hss2
  refine (?_ : Sf (lpP _ _ (7 - s2.toInt).toNat _) _)
  have h1_ : 0 ≤ (w 106 2).toInt ∧ (w 106 2).toInt ≤ 6 := iv_106_2 hI
  refine sf_ite (fun c2_ => ?_) (fun c2_ => ?_)
  · have rc2_ : s2.toInt < (w 106 2).toInt := by rw [Int32.lt_iff_toInt_lt] at c2_; omega
    refine sf_rd (by omega) (by omega) (fun x1 ex1 => ?_)
    have zz3_l : -2147483648 ≤ x1.toInt := Int32.le_toInt x1
    have zz3_h : x1.toInt ≤ 2147483647 := Int32.toInt_le x1
    have zz4_l : -2147483648 ≤ a2.toInt := Int32.le_toInt a2
    have zz4_h : a2.toInt ≤ 2147483647 := Int32.toInt_le a2
    refine sf_bind (sf_X1_stayOf b1 hb1 x1 a2 w hI) (fun r2 hqr2 hpr2 => ?_)
    refine sf_rd (by omega) (by omega) (fun x3 ex3 => ?_)
    have zz5_l : -2147483648 ≤ r2.toInt := Int32.le_toInt r2
    have zz5_h : r2.toInt ≤ 2147483647 := Int32.toInt_le r2
    have zz6_l : -2147483648 ≤ x3.toInt := Int32.le_toInt x3
    have zz6_h : x3.toInt ≤ 2147483647 := Int32.toInt_le x3
    refine sf_ite (fun c7_ => ?_) (fun c7_ => ?_)
    · have rc7_ : r2.toInt = x3.toInt := by rw [i_eq_iff] at c7_; omega
      have l_1 : (1 : Int32).toInt = 1 := by decide
      have e8_ : (s2 + (1 : Int32)).toInt = s2.toInt + (1 : Int32).toInt := i_add (by omega) (by omega)
      exact sf_some (show ((0 ≤ (s2 + (1 : Int32)).toInt) ∧ ((s2 + (1 : Int32)).toInt ≤ 6)) ∧ (7 - (s2 + (1 : Int32)).toInt).toNat < (7 - s2.toInt).toNat from ⟨⟨by omega, by omega⟩, by omega⟩)
    · have rc7_ : ¬ r2.toInt = x3.toInt := by rw [i_eq_iff] at c7_; omega
      exact sf_some (show (0 ≤ (0 : Int32).toInt ∧ (0 : Int32).toInt ≤ 1) from by omega)
  · have rc2_ : ¬ s2.toInt < (w 106 2).toInt := by rw [Int32.lt_iff_toInt_lt] at c2_; omega
    have l_1 : (1 : Int32).toInt = 1 := by decide
    exact sf_some (show (0 ≤ (1 : Int32).toInt ∧ (1 : Int32).toInt ≤ 1) from by omega)
set_option maxRecDepth 20000 in
set_option maxHeartbeats 2000000 in
theorem sf_X2_fitting_106 {g : Nat → Int} (b1 : Nat) (hb1 : BrO b1) (w : Mem) (hI : Inv g w) : Sf (fun (q : Int32) => (True)) (f_X2_fitting_106 b1 w) := by
  have hbb_b1 : b1 = 112 ∨ b1 = 119 := hb1
  obtain ⟨hg0, hg1⟩ := hI.1
  unfold f_X2_fitting_106
  refine sf_bind (Q := fun (v4 : Int32) => (0 ≤ v4.toInt) ∧ (v4.toInt ≤ 255)) ?_ (fun v4 hqv4 hvv4 => ?_)
  · have l_0 : (0 : Int32).toInt = 0 := by decide
    refine sf_lp (fun (s4 : (Int32 × Int32)) => (0 ≤ s4.1.toInt) ∧ (s4.1.toInt ≤ 255) ∧ (0 ≤ s4.2.toInt) ∧ (s4.2.toInt ≤ 8)) (fun (s4 : (Int32 × Int32)) => (9 - s4.2.toInt).toNat) (fun s4 hss4 => ?_) _ _ (show (0 ≤ (0 : Int32).toInt) ∧ ((0 : Int32).toInt ≤ 255) ∧ (0 ≤ (0 : Int32).toInt) ∧ ((0 : Int32).toInt ≤ 8) from ⟨by omega, by omega, by omega, by omega⟩) (show (9 - (0 : Int32).toInt).toNat < 5000000000 from by omega)
    obtain ⟨hss4_0, hss4_1, hss4_2, hss4_3⟩ := hss4
    refine (?_ : Sf (lpP _ _ (9 - s4.2.toInt).toNat _) _)
    have h1_ : 0 ≤ (w b1 2).toInt ∧ (w b1 2).toInt ≤ 8 := ivX1_2 hb1 hI
    refine sf_ite (fun c2_ => ?_) (fun c2_ => ?_)
    · have rc2_ : s4.2.toInt < (w b1 2).toInt := by rw [Int32.lt_iff_toInt_lt] at c2_; omega
      refine sf_bind (sf_X2_fits_106 b1 hb1 s4.2 w hI) (fun r1 hqr1 hpr1 => ?_)
      have hpr1_0 := hpr1
      refine sf_bind (Q := fun (v2 : Int32) => (0 ≤ v2.toInt) ∧ (v2.toInt ≤ 255)) ?_ (fun v2 hqv2 hvv2 => ?_)
      · refine sf_ite (fun c3_ => ?_) (fun c3_ => ?_)
        · have rc3_ : r1.toInt = 0 := by rw [i_eq_iff] at c3_; omega
          exact sf_some (show (0 ≤ s4.1.toInt) ∧ (s4.1.toInt ≤ 255) from ⟨by omega, by omega⟩)
        · have rc3_ : ¬ r1.toInt = 0 := by rw [i_eq_iff] at c3_; omega
          refine sf_lt (fun t3 et3 => ?_)
          have ft3 : (0 ≤ t3.toInt) ∧ (t3.toInt ≤ 255) := by
            have l_1 : (1 : Int32).toInt = 1 := by decide
            have e4_ : 1 ≤ ((1 : Int32) <<< (s4.2 &&& 31)).toInt ∧ ((1 : Int32) <<< (s4.2 &&& 31)).toInt ≤ 128 := i_shl1 (k := 7) (by decide) (by omega) (show _ ≤ 7 from by omega)
            have e5_ : 0 ≤ (s4.1 ||| ((1 : Int32) <<< (s4.2 &&& 31))).toInt ∧ (s4.1 ||| ((1 : Int32) <<< (s4.2 &&& 31))).toInt < 256 := i_or (k := 8) (by decide) (by omega) (show _ < 256 from by omega) (by omega) (show _ < 256 from by omega)
            have f9 : t3.toInt = (s4.1 ||| ((1 : Int32) <<< (s4.2 &&& 31))).toInt := by rw [et3]
            exact ⟨by omega, by omega⟩
          exact sf_some (show (0 ≤ t3.toInt) ∧ (t3.toInt ≤ 255) from ⟨by omega, by omega⟩)
      · obtain ⟨hvv2_0, hvv2_1⟩ := hvv2
        have l_1 : (1 : Int32).toInt = 1 := by decide
        have e6_ : (s4.2 + (1 : Int32)).toInt = s4.2.toInt + (1 : Int32).toInt := i_add (by omega) (by omega)
        exact sf_some (show ((0 ≤ v2.toInt) ∧ (v2.toInt ≤ 255) ∧ (0 ≤ (s4.2 + (1 : Int32)).toInt) ∧ ((s4.2 + (1 : Int32)).toInt ≤ 8)) ∧ (9 - (s4.2 + (1 : Int32)).toInt).toNat < (9 - s4.2.toInt).toNat from ⟨⟨by omega, by omega, by omega, by omega⟩, by omega⟩)
    · have rc2_ : ¬ s4.2.toInt < (w b1 2).toInt := by rw [Int32.lt_iff_toInt_lt] at c2_; omega
      exact sf_some (show (0 ≤ s4.1.toInt) ∧ (s4.1.toInt ≤ 255) from ⟨by omega, by omega⟩)
  · obtain ⟨hvv4_0, hvv4_1⟩ := hvv4
    exact sf_some (show (True) from trivial)
set_option maxRecDepth 20000 in
set_option maxHeartbeats 2000000 in
theorem sf_X9_couldBe {g : Nat → Int} (w : Mem) (hI : Inv g w) : Sf (fun (q : Int32) => (True)) (f_X9_couldBe w) := by
  obtain ⟨hg0, hg1⟩ := hI.1
  unfold f_X9_couldBe
  refine sf_bind (sf_X2_fitting_106 (brp (w 0 8)) (brp_ok (w 0 8)) w hI) (fun r1 hqr1 hpr1 => ?_)
  have zz1_l : -2147483648 ≤ r1.toInt := Int32.le_toInt r1
  have zz1_h : r1.toInt ≤ 2147483647 := Int32.toInt_le r1
  exact sf_some (show (True) from trivial)
set_option maxRecDepth 20000 in
set_option maxHeartbeats 2000000 in
theorem sf_X0_alike {g : Nat → Int} (b0 : Nat) (hb0 : BrO b0) (a1 : Int32) (a2 : Int32) (a3 : Int32) (w : Mem) (hI : Inv g w) : Sf (fun (q : Int32) => (True)) (f_X0_alike b0 a1 a2 a3 w) := by
  have hbb_b0 : b0 = 112 ∨ b0 = 119 := hb0
  obtain ⟨hg0, hg1⟩ := hI.1
  unfold f_X0_alike
  refine sf_bind (Q := fun (v4 : Int32) => (True)) ?_ (fun v4 hqv4 hvv4 => ?_)
  · have l_0 : (0 : Int32).toInt = 0 := by decide
    refine sf_lp (fun (s6 : (Int32 × Int32)) => (0 ≤ s6.2.toInt) ∧ (s6.2.toInt ≤ 8)) (fun (s6 : (Int32 × Int32)) => (9 - s6.2.toInt).toNat) (fun s6 hss6 => ?_) _ _ (show (0 ≤ (0 : Int32).toInt) ∧ ((0 : Int32).toInt ≤ 8) from ⟨by omega, by omega⟩) (show (9 - (0 : Int32).toInt).toNat < 5000000000 from by omega)
    obtain ⟨hss6_0, hss6_1⟩ := hss6
    refine (?_ : Sf (lpP _ _ (9 - s6.2.toInt).toNat _) _)
    have h1_ : 0 ≤ (w b0 2).toInt ∧ (w b0 2).toInt ≤ 8 := ivX1_2 hb0 hI
    refine sf_ite (fun c2_ => ?_) (fun c2_ => ?_)
    · have rc2_ : s6.2.toInt < (w b0 2).toInt := by rw [Int32.lt_iff_toInt_lt] at c2_; omega
      have zz3_l : -2147483648 ≤ a2.toInt := Int32.le_toInt a2
      have zz3_h : a2.toInt ≤ 2147483647 := Int32.toInt_le a2
      refine sf_bind (sf_X9_holds a2 s6.2) (fun r1 hqr1 hpr1 => ?_)
      have hpr1_0 := hpr1
      refine sf_bind (Q := fun (v2 : Int32) => (True)) ?_ (fun v2 hqv2 hvv2 => ?_)
      · refine sf_ite (fun c4_ => ?_) (fun c4_ => ?_)
        · have rc4_ : r1.toInt = 0 := by rw [i_eq_iff] at c4_; omega
          have zz5_l : -2147483648 ≤ s6.1.toInt := Int32.le_toInt s6.1
          have zz5_h : s6.1.toInt ≤ 2147483647 := Int32.toInt_le s6.1
          exact sf_some (show (True) from trivial)
        · have rc4_ : ¬ r1.toInt = 0 := by rw [i_eq_iff] at c4_; omega
          have zz6_l : -2147483648 ≤ a1.toInt := Int32.le_toInt a1
          have zz6_h : a1.toInt ≤ 2147483647 := Int32.toInt_le a1
          refine sf_bind (sf_X1_stayOf b0 hb0 a1 s6.2 w hI) (fun r3 hqr3 hpr3 => ?_)
          have zz7_l : -2147483648 ≤ r3.toInt := Int32.le_toInt r3
          have zz7_h : r3.toInt ≤ 2147483647 := Int32.toInt_le r3
          have zz8_l : -2147483648 ≤ a3.toInt := Int32.le_toInt a3
          have zz8_h : a3.toInt ≤ 2147483647 := Int32.toInt_le a3
          refine sf_ite (fun c9_ => ?_) (fun c9_ => ?_)
          · have rc9_ : r3.toInt = a3.toInt := by rw [i_eq_iff] at c9_; omega
            have zz10_l : -2147483648 ≤ s6.1.toInt := Int32.le_toInt s6.1
            have zz10_h : s6.1.toInt ≤ 2147483647 := Int32.toInt_le s6.1
            have l_1 : (1 : Int32).toInt = 1 := by decide
            exact sf_some (show (True) from trivial)
          · have rc9_ : ¬ r3.toInt = a3.toInt := by rw [i_eq_iff] at c9_; omega
            have zz11_l : -2147483648 ≤ s6.1.toInt := Int32.le_toInt s6.1
            have zz11_h : s6.1.toInt ≤ 2147483647 := Int32.toInt_le s6.1
            exact sf_some (show (True) from trivial)
      · have hvv2_0 := hvv2
        have zz12_l : -2147483648 ≤ v2.toInt := Int32.le_toInt v2
        have zz12_h : v2.toInt ≤ 2147483647 := Int32.toInt_le v2
        have l_1 : (1 : Int32).toInt = 1 := by decide
        have e13_ : (s6.2 + (1 : Int32)).toInt = s6.2.toInt + (1 : Int32).toInt := i_add (by omega) (by omega)
        exact sf_some (show ((0 ≤ (s6.2 + (1 : Int32)).toInt) ∧ ((s6.2 + (1 : Int32)).toInt ≤ 8)) ∧ (9 - (s6.2 + (1 : Int32)).toInt).toNat < (9 - s6.2.toInt).toNat from ⟨⟨by omega, by omega⟩, by omega⟩)
    · have rc2_ : ¬ s6.2.toInt < (w b0 2).toInt := by rw [Int32.lt_iff_toInt_lt] at c2_; omega
      have zz14_l : -2147483648 ≤ s6.1.toInt := Int32.le_toInt s6.1
      have zz14_h : s6.1.toInt ≤ 2147483647 := Int32.toInt_le s6.1
      exact sf_some (show (True) from trivial)
  · have hvv4_0 := hvv4
    have zz15_l : -2147483648 ≤ v4.toInt := Int32.le_toInt v4
    have zz15_h : v4.toInt ≤ 2147483647 := Int32.toInt_le v4
    exact sf_some (show (True) from trivial)
set_option maxRecDepth 20000 in
set_option maxHeartbeats 2000000 in
theorem sf_X0_greatestPart {g : Nat → Int} (b0 : Nat) (hb0 : BrO b0) (a1 : Int32) (a2 : Int32) (w : Mem) (hI : Inv g w) : Sf (fun (q : Int32) => (True)) (f_X0_greatestPart b0 a1 a2 w) := by
  have hbb_b0 : b0 = 112 ∨ b0 = 119 := hb0
  obtain ⟨hg0, hg1⟩ := hI.1
  unfold f_X0_greatestPart
  refine sf_bind (Q := fun (v6 : Int32) => (0 ≤ v6.toInt)) ?_ (fun v6 hqv6 hvv6 => ?_)
  · have l_0 : (0 : Int32).toInt = 0 := by decide
    refine sf_lp (fun (s5 : (Int32 × Int32)) => (0 ≤ s5.1.toInt) ∧ (0 ≤ s5.2.toInt) ∧ (s5.2.toInt ≤ 8)) (fun (s5 : (Int32 × Int32)) => (9 - s5.2.toInt).toNat) (fun s5 hss5 => ?_) _ _ (show (0 ≤ (0 : Int32).toInt) ∧ (0 ≤ (0 : Int32).toInt) ∧ ((0 : Int32).toInt ≤ 8) from ⟨by omega, by omega, by omega⟩) (show (9 - (0 : Int32).toInt).toNat < 5000000000 from by omega)
    obtain ⟨hss5_0, hss5_1, hss5_2⟩ := hss5
    refine (?_ : Sf (lpP _ _ (9 - s5.2.toInt).toNat _) _)
    have h1_ : 0 ≤ (w b0 2).toInt ∧ (w b0 2).toInt ≤ 8 := ivX1_2 hb0 hI
    refine sf_ite (fun c2_ => ?_) (fun c2_ => ?_)
    · have rc2_ : s5.2.toInt < (w b0 2).toInt := by rw [Int32.lt_iff_toInt_lt] at c2_; omega
      have zz3_l : -2147483648 ≤ a2.toInt := Int32.le_toInt a2
      have zz3_h : a2.toInt ≤ 2147483647 := Int32.toInt_le a2
      refine sf_bind (sf_X9_holds a2 s5.2) (fun r1 hqr1 hpr1 => ?_)
      have hpr1_0 := hpr1
      refine sf_bind (Q := fun (v2 : Int32) => (0 ≤ v2.toInt)) ?_ (fun v2 hqv2 hvv2 => ?_)
      · refine sf_ite (fun c4_ => ?_) (fun c4_ => ?_)
        · have rc4_ : r1.toInt = 0 := by rw [i_eq_iff] at c4_; omega
          have zz5_l : -2147483648 ≤ s5.1.toInt := Int32.le_toInt s5.1
          have zz5_h : s5.1.toInt ≤ 2147483647 := Int32.toInt_le s5.1
          exact sf_some (show (0 ≤ s5.1.toInt) from by omega)
        · have rc4_ : ¬ r1.toInt = 0 := by rw [i_eq_iff] at c4_; omega
          have zz6_l : -2147483648 ≤ a1.toInt := Int32.le_toInt a1
          have zz6_h : a1.toInt ≤ 2147483647 := Int32.toInt_le a1
          refine sf_bind (sf_X1_stayOf b0 hb0 a1 s5.2 w hI) (fun r3 hqr3 hpr3 => ?_)
          have zz7_l : -2147483648 ≤ r3.toInt := Int32.le_toInt r3
          have zz7_h : r3.toInt ≤ 2147483647 := Int32.toInt_le r3
          refine sf_bind (sf_X0_alike b0 hb0 a1 a2 r3 w hI) (fun r4 hqr4 hpr4 => ?_)
          refine sf_lt (fun t5 et5 => ?_)
          have ft5 : (0 ≤ t5.toInt) ∧ ((t5.toInt = s5.1.toInt ∨ t5.toInt = r4.toInt) ∧ t5.toInt ≥ s5.1.toInt ∧ t5.toInt ≥ r4.toInt) := by
            have zz8_l : -2147483648 ≤ s5.1.toInt := Int32.le_toInt s5.1
            have zz8_h : s5.1.toInt ≤ 2147483647 := Int32.toInt_le s5.1
            have zz9_l : -2147483648 ≤ r4.toInt := Int32.le_toInt r4
            have zz9_h : r4.toInt ≤ 2147483647 := Int32.toInt_le r4
            have e10_ : ((if s5.1 < r4 then r4 else s5.1).toInt = s5.1.toInt ∨ (if s5.1 < r4 then r4 else s5.1).toInt = r4.toInt) ∧ (if s5.1 < r4 then r4 else s5.1).toInt ≥ s5.1.toInt ∧ (if s5.1 < r4 then r4 else s5.1).toInt ≥ r4.toInt := i_max _ _
            have f9 : t5.toInt = (if s5.1 < r4 then r4 else s5.1).toInt := by rw [et5]
            exact ⟨by omega, by rw [et5]; exact i_max _ _⟩
          have zz11_l : -2147483648 ≤ t5.toInt := Int32.le_toInt t5
          have zz11_h : t5.toInt ≤ 2147483647 := Int32.toInt_le t5
          exact sf_some (show (0 ≤ t5.toInt) from by omega)
      · have hvv2_0 := hvv2
        have zz12_l : -2147483648 ≤ v2.toInt := Int32.le_toInt v2
        have zz12_h : v2.toInt ≤ 2147483647 := Int32.toInt_le v2
        have l_1 : (1 : Int32).toInt = 1 := by decide
        have e13_ : (s5.2 + (1 : Int32)).toInt = s5.2.toInt + (1 : Int32).toInt := i_add (by omega) (by omega)
        exact sf_some (show ((0 ≤ v2.toInt) ∧ (0 ≤ (s5.2 + (1 : Int32)).toInt) ∧ ((s5.2 + (1 : Int32)).toInt ≤ 8)) ∧ (9 - (s5.2 + (1 : Int32)).toInt).toNat < (9 - s5.2.toInt).toNat from ⟨⟨by omega, by omega, by omega⟩, by omega⟩)
    · have rc2_ : ¬ s5.2.toInt < (w b0 2).toInt := by rw [Int32.lt_iff_toInt_lt] at c2_; omega
      have zz14_l : -2147483648 ≤ s5.1.toInt := Int32.le_toInt s5.1
      have zz14_h : s5.1.toInt ≤ 2147483647 := Int32.toInt_le s5.1
      exact sf_some (show (0 ≤ s5.1.toInt) from by omega)
  · have hvv6_0 := hvv6
    have zz15_l : -2147483648 ≤ v6.toInt := Int32.le_toInt v6
    have zz15_h : v6.toInt ≤ 2147483647 := Int32.toInt_le v6
    exact sf_some (show (True) from trivial)
set_option maxRecDepth 20000 in
set_option maxHeartbeats 2000000 in
theorem sf_X0_bestOf {g : Nat → Int} (b0 : Nat) (hb0 : BrO b0) (a1 : Int32) (w : Mem) (hI : Inv g w) : Sf (fun (q : Int32) => (True)) (f_X0_bestOf b0 a1 w) := by
  have hbb_b0 : b0 = 112 ∨ b0 = 119 := hb0
  obtain ⟨hg0, hg1⟩ := hI.1
  unfold f_X0_bestOf
  have zz1_l : -2147483648 ≤ a1.toInt := Int32.le_toInt a1
  have zz1_h : a1.toInt ≤ 2147483647 := Int32.toInt_le a1
  refine sf_bind (sf_J6_bitCount_0f7a4 a1) (fun r1 hqr1 hpr1 => ?_)
  refine sf_bind (Q := fun (v4 : Int32) => (-1 ≤ v4.toInt) ∧ (v4.toInt ≤ 5)) ?_ (fun v4 hqv4 hvv4 => ?_)
  · have l_m1 : (-1 : Int32).toInt = -1 := by decide
    have zz2_l : -2147483648 ≤ r1.toInt := Int32.le_toInt r1
    have zz2_h : r1.toInt ≤ 2147483647 := Int32.toInt_le r1
    have l_0 : (0 : Int32).toInt = 0 := by decide
    refine sf_lp (fun (s10 : (Int32 × Int32 × Int32)) => (-1 ≤ s10.1.toInt) ∧ (s10.1.toInt ≤ 5) ∧ (0 ≤ s10.2.2.toInt) ∧ (s10.2.2.toInt ≤ 6)) (fun (s10 : (Int32 × Int32 × Int32)) => (7 - s10.2.2.toInt).toNat) (fun s10 hss10 => ?_) _ _ (show (-1 ≤ (-1 : Int32).toInt) ∧ ((-1 : Int32).toInt ≤ 5) ∧ (0 ≤ (0 : Int32).toInt) ∧ ((0 : Int32).toInt ≤ 6) from ⟨by omega, by omega, by omega, by omega⟩) (show (7 - (0 : Int32).toInt).toNat < 5000000000 from by omega)
    obtain ⟨hss10_0, hss10_1, hss10_2, hss10_3⟩ := hss10
    refine (?_ : Sf (lpP _ _ (7 - s10.2.2.toInt).toNat _) _)
    have h3_ : 0 ≤ (w b0 3).toInt ∧ (w b0 3).toInt ≤ 6 := ivX1_3 hb0 hI
    refine sf_ite (fun c4_ => ?_) (fun c4_ => ?_)
    · have rc4_ : s10.2.2.toInt < (w b0 3).toInt := by rw [Int32.lt_iff_toInt_lt] at c4_; omega
      refine sf_bind (sf_X0_greatestPart b0 hb0 s10.2.2 a1 w hI) (fun r2 hqr2 hpr2 => ?_)
      refine sf_bind (Q := fun (v3 : (Int32 × Int32)) => (-1 ≤ v3.1.toInt) ∧ (v3.1.toInt ≤ 5)) ?_ (fun v3 hqv3 hvv3 => ?_)
      · have zz5_l : -2147483648 ≤ r2.toInt := Int32.le_toInt r2
        have zz5_h : r2.toInt ≤ 2147483647 := Int32.toInt_le r2
        have zz6_l : -2147483648 ≤ s10.2.1.toInt := Int32.le_toInt s10.2.1
        have zz6_h : s10.2.1.toInt ≤ 2147483647 := Int32.toInt_le s10.2.1
        refine sf_ite (fun c7_ => ?_) (fun c7_ => ?_)
        · have rc7_ : r2.toInt < s10.2.1.toInt := by rw [Int32.lt_iff_toInt_lt] at c7_; omega
          exact sf_some (show (-1 ≤ s10.2.2.toInt) ∧ (s10.2.2.toInt ≤ 5) from ⟨by omega, by omega⟩)
        · have rc7_ : ¬ r2.toInt < s10.2.1.toInt := by rw [Int32.lt_iff_toInt_lt] at c7_; omega
          exact sf_some (show (-1 ≤ s10.1.toInt) ∧ (s10.1.toInt ≤ 5) from ⟨by omega, by omega⟩)
      · obtain ⟨hvv3_0, hvv3_1⟩ := hvv3
        have zz8_l : -2147483648 ≤ v3.2.toInt := Int32.le_toInt v3.2
        have zz8_h : v3.2.toInt ≤ 2147483647 := Int32.toInt_le v3.2
        have l_1 : (1 : Int32).toInt = 1 := by decide
        have e9_ : (s10.2.2 + (1 : Int32)).toInt = s10.2.2.toInt + (1 : Int32).toInt := i_add (by omega) (by omega)
        exact sf_some (show ((-1 ≤ v3.1.toInt) ∧ (v3.1.toInt ≤ 5) ∧ (0 ≤ (s10.2.2 + (1 : Int32)).toInt) ∧ ((s10.2.2 + (1 : Int32)).toInt ≤ 6)) ∧ (7 - (s10.2.2 + (1 : Int32)).toInt).toNat < (7 - s10.2.2.toInt).toNat from ⟨⟨by omega, by omega, by omega, by omega⟩, by omega⟩)
    · have rc4_ : ¬ s10.2.2.toInt < (w b0 3).toInt := by rw [Int32.lt_iff_toInt_lt] at c4_; omega
      exact sf_some (show (-1 ≤ s10.1.toInt) ∧ (s10.1.toInt ≤ 5) from ⟨by omega, by omega⟩)
  · obtain ⟨hvv4_0, hvv4_1⟩ := hvv4
    exact sf_some (show (True) from trivial)
set_option maxRecDepth 20000 in
set_option maxHeartbeats 2000000 in
theorem sf_X9_ask {g : Nat → Int} (w : Mem) (hI : Inv g w) : Sf (fun (q : Int32) => (True)) (f_X9_ask w) := by
  obtain ⟨hg0, hg1⟩ := hI.1
  unfold f_X9_ask
  refine sf_bind (sf_X2_fitting_106 (brp (w 0 8)) (brp_ok (w 0 8)) w hI) (fun r1 hqr1 hpr1 => ?_)
  have zz1_l : -2147483648 ≤ r1.toInt := Int32.le_toInt r1
  have zz1_h : r1.toInt ≤ 2147483647 := Int32.toInt_le r1
  refine sf_bind (sf_X0_bestOf (brp (w 0 8)) (brp_ok (w 0 8)) r1 w hI) (fun r2 hqr2 hpr2 => ?_)
  have zz2_l : -2147483648 ≤ r2.toInt := Int32.le_toInt r2
  have zz2_h : r2.toInt ≤ 2147483647 := Int32.toInt_le r2
  exact sf_some (show (True) from trivial)
set_option maxRecDepth 20000 in
set_option maxHeartbeats 2000000 in
theorem sf_X2_add_109 {g : Nat → Int} (a1 : Int32) (a2 : Int32) (w : Mem) (hI : Inv g w) : Sf (fun (q : Int32 × Mem) => (Inv g q.2) ∧ (0 ≤ q.1.toInt ∧ q.1.toInt ≤ 1)) (f_X2_add_109 a1 a2 w) := by
  obtain ⟨hg0, hg1⟩ := hI.1
  unfold f_X2_add_109
  have h1_ : 0 ≤ (w 109 2).toInt ∧ (w 109 2).toInt ≤ 20 := iv_109_2 hI
  have l_20 : (20 : Int32).toInt = 20 := by decide
  refine sf_ite (fun c2_ => ?_) (fun c2_ => ?_)
  · have rc2_ : (w 109 2).toInt < 20 := by rw [Int32.lt_iff_toInt_lt] at c2_; omega
    refine sf_ite (fun c3_ => ?_) (fun c3_ => ?_)
    · have rc3_ : (w 109 2).toInt < 20 := by rw [Int32.lt_iff_toInt_lt] at c3_; omega
      have zz4_l : -2147483648 ≤ a1.toInt := Int32.le_toInt a1
      have zz4_h : a1.toInt ≤ 2147483647 := Int32.toInt_le a1
      refine sf_wr (by omega) (by omega) (fun w1 ew1 => ?_)
      have n5_ : ((w 109 2).toNatClampNeg : Int) = (w 109 2).toInt := i_clq (by omega)
      have hIw1 : Inv g w1 := by rw [ew1]; exact ub_110 hI
      have h6_ : 0 ≤ (w1 109 2).toInt ∧ (w1 109 2).toInt ≤ 20 := iv_109_2 hIw1
      have k7_ : (w1 109 2).toInt = (w 109 2).toInt := by rw [ew1, wu_ne (by omega)]
      have zz8_l : -2147483648 ≤ a2.toInt := Int32.le_toInt a2
      have zz8_h : a2.toInt ≤ 2147483647 := Int32.toInt_le a2
      refine sf_wr (by omega) (by omega) (fun w2 ew2 => ?_)
      have n9_ : ((w1 109 2).toNatClampNeg : Int) = (w1 109 2).toInt := i_clq (by omega)
      have hIw2 : Inv g w2 := by rw [ew2]; exact ub_111 hIw1
      have h10_ : 0 ≤ (w2 109 2).toInt ∧ (w2 109 2).toInt ≤ 20 := iv_109_2 hIw2
      have k11_ : (w2 109 2).toInt = (w1 109 2).toInt := by rw [ew2, wu_ne (by omega)]
      have l_1 : (1 : Int32).toInt = 1 := by decide
      have e12_ : ((w2 109 2) + (1 : Int32)).toInt = (w2 109 2).toInt + (1 : Int32).toInt := i_add (by omega) (by omega)
      refine sf_pw (fun w3 ew3 => ?_)
      have hIw3 : Inv g w3 := by rw [ew3]; exact up_109_2 hIw2 (show 0 ≤ ((w2 109 2) + (1 : Int32)).toInt ∧ ((w2 109 2) + (1 : Int32)).toInt ≤ 20 from by omega)
      exact sf_some (show (Inv g w3) ∧ (0 ≤ (1 : Int32).toInt ∧ (1 : Int32).toInt ≤ 1) from ⟨hIw3, by omega⟩)
    · have rc3_ : ¬ (w 109 2).toInt < 20 := by rw [Int32.lt_iff_toInt_lt] at c3_; omega
      exfalso; omega
  · have rc2_ : ¬ (w 109 2).toInt < 20 := by rw [Int32.lt_iff_toInt_lt] at c2_; omega
    have l_0 : (0 : Int32).toInt = 0 := by decide
    exact sf_some (show (Inv g w) ∧ (0 ≤ (0 : Int32).toInt ∧ (0 : Int32).toInt ≤ 1) from ⟨hI, by omega⟩)
set_option maxRecDepth 20000 in
set_option maxHeartbeats 2000000 in
theorem sf_X9_write {g : Nat → Int} (a1 : Int32) (a2 : Int32) (w : Mem) (hI : Inv g w) : Sf (fun (q : Int32 × Mem) => (Inv g q.2)) (f_X9_write a1 a2 w) := by
  obtain ⟨hg0, hg1⟩ := hI.1
  unfold f_X9_write
  have zz1_l : -2147483648 ≤ a1.toInt := Int32.le_toInt a1
  have zz1_h : a1.toInt ≤ 2147483647 := Int32.toInt_le a1
  refine sf_bind (sf_X1_hasTraveller (brp (w 0 8)) (brp_ok (w 0 8)) a1 w hI) (fun r1 hqr1 hpr1 => ?_)
  obtain ⟨hpr1_0, hpr1_1⟩ := hpr1
  have l_0 : (0 : Int32).toInt = 0 := by decide
  refine sf_ite (fun c2_ => ?_) (fun c2_ => ?_)
  · have rc2_ : r1.toInt = 0 := by rw [i_eq_iff] at c2_; omega
    have l_m1000000001 : (-1000000001 : Int32).toInt = -1000000001 := by decide
    exact sf_some (show (Inv g w) from hI)
  · have rc2_ : ¬ r1.toInt = 0 := by rw [i_eq_iff] at c2_; omega
    have zz3_l : -2147483648 ≤ a2.toInt := Int32.le_toInt a2
    have zz3_h : a2.toInt ≤ 2147483647 := Int32.toInt_le a2
    refine sf_ite (fun c4_ => ?_) (fun c4_ => ?_)
    · have rc4_ : a2.toInt < 0 := by rw [Int32.lt_iff_toInt_lt] at c4_; omega
      have l_m1000000002 : (-1000000002 : Int32).toInt = -1000000002 := by decide
      exact sf_some (show (Inv g w) from hI)
    · have rc4_ : ¬ a2.toInt < 0 := by rw [Int32.lt_iff_toInt_lt] at c4_; omega
      have l_9999 : (9999 : Int32).toInt = 9999 := by decide
      refine sf_ite (fun c5_ => ?_) (fun c5_ => ?_)
      · have rc5_ : 9999 < a2.toInt := by rw [Int32.lt_iff_toInt_lt] at c5_; omega
        have l_m1000000002 : (-1000000002 : Int32).toInt = -1000000002 := by decide
        exact sf_some (show (Inv g w) from hI)
      · have rc5_ : ¬ 9999 < a2.toInt := by rw [Int32.lt_iff_toInt_lt] at c5_; omega
        refine sf_bind (sf_X2_add_109 a1 a2 w hI) (fun q2 hqq2 hpq2 => ?_)
        obtain ⟨hIq2, hpq2_0⟩ := hpq2
        refine sf_ite (fun c6_ => ?_) (fun c6_ => ?_)
        · have rc6_ : q2.1.toInt = 0 := by rw [i_eq_iff] at c6_; omega
          have l_m1000000004 : (-1000000004 : Int32).toInt = -1000000004 := by decide
          exact sf_some (show (Inv g q2.2) from hIq2)
        · have rc6_ : ¬ q2.1.toInt = 0 := by rw [i_eq_iff] at c6_; omega
          have h7_ : 0 ≤ (q2.2 109 2).toInt ∧ (q2.2 109 2).toInt ≤ 20 := iv_109_2 hIq2
          exact sf_some (show (Inv g q2.2) from hIq2)
set_option maxRecDepth 20000 in
set_option maxHeartbeats 2000000 in
theorem sf_X2_firstWrong_109 {g : Nat → Int} (w : Mem) (hI : Inv g w) : Sf (fun (q : Int32) => (True)) (f_X2_firstWrong_109 w) := by
  obtain ⟨hg0, hg1⟩ := hI.1
  unfold f_X2_firstWrong_109
  have l_0 : (0 : Int32).toInt = 0 := by decide
  refine sf_lp (fun (s2 : Int32) => (0 ≤ s2.toInt) ∧ (s2.toInt ≤ 20)) (fun (s2 : Int32) => (21 - s2.toInt).toNat) (fun s2 hss2 => ?_) _ _ (show (0 ≤ (0 : Int32).toInt) ∧ ((0 : Int32).toInt ≤ 20) from ⟨by omega, by omega⟩) (show (21 - (0 : Int32).toInt).toNat < 5000000000 from by omega)
  obtain ⟨hss2_0, hss2_1⟩ := hss2
  refine (?_ : Sf (lpP _ _ (21 - s2.toInt).toNat _) _)
  have h1_ : 0 ≤ (w 109 2).toInt ∧ (w 109 2).toInt ≤ 20 := iv_109_2 hI
  refine sf_ite (fun c2_ => ?_) (fun c2_ => ?_)
  · have rc2_ : s2.toInt < (w 109 2).toInt := by rw [Int32.lt_iff_toInt_lt] at c2_; omega
    refine sf_rd (by omega) (by omega) (fun x1 ex1 => ?_)
    have zz3_l : -2147483648 ≤ x1.toInt := Int32.le_toInt x1
    have zz3_h : x1.toInt ≤ 2147483647 := Int32.toInt_le x1
    refine sf_ite (fun c4_ => ?_) (fun c4_ => ?_)
    · have rc4_ : x1.toInt < 0 := by rw [Int32.lt_iff_toInt_lt] at c4_; omega
      exact sf_some (show (True) from trivial)
    · have rc4_ : ¬ x1.toInt < 0 := by rw [Int32.lt_iff_toInt_lt] at c4_; omega
      have l_6 : (6 : Int32).toInt = 6 := by decide
      refine sf_ite (fun c5_ => ?_) (fun c5_ => ?_)
      · have rc5_ : x1.toInt < 6 := by rw [Int32.lt_iff_toInt_lt] at c5_; omega
        refine sf_rd (by omega) (by omega) (fun x2 ex2 => ?_)
        refine sf_rd (by omega) (by omega) (fun x3 ex3 => ?_)
        have zz6_l : -2147483648 ≤ x2.toInt := Int32.le_toInt x2
        have zz6_h : x2.toInt ≤ 2147483647 := Int32.toInt_le x2
        have zz7_l : -2147483648 ≤ x3.toInt := Int32.le_toInt x3
        have zz7_h : x3.toInt ≤ 2147483647 := Int32.toInt_le x3
        refine sf_ite (fun c8_ => ?_) (fun c8_ => ?_)
        · have rc8_ : x2.toInt = x3.toInt := by rw [i_eq_iff] at c8_; omega
          have l_1 : (1 : Int32).toInt = 1 := by decide
          have e9_ : (s2 + (1 : Int32)).toInt = s2.toInt + (1 : Int32).toInt := i_add (by omega) (by omega)
          exact sf_some (show ((0 ≤ (s2 + (1 : Int32)).toInt) ∧ ((s2 + (1 : Int32)).toInt ≤ 20)) ∧ (21 - (s2 + (1 : Int32)).toInt).toNat < (21 - s2.toInt).toNat from ⟨⟨by omega, by omega⟩, by omega⟩)
        · have rc8_ : ¬ x2.toInt = x3.toInt := by rw [i_eq_iff] at c8_; omega
          exact sf_some (show (True) from trivial)
      · have rc5_ : ¬ x1.toInt < 6 := by rw [Int32.lt_iff_toInt_lt] at c5_; omega
        exact sf_some (show (True) from trivial)
  · have rc2_ : ¬ s2.toInt < (w 109 2).toInt := by rw [Int32.lt_iff_toInt_lt] at c2_; omega
    have l_m1 : (-1 : Int32).toInt = -1 := by decide
    exact sf_some (show (True) from trivial)
set_option maxRecDepth 20000 in
set_option maxHeartbeats 2000000 in
theorem sf_X9_judge {g : Nat → Int} (w : Mem) (hI : Inv g w) : Sf (fun (q : Int32) => (True)) (f_X9_judge w) := by
  obtain ⟨hg0, hg1⟩ := hI.1
  unfold f_X9_judge
  refine sf_bind (sf_X2_firstWrong_109  w hI) (fun r1 hqr1 hpr1 => ?_)
  have zz1_l : -2147483648 ≤ r1.toInt := Int32.le_toInt r1
  have zz1_h : r1.toInt ≤ 2147483647 := Int32.toInt_le r1
  exact sf_some (show (True) from trivial)
set_option maxRecDepth 20000 in
set_option maxHeartbeats 2000000 in
theorem sf_X9_tear {g : Nat → Int} (w : Mem) (hI : Inv g w) : Sf (fun (q : Int32 × Mem) => (Inv g q.2)) (f_X9_tear w) := by
  obtain ⟨hg0, hg1⟩ := hI.1
  unfold f_X9_tear
  refine sf_bind (sf_X2_forget_106  w hI) (fun w1 hqw1 hpw1 => ?_)
  have hIw1 := hpw1
  refine sf_bind (sf_X2_forget_109  w1 hIw1) (fun w2 hqw2 hpw2 => ?_)
  have hIw2 := hpw2
  have h1_ : 0 ≤ (w 106 2).toInt ∧ (w 106 2).toInt ≤ 6 := iv_106_2 hI
  have h2_ : 0 ≤ (w 109 2).toInt ∧ (w 109 2).toInt ≤ 20 := iv_109_2 hI
  have e3_ : ((w 106 2) + (w 109 2)).toInt = (w 106 2).toInt + (w 109 2).toInt := i_add (by omega) (by omega)
  exact sf_some (show (Inv g w2) from hIw2)
