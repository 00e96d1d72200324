set_option maxRecDepth 20000 in
set_option maxHeartbeats 2000000 in
theorem sf_X10_seat {g : Nat → Int} (a1 : Int32) (w : Mem) (hI : Inv g w) : Sf (fun (q : Int32 × Mem) => (Inv g q.2)) (f_X10_seat a1 w) := by
  obtain ⟨hg0, hg1⟩ := hI.1
  unfold f_X10_seat
  have zz1_l : -2147483648 ≤ a1.toInt := Int32.le_toInt a1
  have zz1_h : a1.toInt ≤ 2147483647 := Int32.toInt_le a1
  refine sf_bind (sf_X10_isTraveller a1 w hI) (fun r1 hqr1 hpr1 => ?_)
  obtain ⟨hpr1_0, hpr1_1⟩ := hpr1
  have l_0 : (0 : Int32).toInt = 0 := by decide
  refine sf_ite (fun c2_ => ?_) (fun c2_ => ?_)
  · have rc2_ : r1.toInt = 0 := by rw [i_eq_iff] at c2_; omega
    have l_m1000000001 : (-1000000001 : Int32).toInt = -1000000001 := by decide
    exact sf_some (show (Inv g w) from hI)
  · have rc2_ : ¬ r1.toInt = 0 := by rw [i_eq_iff] at c2_; omega
    have l_4 : (4 : Int32).toInt = 4 := by decide
    refine sf_rd (by omega) (by omega) (fun x2 ex2 => ?_)
    have h3_ : ((4 : Int) = 4 → -1 ≤ (w 146 4).toInt ∧ (w 146 4).toInt ≤ 6 * g 0 - 1) ∧ ((4 : Int) = 6 → -1 ≤ (w 146 4).toInt ∧ (w 146 4).toInt ≤ 7) := ia_146 (j := 4) hI
    have fx2 : x2.toInt = (w 146 4).toInt := by rw [ex2, show (4 : Int32).toNatClampNeg = 4 by decide]
    have l_m1 : (-1 : Int32).toInt = -1 := by decide
    refine sf_ite (fun c4_ => ?_) (fun c4_ => ?_)
    · have rc4_ : x2.toInt = -1 := by rw [i_eq_iff] at c4_; omega
      have l_7 : (7 : Int32).toInt = 7 := by decide
      have e5_ : ((7 : Int32) + a1).toInt = (7 : Int32).toInt + a1.toInt := i_add (by omega) (by omega)
      refine sf_rd (by omega) (by omega) (fun x3 ex3 => ?_)
      have zz6_l : -2147483648 ≤ x3.toInt := Int32.le_toInt x3
      have zz6_h : x3.toInt ≤ 2147483647 := Int32.toInt_le x3
      refine sf_ite (fun c7_ => ?_) (fun c7_ => ?_)
      · have rc7_ : x3.toInt = 0 := by rw [i_eq_iff] at c7_; omega
        refine sf_bind (sf_X10_remember  w hI (by omega)) (fun w4 hqw4 hpw4 => ?_)
        obtain ⟨hIw4, hpw4_0⟩ := hpw4
        have h8_ : ((4 : Int) = 4 → -1 ≤ (w4 146 4).toInt ∧ (w4 146 4).toInt ≤ 6 * g 0 - 1) ∧ ((4 : Int) = 6 → -1 ≤ (w4 146 4).toInt ∧ (w4 146 4).toInt ≤ 7) := ia_146 (j := 4) hIw4
        have k9_ : (w4 146 4).toInt = (w 146 4).toInt := congrArg Int32.toInt (fr_X10_remember  w w4 hqw4 146 4 (by omega))
        refine sf_bind (sf_X10_seats a1 w4 hIw4 (by omega) (by omega) (by omega)) (fun w5 hqw5 hpw5 => ?_)
        have hIw5 := hpw5
        have l_19 : (19 : Int32).toInt = 19 := by decide
        have e10_ : ((19 : Int32) + a1).toInt = (19 : Int32).toInt + a1.toInt := i_add (by omega) (by omega)
        refine sf_rd (by omega) (by omega) (fun x6 ex6 => ?_)
        have zz11_l : -2147483648 ≤ x6.toInt := Int32.le_toInt x6
        have zz11_h : x6.toInt ≤ 2147483647 := Int32.toInt_le x6
        exact sf_some (show (Inv g w5) from hIw5)
      · have rc7_ : ¬ x3.toInt = 0 := by rw [i_eq_iff] at c7_; omega
        have l_m1000000003 : (-1000000003 : Int32).toInt = -1000000003 := by decide
        exact sf_some (show (Inv g w) from hI)
    · have rc4_ : ¬ x2.toInt = -1 := by rw [i_eq_iff] at c4_; omega
      have l_m1000000003 : (-1000000003 : Int32).toInt = -1000000003 := by decide
      exact sf_some (show (Inv g w) from hI)
set_option maxRecDepth 20000 in
set_option maxHeartbeats 2000000 in
theorem sf_X10_isTellable {g : Nat → Int} (a1 : Int32) (w : Mem) (hI : Inv g w) : Sf (fun (q : Int32) => (0 ≤ q.toInt ∧ q.toInt ≤ 1) ∧ (q.toInt = 0 ∨ 0 ≤ (w 146 4).toInt)) (f_X10_isTellable a1 w) := by
  obtain ⟨hg0, hg1⟩ := hI.1
  unfold f_X10_isTellable
  have l_4 : (4 : Int32).toInt = 4 := by decide
  refine sf_rd (by omega) (by omega) (fun x1 ex1 => ?_)
  have h1_ : ((4 : Int) = 4 → -1 ≤ (w 146 4).toInt ∧ (w 146 4).toInt ≤ 6 * g 0 - 1) ∧ ((4 : Int) = 6 → -1 ≤ (w 146 4).toInt ∧ (w 146 4).toInt ≤ 7) := ia_146 (j := 4) hI
  have fx1 : x1.toInt = (w 146 4).toInt := by rw [ex1, show (4 : Int32).toNatClampNeg = 4 by decide]
  have l_m1 : (-1 : Int32).toInt = -1 := by decide
  refine sf_ite (fun c2_ => ?_) (fun c2_ => ?_)
  · have rc2_ : x1.toInt = -1 := by rw [i_eq_iff] at c2_; omega
    have l_0 : (0 : Int32).toInt = 0 := by decide
    exact sf_some (show (0 ≤ (0 : Int32).toInt ∧ (0 : Int32).toInt ≤ 1) ∧ ((0 : Int32).toInt = 0 ∨ 0 ≤ (w 146 4).toInt) from ⟨by omega, by omega⟩)
  · have rc2_ : ¬ x1.toInt = -1 := by rw [i_eq_iff] at c2_; omega
    have l_3 : (3 : Int32).toInt = 3 := by decide
    refine sf_rd (by omega) (by omega) (fun x2 ex2 => ?_)
    have zz3_l : -2147483648 ≤ (w 146 3).toInt := Int32.le_toInt (w 146 3)
    have zz3_h : (w 146 3).toInt ≤ 2147483647 := Int32.toInt_le (w 146 3)
    have fx2 : x2.toInt = (w 146 3).toInt := by rw [ex2, show (3 : Int32).toNatClampNeg = 3 by decide]
    have zz4_l : -2147483648 ≤ x2.toInt := Int32.le_toInt x2
    have zz4_h : x2.toInt ≤ 2147483647 := Int32.toInt_le x2
    have zz5_l : -2147483648 ≤ a1.toInt := Int32.le_toInt a1
    have zz5_h : a1.toInt ≤ 2147483647 := Int32.toInt_le a1
    refine sf_bind (sf_X10_has x2 a1) (fun r3 hqr3 hpr3 => ?_)
    obtain ⟨hpr3_0, hpr3_1⟩ := hpr3
    have l_0 : (0 : Int32).toInt = 0 := by decide
    refine sf_ite (fun c6_ => ?_) (fun c6_ => ?_)
    · have rc6_ : r3.toInt = 0 := by rw [i_eq_iff] at c6_; omega
      exact sf_some (show (0 ≤ (0 : Int32).toInt ∧ (0 : Int32).toInt ≤ 1) ∧ ((0 : Int32).toInt = 0 ∨ 0 ≤ (w 146 4).toInt) from ⟨by omega, by omega⟩)
    · have rc6_ : ¬ r3.toInt = 0 := by rw [i_eq_iff] at c6_; omega
      have l_5 : (5 : Int32).toInt = 5 := by decide
      refine sf_rd (by omega) (by omega) (fun x4 ex4 => ?_)
      have zz7_l : -2147483648 ≤ (w 146 5).toInt := Int32.le_toInt (w 146 5)
      have zz7_h : (w 146 5).toInt ≤ 2147483647 := Int32.toInt_le (w 146 5)
      have fx4 : x4.toInt = (w 146 5).toInt := by rw [ex4, show (5 : Int32).toNatClampNeg = 5 by decide]
      have zz8_l : -2147483648 ≤ x4.toInt := Int32.le_toInt x4
      have zz8_h : x4.toInt ≤ 2147483647 := Int32.toInt_le x4
      refine sf_bind (sf_X10_has x4 a1) (fun r5 hqr5 hpr5 => ?_)
      obtain ⟨hpr5_0, hpr5_1⟩ := hpr5
      refine sf_ite (fun c9_ => ?_) (fun c9_ => ?_)
      · have rc9_ : r5.toInt = 0 := by rw [i_eq_iff] at c9_; omega
        have l_1 : (1 : Int32).toInt = 1 := by decide
        exact sf_some (show (0 ≤ (1 : Int32).toInt ∧ (1 : Int32).toInt ≤ 1) ∧ ((1 : Int32).toInt = 0 ∨ 0 ≤ (w 146 4).toInt) from ⟨by omega, by omega⟩)
      · have rc9_ : ¬ r5.toInt = 0 := by rw [i_eq_iff] at c9_; omega
        exact sf_some (show (0 ≤ (0 : Int32).toInt ∧ (0 : Int32).toInt ≤ 1) ∧ ((0 : Int32).toInt = 0 ∨ 0 ≤ (w 146 4).toInt) from ⟨by omega, by omega⟩)
set_option maxRecDepth 20000 in
set_option maxHeartbeats 2000000 in
theorem sf_X10_passes {g : Nat → Int} (a1 : Int32) (w : Mem) (hI : Inv g w) : Sf (fun (q : Mem) => (Inv g q) ∧ ((q 146 4).toInt = (w 146 4).toInt)) (f_X10_passes a1 w) := by
  obtain ⟨hg0, hg1⟩ := hI.1
  have zz1_l : -2147483648 ≤ a1.toInt := Int32.le_toInt a1
  have zz1_h : a1.toInt ≤ 2147483647 := Int32.toInt_le a1
  unfold f_X10_passes
  refine sf_bind (Q := fun (v15 : Mem) => (Inv g v15) ∧ ((v15 134 18).toInt = (w 134 18).toInt) ∧ ((v15 146 4).toInt = (w 146 4).toInt)) ?_ (fun v15 hqv15 hvv15 => ?_)
  · have l_0 : (0 : Int32).toInt = 0 := by decide
    have h2_ : 0 ≤ (w 134 18).toInt ∧ (w 134 18).toInt ≤ 6 * g 0 := iv_134_18 hI
    have h3_ : ((4 : Int) = 4 → -1 ≤ (w 146 4).toInt ∧ (w 146 4).toInt ≤ 6 * g 0 - 1) ∧ ((4 : Int) = 6 → -1 ≤ (w 146 4).toInt ∧ (w 146 4).toInt ≤ 7) := ia_146 (j := 4) hI
    refine sf_lp (fun (s2 : (Int32 × Mem)) => (Inv g s2.2) ∧ (0 ≤ s2.1.toInt) ∧ ((s2.2 134 18).toInt = (w 134 18).toInt) ∧ ((s2.2 146 4).toInt = (w 146 4).toInt)) (fun (s2 : (Int32 × Mem)) => (a1.toInt - s2.1.toInt).toNat) (fun s2 hss2 => ?_) _ _ (show (Inv g w) ∧ (0 ≤ (0 : Int32).toInt) ∧ ((w 134 18).toInt = (w 134 18).toInt) ∧ ((w 146 4).toInt = (w 146 4).toInt) from ⟨hI, by omega, rfl, rfl⟩) (show (a1.toInt - (0 : Int32).toInt).toNat < 5000000000 from by omega)
    obtain ⟨hIs2, hss2_1, hss2_2, hss2_3⟩ := hss2
    refine (?_ : Sf (lpP _ _ (a1.toInt - s2.1.toInt).toNat _) _)
    have h4_ : 0 ≤ (s2.2 134 18).toInt ∧ (s2.2 134 18).toInt ≤ 6 * g 0 := iv_134_18 hIs2
    have h5_ : ((4 : Int) = 4 → -1 ≤ (s2.2 146 4).toInt ∧ (s2.2 146 4).toInt ≤ 6 * g 0 - 1) ∧ ((4 : Int) = 6 → -1 ≤ (s2.2 146 4).toInt ∧ (s2.2 146 4).toInt ≤ 7) := ia_146 (j := 4) hIs2
    have zz6_l : -2147483648 ≤ s2.1.toInt := Int32.le_toInt s2.1
    have zz6_h : s2.1.toInt ≤ 2147483647 := Int32.toInt_le s2.1
    refine sf_ite (fun c7_ => ?_) (fun c7_ => ?_)
    · have rc7_ : s2.1.toInt < a1.toInt := by rw [Int32.lt_iff_toInt_lt] at c7_; omega
      refine sf_bind (Q := fun (v12 : Mem) => (Inv g v12) ∧ ((v12 134 18).toInt = (s2.2 134 18).toInt) ∧ ((v12 146 4).toInt = (w 146 4).toInt)) ?_ (fun v12 hqv12 hvv12 => ?_)
      · refine sf_lp (fun (s9 : (Int32 × Mem)) => (Inv g s9.2) ∧ (0 ≤ s9.1.toInt) ∧ (s9.1.toInt ≤ 6) ∧ ((s9.2 134 18).toInt = (s2.2 134 18).toInt) ∧ ((s9.2 146 4).toInt = (w 146 4).toInt)) (fun (s9 : (Int32 × Mem)) => (7 - s9.1.toInt).toNat) (fun s9 hss9 => ?_) _ _ (show (Inv g s2.2) ∧ (0 ≤ (0 : Int32).toInt) ∧ ((0 : Int32).toInt ≤ 6) ∧ ((s2.2 134 18).toInt = (s2.2 134 18).toInt) ∧ ((s2.2 146 4).toInt = (w 146 4).toInt) from ⟨hIs2, by omega, by omega, rfl, by omega⟩) (show (7 - (0 : Int32).toInt).toNat < 5000000000 from by omega)
        obtain ⟨hIs9, hss9_1, hss9_2, hss9_3, hss9_4⟩ := hss9
        refine (?_ : Sf (lpP _ _ (7 - s9.1.toInt).toNat _) _)
        have h8_ : 0 ≤ (s9.2 134 18).toInt ∧ (s9.2 134 18).toInt ≤ 6 * g 0 := iv_134_18 hIs9
        have h9_ : ((4 : Int) = 4 → -1 ≤ (s9.2 146 4).toInt ∧ (s9.2 146 4).toInt ≤ 6 * g 0 - 1) ∧ ((4 : Int) = 6 → -1 ≤ (s9.2 146 4).toInt ∧ (s9.2 146 4).toInt ≤ 7) := ia_146 (j := 4) hIs9
        refine sf_ite (fun c10_ => ?_) (fun c10_ => ?_)
        · have rc10_ : s9.1.toInt < (s9.2 134 18).toInt := by rw [Int32.lt_iff_toInt_lt] at c10_; omega
          have l_7 : (7 : Int32).toInt = 7 := by decide
          have e11_ : ((7 : Int32) + s9.1).toInt = (7 : Int32).toInt + s9.1.toInt := i_add (by omega) (by omega)
          refine sf_rd (by omega) (by omega) (fun x1 ex1 => ?_)
          refine sf_bind (Q := fun (v2 : Int32) => (0 ≤ v2.toInt) ∧ (v2.toInt ≤ 1)) ?_ (fun v2 hqv2 hvv2 => ?_)
          · have zz12_l : -2147483648 ≤ x1.toInt := Int32.le_toInt x1
            have zz12_h : x1.toInt ≤ 2147483647 := Int32.toInt_le x1
            refine sf_ite (fun c13_ => ?_) (fun c13_ => ?_)
            · have rc13_ : x1.toInt = 0 := by rw [i_eq_iff] at c13_; omega
              have l_1 : (1 : Int32).toInt = 1 := by decide
              exact sf_some (show (0 ≤ (1 : Int32).toInt) ∧ ((1 : Int32).toInt ≤ 1) from ⟨by omega, by omega⟩)
            · have rc13_ : ¬ x1.toInt = 0 := by rw [i_eq_iff] at c13_; omega
              exact sf_some (show (0 ≤ (0 : Int32).toInt) ∧ ((0 : Int32).toInt ≤ 1) from ⟨by omega, by omega⟩)
          · obtain ⟨hvv2_0, hvv2_1⟩ := hvv2
            have l_19 : (19 : Int32).toInt = 19 := by decide
            have e14_ : ((19 : Int32) + s9.1).toInt = (19 : Int32).toInt + s9.1.toInt := i_add (by omega) (by omega)
            refine sf_rd (by omega) (by omega) (fun x3 ex3 => ?_)
            refine sf_bind (Q := fun (v4 : Int32) => (0 ≤ v4.toInt) ∧ (v4.toInt ≤ 1)) ?_ (fun v4 hqv4 hvv4 => ?_)
            · refine sf_ite (fun c15_ => ?_) (fun c15_ => ?_)
              · have rc15_ : v2.toInt = 0 := by rw [i_eq_iff] at c15_; omega
                exact sf_some (show (0 ≤ (0 : Int32).toInt) ∧ ((0 : Int32).toInt ≤ 1) from ⟨by omega, by omega⟩)
              · have rc15_ : ¬ v2.toInt = 0 := by rw [i_eq_iff] at c15_; omega
                have l_1 : (1 : Int32).toInt = 1 := by decide
                exact sf_some (show (0 ≤ (1 : Int32).toInt) ∧ ((1 : Int32).toInt ≤ 1) from ⟨by omega, by omega⟩)
            · obtain ⟨hvv4_0, hvv4_1⟩ := hvv4
              have zz16_l : -2147483648 ≤ x3.toInt := Int32.le_toInt x3
              have zz16_h : x3.toInt ≤ 2147483647 := Int32.toInt_le x3
              refine sf_wr (by omega) (by omega) (fun w5 ew5 => ?_)
              have n17_ : (((19 : Int32) + s9.1).toNatClampNeg : Int) = ((19 : Int32) + s9.1).toInt := i_clq (by omega)
              have hIw5 : Inv g w5 := by rw [ew5]; exact ua_146 hIs9 (by omega) (by omega) (show (((19 : Int32) + s9.1).toInt = 4 → -1 ≤ (x3 + v4).toInt ∧ (x3 + v4).toInt ≤ 6 * g 0 - 1) ∧ (((19 : Int32) + s9.1).toInt = 6 → -1 ≤ (x3 + v4).toInt ∧ (x3 + v4).toInt ≤ 7) from by omega)
              refine sf_bind (Q := fun (v6 : Int32) => (True)) ?_ (fun v6 hqv6 hvv6 => ?_)
              · refine sf_ite (fun c18_ => ?_) (fun c18_ => ?_)
                · have rc18_ : v2.toInt = 0 := by rw [i_eq_iff] at c18_; omega
                  refine sf_rd (by omega) (by omega) (fun x8 ex8 => ?_)
                  have zz19_l : -2147483648 ≤ x8.toInt := Int32.le_toInt x8
                  have zz19_h : x8.toInt ≤ 2147483647 := Int32.toInt_le x8
                  exact sf_some (show (True) from trivial)
                · have rc18_ : ¬ v2.toInt = 0 := by rw [i_eq_iff] at c18_; omega
                  refine sf_rd (by omega) (by omega) (fun x9 ex9 => ?_)
                  refine sf_bind (sf_X10_limit s9.1 w5 hIw5 (by omega) (by omega)) (fun r10 hqr10 hpr10 => ?_)
                  have zz20_l : -2147483648 ≤ r10.toInt := Int32.le_toInt r10
                  have zz20_h : r10.toInt ≤ 2147483647 := Int32.toInt_le r10
                  have zz21_l : -2147483648 ≤ x9.toInt := Int32.le_toInt x9
                  have zz21_h : x9.toInt ≤ 2147483647 := Int32.toInt_le x9
                  refine sf_ite (fun c22_ => ?_) (fun c22_ => ?_)
                  · have rc22_ : r10.toInt < x9.toInt := by rw [Int32.lt_iff_toInt_lt] at c22_; omega
                    have l_3 : (3 : Int32).toInt = 3 := by decide
                    exact sf_some (show (True) from trivial)
                  · have rc22_ : ¬ r10.toInt < x9.toInt := by rw [Int32.lt_iff_toInt_lt] at c22_; omega
                    refine sf_rd (by omega) (by omega) (fun x11 ex11 => ?_)
                    have zz23_l : -2147483648 ≤ x11.toInt := Int32.le_toInt x11
                    have zz23_h : x11.toInt ≤ 2147483647 := Int32.toInt_le x11
                    exact sf_some (show (True) from trivial)
              · have hvv6_0 := hvv6
                have zz24_l : -2147483648 ≤ v6.toInt := Int32.le_toInt v6
                have zz24_h : v6.toInt ≤ 2147483647 := Int32.toInt_le v6
                refine sf_wr (by omega) (by omega) (fun w7 ew7 => ?_)
                have n25_ : (((7 : Int32) + s9.1).toNatClampNeg : Int) = ((7 : Int32) + s9.1).toInt := i_clq (by omega)
                have hIw7 : Inv g w7 := by rw [ew7]; exact ua_146 hIw5 (by omega) (by omega) (show (((7 : Int32) + s9.1).toInt = 4 → -1 ≤ v6.toInt ∧ v6.toInt ≤ 6 * g 0 - 1) ∧ (((7 : Int32) + s9.1).toInt = 6 → -1 ≤ v6.toInt ∧ v6.toInt ≤ 7) from by omega)
                have l_1 : (1 : Int32).toInt = 1 := by decide
                have e26_ : (s9.1 + (1 : Int32)).toInt = s9.1.toInt + (1 : Int32).toInt := i_add (by omega) (by omega)
                have h27_ : 0 ≤ (w7 134 18).toInt ∧ (w7 134 18).toInt ≤ 6 * g 0 := iv_134_18 hIw7
                have h28_ : 0 ≤ (w5 134 18).toInt ∧ (w5 134 18).toInt ≤ 6 * g 0 := iv_134_18 hIw5
                have k29_ : (w5 134 18).toInt = (s9.2 134 18).toInt := by rw [ew5, wu_ne (by omega)]
                have k30_ : (w7 134 18).toInt = (w5 134 18).toInt := by rw [ew7, wu_ne (by omega)]
                have h31_ : ((4 : Int) = 4 → -1 ≤ (w7 146 4).toInt ∧ (w7 146 4).toInt ≤ 6 * g 0 - 1) ∧ ((4 : Int) = 6 → -1 ≤ (w7 146 4).toInt ∧ (w7 146 4).toInt ≤ 7) := ia_146 (j := 4) hIw7
                have h32_ : ((4 : Int) = 4 → -1 ≤ (w5 146 4).toInt ∧ (w5 146 4).toInt ≤ 6 * g 0 - 1) ∧ ((4 : Int) = 6 → -1 ≤ (w5 146 4).toInt ∧ (w5 146 4).toInt ≤ 7) := ia_146 (j := 4) hIw5
                have k33_ : (w5 146 4).toInt = (s9.2 146 4).toInt := by rw [ew5, wu_ne (by omega)]
                have k34_ : (w7 146 4).toInt = (w5 146 4).toInt := by rw [ew7, wu_ne (by omega)]
                exact sf_some (show ((Inv g w7) ∧ (0 ≤ (s9.1 + (1 : Int32)).toInt) ∧ ((s9.1 + (1 : Int32)).toInt ≤ 6) ∧ ((w7 134 18).toInt = (s2.2 134 18).toInt) ∧ ((w7 146 4).toInt = (w 146 4).toInt)) ∧ (7 - (s9.1 + (1 : Int32)).toInt).toNat < (7 - s9.1.toInt).toNat from ⟨⟨hIw7, by omega, by omega, by omega, by omega⟩, by omega⟩)
        · have rc10_ : ¬ s9.1.toInt < (s9.2 134 18).toInt := by rw [Int32.lt_iff_toInt_lt] at c10_; omega
          exact sf_some (show (Inv g s9.2) ∧ ((s9.2 134 18).toInt = (s2.2 134 18).toInt) ∧ ((s9.2 146 4).toInt = (w 146 4).toInt) from ⟨hIs9, by omega, by omega⟩)
      · obtain ⟨hIv12, hvv12_1, hvv12_2⟩ := hvv12
        have h35_ : 0 ≤ (v12 134 18).toInt ∧ (v12 134 18).toInt ≤ 6 * g 0 := iv_134_18 hIv12
        have h36_ : ((4 : Int) = 4 → -1 ≤ (v12 146 4).toInt ∧ (v12 146 4).toInt ≤ 6 * g 0 - 1) ∧ ((4 : Int) = 6 → -1 ≤ (v12 146 4).toInt ∧ (v12 146 4).toInt ≤ 7) := ia_146 (j := 4) hIv12
        refine sf_rd (by omega) (by omega) (fun x13 ex13 => ?_)
        have zz37_l : -2147483648 ≤ (v12 146 0).toInt := Int32.le_toInt (v12 146 0)
        have zz37_h : (v12 146 0).toInt ≤ 2147483647 := Int32.toInt_le (v12 146 0)
        have fx13 : x13.toInt = (v12 146 0).toInt := by rw [ex13, show (0 : Int32).toNatClampNeg = 0 by decide]
        have zz38_l : -2147483648 ≤ x13.toInt := Int32.le_toInt x13
        have zz38_h : x13.toInt ≤ 2147483647 := Int32.toInt_le x13
        have l_1 : (1 : Int32).toInt = 1 := by decide
        refine sf_wr (by omega) (by omega) (fun w14 ew14 => ?_)
        have n39_ : ((0 : Int32).toNatClampNeg : Int) = (0 : Int32).toInt := i_clq (by omega)
        have hIw14 : Inv g w14 := by rw [ew14]; exact ua_146 hIv12 (by omega) (by omega) (show ((0 : Int32).toInt = 4 → -1 ≤ (x13 + (1 : Int32)).toInt ∧ (x13 + (1 : Int32)).toInt ≤ 6 * g 0 - 1) ∧ ((0 : Int32).toInt = 6 → -1 ≤ (x13 + (1 : Int32)).toInt ∧ (x13 + (1 : Int32)).toInt ≤ 7) from by omega)
        have e40_ : (s2.1 + (1 : Int32)).toInt = s2.1.toInt + (1 : Int32).toInt := i_add (by omega) (by omega)
        have h41_ : 0 ≤ (w14 134 18).toInt ∧ (w14 134 18).toInt ≤ 6 * g 0 := iv_134_18 hIw14
        have k42_ : (w14 134 18).toInt = (v12 134 18).toInt := by rw [ew14, wu_ne (by omega)]
        have h43_ : ((4 : Int) = 4 → -1 ≤ (w14 146 4).toInt ∧ (w14 146 4).toInt ≤ 6 * g 0 - 1) ∧ ((4 : Int) = 6 → -1 ≤ (w14 146 4).toInt ∧ (w14 146 4).toInt ≤ 7) := ia_146 (j := 4) hIw14
        have k44_ : (w14 146 4).toInt = (v12 146 4).toInt := by rw [ew14, wu_ne (by omega)]
        exact sf_some (show ((Inv g w14) ∧ (0 ≤ (s2.1 + (1 : Int32)).toInt) ∧ ((w14 134 18).toInt = (w 134 18).toInt) ∧ ((w14 146 4).toInt = (w 146 4).toInt)) ∧ (a1.toInt - (s2.1 + (1 : Int32)).toInt).toNat < (a1.toInt - s2.1.toInt).toNat from ⟨⟨hIw14, by omega, by omega, by omega⟩, by omega⟩)
    · have rc7_ : ¬ s2.1.toInt < a1.toInt := by rw [Int32.lt_iff_toInt_lt] at c7_; omega
      exact sf_some (show (Inv g s2.2) ∧ ((s2.2 134 18).toInt = (w 134 18).toInt) ∧ ((s2.2 146 4).toInt = (w 146 4).toInt) from ⟨hIs2, by omega, by omega⟩)
  · obtain ⟨hIv15, hvv15_1, hvv15_2⟩ := hvv15
    have h45_ : 0 ≤ (w 134 18).toInt ∧ (w 134 18).toInt ≤ 6 * g 0 := iv_134_18 hI
    have h46_ : 0 ≤ (v15 134 18).toInt ∧ (v15 134 18).toInt ≤ 6 * g 0 := iv_134_18 hIv15
    have h47_ : ((4 : Int) = 4 → -1 ≤ (v15 146 4).toInt ∧ (v15 146 4).toInt ≤ 6 * g 0 - 1) ∧ ((4 : Int) = 6 → -1 ≤ (v15 146 4).toInt ∧ (v15 146 4).toInt ≤ 7) := ia_146 (j := 4) hIv15
    have h48_ : ((4 : Int) = 4 → -1 ≤ (w 146 4).toInt ∧ (w 146 4).toInt ≤ 6 * g 0 - 1) ∧ ((4 : Int) = 6 → -1 ≤ (w 146 4).toInt ∧ (w 146 4).toInt ≤ 7) := ia_146 (j := 4) hI
    exact sf_some (show (Inv g v15) ∧ ((v15 146 4).toInt = (w 146 4).toInt) from ⟨hIv15, by omega⟩)
set_option maxRecDepth 20000 in
set_option maxHeartbeats 2000000 in
theorem sf_X10_rises {g : Nat → Int} (w : Mem) (hI : Inv g w) (pre0 : 0 ≤ (w 146 4).toInt) : Sf (fun (q : Int32 × Mem) => (Inv g q.2)) (f_X10_rises w) := by
  obtain ⟨hg0, hg1⟩ := hI.1
  have h1_ : ((4 : Int) = 4 → -1 ≤ (w 146 4).toInt ∧ (w 146 4).toInt ≤ 6 * g 0 - 1) ∧ ((4 : Int) = 6 → -1 ≤ (w 146 4).toInt ∧ (w 146 4).toInt ≤ 7) := ia_146 (j := 4) hI
  unfold f_X10_rises
  have l_4 : (4 : Int32).toInt = 4 := by decide
  refine sf_rd (by omega) (by omega) (fun x1 ex1 => ?_)
  have fx1 : x1.toInt = (w 146 4).toInt := by rw [ex1, show (4 : Int32).toNatClampNeg = 4 by decide]
  have l_13 : (13 : Int32).toInt = 13 := by decide
  have e2_ : ((13 : Int32) + x1).toInt = (13 : Int32).toInt + x1.toInt := i_add (by omega) (by omega)
  refine sf_rd (by omega) (by omega) (fun x2 ex2 => ?_)
  have zz3_l : -2147483648 ≤ x2.toInt := Int32.le_toInt x2
  have zz3_h : x2.toInt ≤ 2147483647 := Int32.toInt_le x2
  refine sf_bind (sf_X10_payFor x2 w hI (by omega)) (fun r3 hqr3 hpr3 => ?_)
  have l_2 : (2 : Int32).toInt = 2 := by decide
  refine sf_rd (by omega) (by omega) (fun x4 ex4 => ?_)
  have zz4_l : -2147483648 ≤ (w 146 2).toInt := Int32.le_toInt (w 146 2)
  have zz4_h : (w 146 2).toInt ≤ 2147483647 := Int32.toInt_le (w 146 2)
  have fx4 : x4.toInt = (w 146 2).toInt := by rw [ex4, show (2 : Int32).toNatClampNeg = 2 by decide]
  refine sf_bind (Q := fun (v5 : Int32) => (True)) ?_ (fun v5 hqv5 hvv5 => ?_)
  · have l_999999 : (999999 : Int32).toInt = 999999 := by decide
    have zz5_l : -2147483648 ≤ x4.toInt := Int32.le_toInt x4
    have zz5_h : x4.toInt ≤ 2147483647 := Int32.toInt_le x4
    have zz6_l : -2147483648 ≤ r3.toInt := Int32.le_toInt r3
    have zz6_h : r3.toInt ≤ 2147483647 := Int32.toInt_le r3
    refine sf_ite (fun c7_ => ?_) (fun c7_ => ?_)
    · have rc7_ : 999999 < (x4 + r3).toInt := by rw [Int32.lt_iff_toInt_lt] at c7_; omega
      exact sf_some (show (True) from trivial)
    · have rc7_ : ¬ 999999 < (x4 + r3).toInt := by rw [Int32.lt_iff_toInt_lt] at c7_; omega
      refine sf_rd (by omega) (by omega) (fun x18 ex18 => ?_)
      have fx18 : x18.toInt = (w 146 2).toInt := by rw [ex18, show (2 : Int32).toNatClampNeg = 2 by decide]
      have zz8_l : -2147483648 ≤ x18.toInt := Int32.le_toInt x18
      have zz8_h : x18.toInt ≤ 2147483647 := Int32.toInt_le x18
      exact sf_some (show (True) from trivial)
  · have hvv5_0 := hvv5
    have zz9_l : -2147483648 ≤ v5.toInt := Int32.le_toInt v5
    have zz9_h : v5.toInt ≤ 2147483647 := Int32.toInt_le v5
    refine sf_wr (by omega) (by omega) (fun w6 ew6 => ?_)
    have n10_ : ((2 : Int32).toNatClampNeg : Int) = (2 : Int32).toInt := i_clq (by omega)
    have hIw6 : Inv g w6 := by rw [ew6]; exact ua_146 hI (by omega) (by omega) (show ((2 : Int32).toInt = 4 → -1 ≤ v5.toInt ∧ v5.toInt ≤ 6 * g 0 - 1) ∧ ((2 : Int32).toInt = 6 → -1 ≤ v5.toInt ∧ v5.toInt ≤ 7) from by omega)
    have l_7 : (7 : Int32).toInt = 7 := by decide
    have e11_ : ((7 : Int32) + x1).toInt = (7 : Int32).toInt + x1.toInt := i_add (by omega) (by omega)
    refine sf_wr (by omega) (by omega) (fun w7 ew7 => ?_)
    have n12_ : (((7 : Int32) + x1).toNatClampNeg : Int) = ((7 : Int32) + x1).toInt := i_clq (by omega)
    have hIw7 : Inv g w7 := by rw [ew7]; exact ua_146 hIw6 (by omega) (by omega) (show (((7 : Int32) + x1).toInt = 4 → -1 ≤ (2 : Int32).toInt ∧ (2 : Int32).toInt ≤ 6 * g 0 - 1) ∧ (((7 : Int32) + x1).toInt = 6 → -1 ≤ (2 : Int32).toInt ∧ (2 : Int32).toInt ≤ 7) from by omega)
    have l_m1 : (-1 : Int32).toInt = -1 := by decide
    refine sf_wr (by omega) (by omega) (fun w8 ew8 => ?_)
    have n13_ : ((4 : Int32).toNatClampNeg : Int) = (4 : Int32).toInt := i_clq (by omega)
    have hIw8 : Inv g w8 := by rw [ew8]; exact ua_146 hIw7 (by omega) (by omega) (show ((4 : Int32).toInt = 4 → -1 ≤ (-1 : Int32).toInt ∧ (-1 : Int32).toInt ≤ 6 * g 0 - 1) ∧ ((4 : Int32).toInt = 6 → -1 ≤ (-1 : Int32).toInt ∧ (-1 : Int32).toInt ≤ 7) from by omega)
    have l_5 : (5 : Int32).toInt = 5 := by decide
    have l_0 : (0 : Int32).toInt = 0 := by decide
    refine sf_wr (by omega) (by omega) (fun w9 ew9 => ?_)
    have n14_ : ((5 : Int32).toNatClampNeg : Int) = (5 : Int32).toInt := i_clq (by omega)
    have hIw9 : Inv g w9 := by rw [ew9]; exact ua_146 hIw8 (by omega) (by omega) (show ((5 : Int32).toInt = 4 → -1 ≤ (0 : Int32).toInt ∧ (0 : Int32).toInt ≤ 6 * g 0 - 1) ∧ ((5 : Int32).toInt = 6 → -1 ≤ (0 : Int32).toInt ∧ (0 : Int32).toInt ≤ 7) from by omega)
    have l_6 : (6 : Int32).toInt = 6 := by decide
    refine sf_wr (by omega) (by omega) (fun w10 ew10 => ?_)
    have n15_ : ((6 : Int32).toNatClampNeg : Int) = (6 : Int32).toInt := i_clq (by omega)
    have hIw10 : Inv g w10 := by rw [ew10]; exact ua_146 hIw9 (by omega) (by omega) (show ((6 : Int32).toInt = 4 → -1 ≤ (-1 : Int32).toInt ∧ (-1 : Int32).toInt ≤ 6 * g 0 - 1) ∧ ((6 : Int32).toInt = 6 → -1 ≤ (-1 : Int32).toInt ∧ (-1 : Int32).toInt ≤ 7) from by omega)
    refine sf_rd (by omega) (by omega) (fun x11 ex11 => ?_)
    have l_3 : (3 : Int32).toInt = 3 := by decide
    refine sf_rd (by omega) (by omega) (fun x12 ex12 => ?_)
    have zz16_l : -2147483648 ≤ (w 146 3).toInt := Int32.le_toInt (w 146 3)
    have zz16_h : (w 146 3).toInt ≤ 2147483647 := Int32.toInt_le (w 146 3)
    have k17_ : (w6 146 3).toInt = (w 146 3).toInt := by rw [ew6, wu_ne (by omega)]
    have zz18_l : -2147483648 ≤ (w6 146 3).toInt := Int32.le_toInt (w6 146 3)
    have zz18_h : (w6 146 3).toInt ≤ 2147483647 := Int32.toInt_le (w6 146 3)
    have k19_ : (w7 146 3).toInt = (w6 146 3).toInt := by rw [ew7, wu_ne (by omega)]
    have zz20_l : -2147483648 ≤ (w7 146 3).toInt := Int32.le_toInt (w7 146 3)
    have zz20_h : (w7 146 3).toInt ≤ 2147483647 := Int32.toInt_le (w7 146 3)
    have k21_ : (w8 146 3).toInt = (w7 146 3).toInt := by rw [ew8, wu_ne (by omega)]
    have zz22_l : -2147483648 ≤ (w8 146 3).toInt := Int32.le_toInt (w8 146 3)
    have zz22_h : (w8 146 3).toInt ≤ 2147483647 := Int32.toInt_le (w8 146 3)
    have k23_ : (w9 146 3).toInt = (w8 146 3).toInt := by rw [ew9, wu_ne (by omega)]
    have zz24_l : -2147483648 ≤ (w9 146 3).toInt := Int32.le_toInt (w9 146 3)
    have zz24_h : (w9 146 3).toInt ≤ 2147483647 := Int32.toInt_le (w9 146 3)
    have k25_ : (w10 146 3).toInt = (w9 146 3).toInt := by rw [ew10, wu_ne (by omega)]
    have zz26_l : -2147483648 ≤ (w10 146 3).toInt := Int32.le_toInt (w10 146 3)
    have zz26_h : (w10 146 3).toInt ≤ 2147483647 := Int32.toInt_le (w10 146 3)
    have fx12 : x12.toInt = (w10 146 3).toInt := by rw [ex12, show (3 : Int32).toNatClampNeg = 3 by decide]
    refine sf_lt (fun t13 et13 => ?_)
    have zz28_l : -2147483648 ≤ t13.toInt := Int32.le_toInt t13
    have zz28_h : t13.toInt ≤ 2147483647 := Int32.toInt_le t13
    refine sf_rd (by omega) (by omega) (fun x14 ex14 => ?_)
    have fx14 : x14.toInt = (w10 146 3).toInt := by rw [ex14, show (3 : Int32).toNatClampNeg = 3 by decide]
    refine sf_rd (by omega) (by omega) (fun x15 ex15 => ?_)
    refine sf_bind (Q := fun (v16 : Int32) => (True)) ?_ (fun v16 hqv16 hvv16 => ?_)
    · have zz29_l : -2147483648 ≤ x15.toInt := Int32.le_toInt x15
      have zz29_h : x15.toInt ≤ 2147483647 := Int32.toInt_le x15
      refine sf_ite (fun c30_ => ?_) (fun c30_ => ?_)
      · have rc30_ : x15.toInt = 3 := by rw [i_eq_iff] at c30_; omega
        exact sf_some (show (True) from trivial)
      · have rc30_ : ¬ x15.toInt = 3 := by rw [i_eq_iff] at c30_; omega
        exact sf_some (show (True) from trivial)
    · have hvv16_0 := hvv16
      have zz31_l : -2147483648 ≤ x14.toInt := Int32.le_toInt x14
      have zz31_h : x14.toInt ≤ 2147483647 := Int32.toInt_le x14
      have zz32_l : -2147483648 ≤ v16.toInt := Int32.le_toInt v16
      have zz32_h : v16.toInt ≤ 2147483647 := Int32.toInt_le v16
      refine sf_wr (by omega) (by omega) (fun w17 ew17 => ?_)
      have n33_ : ((3 : Int32).toNatClampNeg : Int) = (3 : Int32).toInt := i_clq (by omega)
      have hIw17 : Inv g w17 := by rw [ew17]; exact ua_146 hIw10 (by omega) (by omega) (show ((3 : Int32).toInt = 4 → -1 ≤ (x14 ||| v16).toInt ∧ (x14 ||| v16).toInt ≤ 6 * g 0 - 1) ∧ ((3 : Int32).toInt = 6 → -1 ≤ (x14 ||| v16).toInt ∧ (x14 ||| v16).toInt ≤ 7) from by omega)
      have zz34_l : -2147483648 ≤ r3.toInt := Int32.le_toInt r3
      have zz34_h : r3.toInt ≤ 2147483647 := Int32.toInt_le r3
      exact sf_some (show (Inv g w17) from hIw17)
set_option maxRecDepth 20000 in
set_option maxHeartbeats 2000000 in
theorem sf_X10_tells {g : Nat → Int} (a1 : Int32) (w : Mem) (hI : Inv g w) (pre0 : 0 ≤ a1.toInt) (pre1 : a1.toInt ≤ 7) (pre2 : 0 ≤ (w 146 4).toInt) : Sf (fun (q : Int32 × Mem) => (Inv g q.2)) (f_X10_tells a1 w) := by
  obtain ⟨hg0, hg1⟩ := hI.1
  have h1_ : ((4 : Int) = 4 → -1 ≤ (w 146 4).toInt ∧ (w 146 4).toInt ≤ 6 * g 0 - 1) ∧ ((4 : Int) = 6 → -1 ≤ (w 146 4).toInt ∧ (w 146 4).toInt ≤ 7) := ia_146 (j := 4) hI
  unfold f_X10_tells
  have l_4 : (4 : Int32).toInt = 4 := by decide
  refine sf_rd (by omega) (by omega) (fun x1 ex1 => ?_)
  have fx1 : x1.toInt = (w 146 4).toInt := by rw [ex1, show (4 : Int32).toNatClampNeg = 4 by decide]
  have l_6 : (6 : Int32).toInt = 6 := by decide
  refine sf_rd (by omega) (by omega) (fun x2 ex2 => ?_)
  have h2_ : ((6 : Int) = 4 → -1 ≤ (w 146 6).toInt ∧ (w 146 6).toInt ≤ 6 * g 0 - 1) ∧ ((6 : Int) = 6 → -1 ≤ (w 146 6).toInt ∧ (w 146 6).toInt ≤ 7) := ia_146 (j := 6) hI
  have fx2 : x2.toInt = (w 146 6).toInt := by rw [ex2, show (6 : Int32).toNatClampNeg = 6 by decide]
  have l_m1 : (-1 : Int32).toInt = -1 := by decide
  refine sf_ite (fun c3_ => ?_) (fun c3_ => ?_)
  · have rc3_ : x2.toInt = -1 := by rw [i_eq_iff] at c3_; omega
    refine sf_bind (sf_X10_stayOf x1 a1 w hI (by omega) (by omega) (by omega) (by omega)) (fun r3 hqr3 hpr3 => ?_)
    have l_5 : (5 : Int32).toInt = 5 := by decide
    refine sf_rd (by omega) (by omega) (fun x4 ex4 => ?_)
    have zz4_l : -2147483648 ≤ (w 146 5).toInt := Int32.le_toInt (w 146 5)
    have zz4_h : (w 146 5).toInt ≤ 2147483647 := Int32.toInt_le (w 146 5)
    have fx4 : x4.toInt = (w 146 5).toInt := by rw [ex4, show (5 : Int32).toNatClampNeg = 5 by decide]
    have zz5_l : -2147483648 ≤ x4.toInt := Int32.le_toInt x4
    have zz5_h : x4.toInt ≤ 2147483647 := Int32.toInt_le x4
    have l_1 : (1 : Int32).toInt = 1 := by decide
    have e6_ : 1 ≤ ((1 : Int32) <<< (a1 &&& 31)).toInt ∧ ((1 : Int32) <<< (a1 &&& 31)).toInt ≤ 128 := i_shl1 (k := 7) (by decide) (by omega) (show _ ≤ 7 from by omega)
    refine sf_wr (by omega) (by omega) (fun w5 ew5 => ?_)
    have n7_ : ((5 : Int32).toNatClampNeg : Int) = (5 : Int32).toInt := i_clq (by omega)
    have hIw5 : Inv g w5 := by rw [ew5]; exact ua_146 hI (by omega) (by omega) (show ((5 : Int32).toInt = 4 → -1 ≤ (x4 ||| ((1 : Int32) <<< (a1 &&& 31))).toInt ∧ (x4 ||| ((1 : Int32) <<< (a1 &&& 31))).toInt ≤ 6 * g 0 - 1) ∧ ((5 : Int32).toInt = 6 → -1 ≤ (x4 ||| ((1 : Int32) <<< (a1 &&& 31))).toInt ∧ (x4 ||| ((1 : Int32) <<< (a1 &&& 31))).toInt ≤ 7) from by omega)
    refine sf_wr (by omega) (by omega) (fun w6 ew6 => ?_)
    have n8_ : ((6 : Int32).toNatClampNeg : Int) = (6 : Int32).toInt := i_clq (by omega)
    have hIw6 : Inv g w6 := by rw [ew6]; exact ua_146 hIw5 (by omega) (by omega) (show ((6 : Int32).toInt = 4 → -1 ≤ a1.toInt ∧ a1.toInt ≤ 6 * g 0 - 1) ∧ ((6 : Int32).toInt = 6 → -1 ≤ a1.toInt ∧ a1.toInt ≤ 7) from by omega)
    have l_13 : (13 : Int32).toInt = 13 := by decide
    have e9_ : ((13 : Int32) + x1).toInt = (13 : Int32).toInt + x1.toInt := i_add (by omega) (by omega)
    refine sf_rd (by omega) (by omega) (fun x7 ex7 => ?_)
    have zz10_l : -2147483648 ≤ x7.toInt := Int32.le_toInt x7
    have zz10_h : x7.toInt ≤ 2147483647 := Int32.toInt_le x7
    have zz11_l : -2147483648 ≤ r3.toInt := Int32.le_toInt r3
    have zz11_h : r3.toInt ≤ 2147483647 := Int32.toInt_le r3
    refine sf_wr (by omega) (by omega) (fun w8 ew8 => ?_)
    have n12_ : (((13 : Int32) + x1).toNatClampNeg : Int) = ((13 : Int32) + x1).toInt := i_clq (by omega)
    have hIw8 : Inv g w8 := by rw [ew8]; exact ua_146 hIw6 (by omega) (by omega) (show (((13 : Int32) + x1).toInt = 4 → -1 ≤ (x7 + r3).toInt ∧ (x7 + r3).toInt ≤ 6 * g 0 - 1) ∧ (((13 : Int32) + x1).toInt = 6 → -1 ≤ (x7 + r3).toInt ∧ (x7 + r3).toInt ≤ 7) from by omega)
    refine sf_bind (sf_X10_passes r3 w8 hIw8) (fun w9 hqw9 hpw9 => ?_)
    obtain ⟨hIw9, hpw9_0⟩ := hpw9
    have h13_ : ((4 : Int) = 4 → -1 ≤ (w9 146 4).toInt ∧ (w9 146 4).toInt ≤ 6 * g 0 - 1) ∧ ((4 : Int) = 6 → -1 ≤ (w9 146 4).toInt ∧ (w9 146 4).toInt ≤ 7) := ia_146 (j := 4) hIw9
    have h14_ : ((4 : Int) = 4 → -1 ≤ (w8 146 4).toInt ∧ (w8 146 4).toInt ≤ 6 * g 0 - 1) ∧ ((4 : Int) = 6 → -1 ≤ (w8 146 4).toInt ∧ (w8 146 4).toInt ≤ 7) := ia_146 (j := 4) hIw8
    have h15_ : ((4 : Int) = 4 → -1 ≤ (w6 146 4).toInt ∧ (w6 146 4).toInt ≤ 6 * g 0 - 1) ∧ ((4 : Int) = 6 → -1 ≤ (w6 146 4).toInt ∧ (w6 146 4).toInt ≤ 7) := ia_146 (j := 4) hIw6
    have h16_ : ((4 : Int) = 4 → -1 ≤ (w5 146 4).toInt ∧ (w5 146 4).toInt ≤ 6 * g 0 - 1) ∧ ((4 : Int) = 6 → -1 ≤ (w5 146 4).toInt ∧ (w5 146 4).toInt ≤ 7) := ia_146 (j := 4) hIw5
    have k17_ : (w5 146 4).toInt = (w 146 4).toInt := by rw [ew5, wu_ne (by omega)]
    have k18_ : (w6 146 4).toInt = (w5 146 4).toInt := by rw [ew6, wu_ne (by omega)]
    have k19_ : (w8 146 4).toInt = (w6 146 4).toInt := by rw [ew8, wu_ne (by omega)]
    exact sf_some (show (Inv g w9) from hIw9)
  · have rc3_ : ¬ x2.toInt = -1 := by rw [i_eq_iff] at c3_; omega
    refine sf_rd (by omega) (by omega) (fun x10 ex10 => ?_)
    have fx10 : x10.toInt = (w 146 6).toInt := by rw [ex10, show (6 : Int32).toNatClampNeg = 6 by decide]
    refine sf_rd (by omega) (by omega) (fun x11 ex11 => ?_)
    have zz20_l : -2147483648 ≤ x11.toInt := Int32.le_toInt x11
    have zz20_h : x11.toInt ≤ 2147483647 := Int32.toInt_le x11
    refine sf_bind (sf_X10_has x11 a1) (fun r12 hqr12 hpr12 => ?_)
    obtain ⟨hpr12_0, hpr12_1⟩ := hpr12
    have l_0 : (0 : Int32).toInt = 0 := by decide
    refine sf_ite (fun c21_ => ?_) (fun c21_ => ?_)
    · have rc21_ : r12.toInt = 0 := by rw [i_eq_iff] at c21_; omega
      refine sf_bind (sf_X10_rises  w hI (by omega)) (fun q20 hqq20 hpq20 => ?_)
      have hIq20 := hpq20
      exact sf_some (show (Inv g q20.2) from hIq20)
    · have rc21_ : ¬ r12.toInt = 0 := by rw [i_eq_iff] at c21_; omega
      refine sf_bind (sf_X10_stayOf x1 a1 w hI (by omega) (by omega) (by omega) (by omega)) (fun r13 hqr13 hpr13 => ?_)
      have l_5 : (5 : Int32).toInt = 5 := by decide
      refine sf_rd (by omega) (by omega) (fun x14 ex14 => ?_)
      have zz22_l : -2147483648 ≤ (w 146 5).toInt := Int32.le_toInt (w 146 5)
      have zz22_h : (w 146 5).toInt ≤ 2147483647 := Int32.toInt_le (w 146 5)
      have fx14 : x14.toInt = (w 146 5).toInt := by rw [ex14, show (5 : Int32).toNatClampNeg = 5 by decide]
      have zz23_l : -2147483648 ≤ x14.toInt := Int32.le_toInt x14
      have zz23_h : x14.toInt ≤ 2147483647 := Int32.toInt_le x14
      have l_1 : (1 : Int32).toInt = 1 := by decide
      have e24_ : 1 ≤ ((1 : Int32) <<< (a1 &&& 31)).toInt ∧ ((1 : Int32) <<< (a1 &&& 31)).toInt ≤ 128 := i_shl1 (k := 7) (by decide) (by omega) (show _ ≤ 7 from by omega)
      refine sf_wr (by omega) (by omega) (fun w15 ew15 => ?_)
      have n25_ : ((5 : Int32).toNatClampNeg : Int) = (5 : Int32).toInt := i_clq (by omega)
      have hIw15 : Inv g w15 := by rw [ew15]; exact ua_146 hI (by omega) (by omega) (show ((5 : Int32).toInt = 4 → -1 ≤ (x14 ||| ((1 : Int32) <<< (a1 &&& 31))).toInt ∧ (x14 ||| ((1 : Int32) <<< (a1 &&& 31))).toInt ≤ 6 * g 0 - 1) ∧ ((5 : Int32).toInt = 6 → -1 ≤ (x14 ||| ((1 : Int32) <<< (a1 &&& 31))).toInt ∧ (x14 ||| ((1 : Int32) <<< (a1 &&& 31))).toInt ≤ 7) from by omega)
      refine sf_wr (by omega) (by omega) (fun w16 ew16 => ?_)
      have n26_ : ((6 : Int32).toNatClampNeg : Int) = (6 : Int32).toInt := i_clq (by omega)
      have hIw16 : Inv g w16 := by rw [ew16]; exact ua_146 hIw15 (by omega) (by omega) (show ((6 : Int32).toInt = 4 → -1 ≤ a1.toInt ∧ a1.toInt ≤ 6 * g 0 - 1) ∧ ((6 : Int32).toInt = 6 → -1 ≤ a1.toInt ∧ a1.toInt ≤ 7) from by omega)
      have l_13 : (13 : Int32).toInt = 13 := by decide
      have e27_ : ((13 : Int32) + x1).toInt = (13 : Int32).toInt + x1.toInt := i_add (by omega) (by omega)
      refine sf_rd (by omega) (by omega) (fun x17 ex17 => ?_)
      have zz28_l : -2147483648 ≤ x17.toInt := Int32.le_toInt x17
      have zz28_h : x17.toInt ≤ 2147483647 := Int32.toInt_le x17
      have zz29_l : -2147483648 ≤ r13.toInt := Int32.le_toInt r13
      have zz29_h : r13.toInt ≤ 2147483647 := Int32.toInt_le r13
      refine sf_wr (by omega) (by omega) (fun w18 ew18 => ?_)
      have n30_ : (((13 : Int32) + x1).toNatClampNeg : Int) = ((13 : Int32) + x1).toInt := i_clq (by omega)
      have hIw18 : Inv g w18 := by rw [ew18]; exact ua_146 hIw16 (by omega) (by omega) (show (((13 : Int32) + x1).toInt = 4 → -1 ≤ (x17 + r13).toInt ∧ (x17 + r13).toInt ≤ 6 * g 0 - 1) ∧ (((13 : Int32) + x1).toInt = 6 → -1 ≤ (x17 + r13).toInt ∧ (x17 + r13).toInt ≤ 7) from by omega)
      refine sf_bind (sf_X10_passes r13 w18 hIw18) (fun w19 hqw19 hpw19 => ?_)
      obtain ⟨hIw19, hpw19_0⟩ := hpw19
      have h31_ : ((4 : Int) = 4 → -1 ≤ (w19 146 4).toInt ∧ (w19 146 4).toInt ≤ 6 * g 0 - 1) ∧ ((4 : Int) = 6 → -1 ≤ (w19 146 4).toInt ∧ (w19 146 4).toInt ≤ 7) := ia_146 (j := 4) hIw19
      have h32_ : ((4 : Int) = 4 → -1 ≤ (w18 146 4).toInt ∧ (w18 146 4).toInt ≤ 6 * g 0 - 1) ∧ ((4 : Int) = 6 → -1 ≤ (w18 146 4).toInt ∧ (w18 146 4).toInt ≤ 7) := ia_146 (j := 4) hIw18
      have h33_ : ((4 : Int) = 4 → -1 ≤ (w16 146 4).toInt ∧ (w16 146 4).toInt ≤ 6 * g 0 - 1) ∧ ((4 : Int) = 6 → -1 ≤ (w16 146 4).toInt ∧ (w16 146 4).toInt ≤ 7) := ia_146 (j := 4) hIw16
      have h34_ : ((4 : Int) = 4 → -1 ≤ (w15 146 4).toInt ∧ (w15 146 4).toInt ≤ 6 * g 0 - 1) ∧ ((4 : Int) = 6 → -1 ≤ (w15 146 4).toInt ∧ (w15 146 4).toInt ≤ 7) := ia_146 (j := 4) hIw15
      have k35_ : (w15 146 4).toInt = (w 146 4).toInt := by rw [ew15, wu_ne (by omega)]
      have k36_ : (w16 146 4).toInt = (w15 146 4).toInt := by rw [ew16, wu_ne (by omega)]
      have k37_ : (w18 146 4).toInt = (w16 146 4).toInt := by rw [ew18, wu_ne (by omega)]
      exact sf_some (show (Inv g w19) from hIw19)
set_option maxRecDepth 20000 in
set_option maxHeartbeats 2000000 in
theorem sf_X10_tell {g : Nat → Int} (a1 : Int32) (w : Mem) (hI : Inv g w) : Sf (fun (q : Int32 × Mem) => (Inv g q.2)) (f_X10_tell a1 w) := by
  obtain ⟨hg0, hg1⟩ := hI.1
  unfold f_X10_tell
  have zz1_l : -2147483648 ≤ a1.toInt := Int32.le_toInt a1
  have zz1_h : a1.toInt ≤ 2147483647 := Int32.toInt_le a1
  refine sf_bind (sf_X10_isMatter a1 w hI) (fun r1 hqr1 hpr1 => ?_)
  obtain ⟨hpr1_0, hpr1_1⟩ := hpr1
  have l_0 : (0 : Int32).toInt = 0 := by decide
  refine sf_ite (fun c2_ => ?_) (fun c2_ => ?_)
  · have rc2_ : r1.toInt = 0 := by rw [i_eq_iff] at c2_; omega
    have l_m1000000001 : (-1000000001 : Int32).toInt = -1000000001 := by decide
    exact sf_some (show (Inv g w) from hI)
  · have rc2_ : ¬ r1.toInt = 0 := by rw [i_eq_iff] at c2_; omega
    refine sf_bind (sf_X10_isTellable a1 w hI) (fun r2 hqr2 hpr2 => ?_)
    obtain ⟨hpr2_0, hpr2_1⟩ := hpr2
    have h3_ : ((4 : Int) = 4 → -1 ≤ (w 146 4).toInt ∧ (w 146 4).toInt ≤ 6 * g 0 - 1) ∧ ((4 : Int) = 6 → -1 ≤ (w 146 4).toInt ∧ (w 146 4).toInt ≤ 7) := ia_146 (j := 4) hI
    refine sf_ite (fun c4_ => ?_) (fun c4_ => ?_)
    · have rc4_ : r2.toInt = 0 := by rw [i_eq_iff] at c4_; omega
      have l_m1000000003 : (-1000000003 : Int32).toInt = -1000000003 := by decide
      exact sf_some (show (Inv g w) from hI)
    · have rc4_ : ¬ r2.toInt = 0 := by rw [i_eq_iff] at c4_; omega
      refine sf_bind (sf_X10_remember  w hI (by omega)) (fun w3 hqw3 hpw3 => ?_)
      obtain ⟨hIw3, hpw3_0⟩ := hpw3
      have h5_ : ((4 : Int) = 4 → -1 ≤ (w3 146 4).toInt ∧ (w3 146 4).toInt ≤ 6 * g 0 - 1) ∧ ((4 : Int) = 6 → -1 ≤ (w3 146 4).toInt ∧ (w3 146 4).toInt ≤ 7) := ia_146 (j := 4) hIw3
      have k6_ : (w3 146 4).toInt = (w 146 4).toInt := congrArg Int32.toInt (fr_X10_remember  w w3 hqw3 146 4 (by omega))
      refine sf_bind (sf_X10_tells a1 w3 hIw3 (by omega) (by omega) (by omega)) (fun q4 hqq4 hpq4 => ?_)
      have hIq4 := hpq4
      have zz7_l : -2147483648 ≤ q4.1.toInt := Int32.le_toInt q4.1
      have zz7_h : q4.1.toInt ≤ 2147483647 := Int32.toInt_le q4.1
      exact sf_some (show (Inv g q4.2) from hIq4)
set_option maxRecDepth 20000 in
set_option maxHeartbeats 2000000 in
theorem sf_X10_rise {g : Nat → Int} (w : Mem) (hI : Inv g w) : Sf (fun (q : Int32 × Mem) => (Inv g q.2)) (f_X10_rise w) := by
  obtain ⟨hg0, hg1⟩ := hI.1
  unfold f_X10_rise
  have l_4 : (4 : Int32).toInt = 4 := by decide
  refine sf_rd (by omega) (by omega) (fun x1 ex1 => ?_)
  have h1_ : ((4 : Int) = 4 → -1 ≤ (w 146 4).toInt ∧ (w 146 4).toInt ≤ 6 * g 0 - 1) ∧ ((4 : Int) = 6 → -1 ≤ (w 146 4).toInt ∧ (w 146 4).toInt ≤ 7) := ia_146 (j := 4) hI
  have fx1 : x1.toInt = (w 146 4).toInt := by rw [ex1, show (4 : Int32).toNatClampNeg = 4 by decide]
  have l_m1 : (-1 : Int32).toInt = -1 := by decide
  refine sf_ite (fun c2_ => ?_) (fun c2_ => ?_)
  · have rc2_ : x1.toInt = -1 := by rw [i_eq_iff] at c2_; omega
    have l_m1000000003 : (-1000000003 : Int32).toInt = -1000000003 := by decide
    exact sf_some (show (Inv g w) from hI)
  · have rc2_ : ¬ x1.toInt = -1 := by rw [i_eq_iff] at c2_; omega
    refine sf_bind (sf_X10_remember  w hI (by omega)) (fun w2 hqw2 hpw2 => ?_)
    obtain ⟨hIw2, hpw2_0⟩ := hpw2
    have h3_ : ((4 : Int) = 4 → -1 ≤ (w2 146 4).toInt ∧ (w2 146 4).toInt ≤ 6 * g 0 - 1) ∧ ((4 : Int) = 6 → -1 ≤ (w2 146 4).toInt ∧ (w2 146 4).toInt ≤ 7) := ia_146 (j := 4) hIw2
    have k4_ : (w2 146 4).toInt = (w 146 4).toInt := congrArg Int32.toInt (fr_X10_remember  w w2 hqw2 146 4 (by omega))
    refine sf_bind (sf_X10_rises  w2 hIw2 (by omega)) (fun q3 hqq3 hpq3 => ?_)
    have hIq3 := hpq3
    have zz5_l : -2147483648 ≤ q3.1.toInt := Int32.le_toInt q3.1
    have zz5_h : q3.1.toInt ≤ 2147483647 := Int32.toInt_le q3.1
    exact sf_some (show (Inv g q3.2) from hIq3)
set_option maxRecDepth 20000 in
set_option maxHeartbeats 2000000 in
theorem sf_X10_learn {g : Nat → Int} (a1 : Int32) (w : Mem) (hI : Inv g w) : Sf (fun (q : Int32 × Mem) => (Inv g q.2)) (f_X10_learn a1 w) := by
  obtain ⟨hg0, hg1⟩ := hI.1
  unfold f_X10_learn
  have zz1_l : -2147483648 ≤ a1.toInt := Int32.le_toInt a1
  have zz1_h : a1.toInt ≤ 2147483647 := Int32.toInt_le a1
  refine sf_bind (sf_X10_isMatter a1 w hI) (fun r1 hqr1 hpr1 => ?_)
  obtain ⟨hpr1_0, hpr1_1⟩ := hpr1
  have l_0 : (0 : Int32).toInt = 0 := by decide
  refine sf_ite (fun c2_ => ?_) (fun c2_ => ?_)
  · have rc2_ : r1.toInt = 0 := by rw [i_eq_iff] at c2_; omega
    have l_m1000000001 : (-1000000001 : Int32).toInt = -1000000001 := by decide
    exact sf_some (show (Inv g w) from hI)
  · have rc2_ : ¬ r1.toInt = 0 := by rw [i_eq_iff] at c2_; omega
    have l_3 : (3 : Int32).toInt = 3 := by decide
    refine sf_rd (by omega) (by omega) (fun x2 ex2 => ?_)
    have zz3_l : -2147483648 ≤ (w 146 3).toInt := Int32.le_toInt (w 146 3)
    have zz3_h : (w 146 3).toInt ≤ 2147483647 := Int32.toInt_le (w 146 3)
    have fx2 : x2.toInt = (w 146 3).toInt := by rw [ex2, show (3 : Int32).toNatClampNeg = 3 by decide]
    have zz4_l : -2147483648 ≤ x2.toInt := Int32.le_toInt x2
    have zz4_h : x2.toInt ≤ 2147483647 := Int32.toInt_le x2
    refine sf_bind (sf_X10_has x2 a1) (fun r3 hqr3 hpr3 => ?_)
    obtain ⟨hpr3_0, hpr3_1⟩ := hpr3
    refine sf_ite (fun c5_ => ?_) (fun c5_ => ?_)
    · have rc5_ : r3.toInt = 0 := by rw [i_eq_iff] at c5_; omega
      refine sf_bind (sf_X10_remember  w hI (by omega)) (fun w4 hqw4 hpw4 => ?_)
      obtain ⟨hIw4, hpw4_0⟩ := hpw4
      have h6_ : ((4 : Int) = 4 → -1 ≤ (w4 146 4).toInt ∧ (w4 146 4).toInt ≤ 6 * g 0 - 1) ∧ ((4 : Int) = 6 → -1 ≤ (w4 146 4).toInt ∧ (w4 146 4).toInt ≤ 7) := ia_146 (j := 4) hIw4
      have h7_ : ((4 : Int) = 4 → -1 ≤ (w 146 4).toInt ∧ (w 146 4).toInt ≤ 6 * g 0 - 1) ∧ ((4 : Int) = 6 → -1 ≤ (w 146 4).toInt ∧ (w 146 4).toInt ≤ 7) := ia_146 (j := 4) hI
      have k8_ : (w4 146 4).toInt = (w 146 4).toInt := congrArg Int32.toInt (fr_X10_remember  w w4 hqw4 146 4 (by omega))
      refine sf_rd (by omega) (by omega) (fun x5 ex5 => ?_)
      have k9_ : (w4 146 3).toInt = (w 146 3).toInt := congrArg Int32.toInt (fr_X10_remember  w w4 hqw4 146 3 (by omega))
      have zz10_l : -2147483648 ≤ (w4 146 3).toInt := Int32.le_toInt (w4 146 3)
      have zz10_h : (w4 146 3).toInt ≤ 2147483647 := Int32.toInt_le (w4 146 3)
      have fx5 : x5.toInt = (w4 146 3).toInt := by rw [ex5, show (3 : Int32).toNatClampNeg = 3 by decide]
      have zz11_l : -2147483648 ≤ x5.toInt := Int32.le_toInt x5
      have zz11_h : x5.toInt ≤ 2147483647 := Int32.toInt_le x5
      have l_1 : (1 : Int32).toInt = 1 := by decide
      have e12_ : 1 ≤ ((1 : Int32) <<< (a1 &&& 31)).toInt ∧ ((1 : Int32) <<< (a1 &&& 31)).toInt ≤ 128 := i_shl1 (k := 7) (by decide) (by omega) (show _ ≤ 7 from by omega)
      refine sf_wr (by omega) (by omega) (fun w6 ew6 => ?_)
      have n13_ : ((3 : Int32).toNatClampNeg : Int) = (3 : Int32).toInt := i_clq (by omega)
      have hIw6 : Inv g w6 := by rw [ew6]; exact ua_146 hIw4 (by omega) (by omega) (show ((3 : Int32).toInt = 4 → -1 ≤ (x5 ||| ((1 : Int32) <<< (a1 &&& 31))).toInt ∧ (x5 ||| ((1 : Int32) <<< (a1 &&& 31))).toInt ≤ 6 * g 0 - 1) ∧ ((3 : Int32).toInt = 6 → -1 ≤ (x5 ||| ((1 : Int32) <<< (a1 &&& 31))).toInt ∧ (x5 ||| ((1 : Int32) <<< (a1 &&& 31))).toInt ≤ 7) from by omega)
      have l_60 : (60 : Int32).toInt = 60 := by decide
      refine sf_bind (sf_X10_passes (60 : Int32) w6 hIw6) (fun w7 hqw7 hpw7 => ?_)
      obtain ⟨hIw7, hpw7_0⟩ := hpw7
      have h14_ : ((4 : Int) = 4 → -1 ≤ (w7 146 4).toInt ∧ (w7 146 4).toInt ≤ 6 * g 0 - 1) ∧ ((4 : Int) = 6 → -1 ≤ (w7 146 4).toInt ∧ (w7 146 4).toInt ≤ 7) := ia_146 (j := 4) hIw7
      have h15_ : ((4 : Int) = 4 → -1 ≤ (w6 146 4).toInt ∧ (w6 146 4).toInt ≤ 6 * g 0 - 1) ∧ ((4 : Int) = 6 → -1 ≤ (w6 146 4).toInt ∧ (w6 146 4).toInt ≤ 7) := ia_146 (j := 4) hIw6
      have k16_ : (w6 146 4).toInt = (w4 146 4).toInt := by rw [ew6, wu_ne (by omega)]
      refine sf_rd (by omega) (by omega) (fun x8 ex8 => ?_)
      have zz17_l : -2147483648 ≤ (w7 146 3).toInt := Int32.le_toInt (w7 146 3)
      have zz17_h : (w7 146 3).toInt ≤ 2147483647 := Int32.toInt_le (w7 146 3)
      have fx8 : x8.toInt = (w7 146 3).toInt := by rw [ex8, show (3 : Int32).toNatClampNeg = 3 by decide]
      have zz18_l : -2147483648 ≤ x8.toInt := Int32.le_toInt x8
      have zz18_h : x8.toInt ≤ 2147483647 := Int32.toInt_le x8
      refine sf_bind (sf_X10_bits x8) (fun r9 hqr9 hpr9 => ?_)
      obtain ⟨hpr9_0, hpr9_1, hpr9_2, hpr9_3⟩ := hpr9
      exact sf_some (show (Inv g w7) from hIw7)
    · have rc5_ : ¬ r3.toInt = 0 := by rw [i_eq_iff] at c5_; omega
      have l_m1000000003 : (-1000000003 : Int32).toInt = -1000000003 := by decide
      exact sf_some (show (Inv g w) from hI)
set_option maxRecDepth 20000 in
set_option maxHeartbeats 2000000 in
theorem sf_X10_isBridge {g : Nat → Int} (w : Mem) (hI : Inv g w) : Sf (fun (q : Int32) => (0 ≤ q.toInt ∧ q.toInt ≤ 1) ∧ (q.toInt = 0 ∨ g 0 = 1)) (f_X10_isBridge w) := by
  obtain ⟨hg0, hg1⟩ := hI.1
  unfold f_X10_isBridge
  have l_0 : (0 : Int32).toInt = 0 := by decide
  have h1_ : g 0 ≤ (w 134 16).toInt ∧ (w 134 16).toInt ≤ 9 * g 0 := iv_134_16 hI
  refine sf_ite (fun c2_ => ?_) (fun c2_ => ?_)
  · have rc2_ : 0 < (w 134 16).toInt := by rw [Int32.lt_iff_toInt_lt] at c2_; omega
    have l_1 : (1 : Int32).toInt = 1 := by decide
    exact sf_some (show (0 ≤ (1 : Int32).toInt ∧ (1 : Int32).toInt ≤ 1) ∧ ((1 : Int32).toInt = 0 ∨ g 0 = 1) from ⟨by omega, by omega⟩)
  · have rc2_ : ¬ 0 < (w 134 16).toInt := by rw [Int32.lt_iff_toInt_lt] at c2_; omega
    exact sf_some (show (0 ≤ (0 : Int32).toInt ∧ (0 : Int32).toInt ≤ 1) ∧ ((0 : Int32).toInt = 0 ∨ g 0 = 1) from ⟨by omega, by omega⟩)
set_option maxRecDepth 20000 in
set_option maxHeartbeats 2000000 in
theorem sf_X10_minute {g : Nat → Int} (a1 : Int32) (w : Mem) (hI : Inv g w) : Sf (fun (q : Int32 × Mem) => (Inv g q.2)) (f_X10_minute a1 w) := by
  obtain ⟨hg0, hg1⟩ := hI.1
  unfold f_X10_minute
  have zz1_l : -2147483648 ≤ a1.toInt := Int32.le_toInt a1
  have zz1_h : a1.toInt ≤ 2147483647 := Int32.toInt_le a1
  have l_1 : (1 : Int32).toInt = 1 := by decide
  have l_60 : (60 : Int32).toInt = 60 := by decide
  refine sf_bind (sf_X10_in a1 (1 : Int32) (60 : Int32)) (fun r1 hqr1 hpr1 => ?_)
  obtain ⟨hpr1_0, hpr1_1, hpr1_2⟩ := hpr1
  have l_0 : (0 : Int32).toInt = 0 := by decide
  refine sf_ite (fun c2_ => ?_) (fun c2_ => ?_)
  · have rc2_ : r1.toInt = 0 := by rw [i_eq_iff] at c2_; omega
    have l_m1000000002 : (-1000000002 : Int32).toInt = -1000000002 := by decide
    exact sf_some (show (Inv g w) from hI)
  · have rc2_ : ¬ r1.toInt = 0 := by rw [i_eq_iff] at c2_; omega
    refine sf_bind (sf_X10_isBridge  w hI) (fun r2 hqr2 hpr2 => ?_)
    obtain ⟨hpr2_0, hpr2_1⟩ := hpr2
    refine sf_ite (fun c3_ => ?_) (fun c3_ => ?_)
    · have rc3_ : r2.toInt = 0 := by rw [i_eq_iff] at c3_; omega
      have l_m1000000003 : (-1000000003 : Int32).toInt = -1000000003 := by decide
      exact sf_some (show (Inv g w) from hI)
    · have rc3_ : ¬ r2.toInt = 0 := by rw [i_eq_iff] at c3_; omega
      refine sf_rd (by omega) (by omega) (fun x3 ex3 => ?_)
      have zz4_l : -2147483648 ≤ (w 146 0).toInt := Int32.le_toInt (w 146 0)
      have zz4_h : (w 146 0).toInt ≤ 2147483647 := Int32.toInt_le (w 146 0)
      have fx3 : x3.toInt = (w 146 0).toInt := by rw [ex3, show (0 : Int32).toNatClampNeg = 0 by decide]
      have l_900000 : (900000 : Int32).toInt = 900000 := by decide
      have zz5_l : -2147483648 ≤ x3.toInt := Int32.le_toInt x3
      have zz5_h : x3.toInt ≤ 2147483647 := Int32.toInt_le x3
      refine sf_ite (fun c6_ => ?_) (fun c6_ => ?_)
      · have rc6_ : 900000 < x3.toInt := by rw [Int32.lt_iff_toInt_lt] at c6_; omega
        have l_m1000000004 : (-1000000004 : Int32).toInt = -1000000004 := by decide
        exact sf_some (show (Inv g w) from hI)
      · have rc6_ : ¬ 900000 < x3.toInt := by rw [Int32.lt_iff_toInt_lt] at c6_; omega
        refine sf_bind (sf_X10_remember  w hI (by omega)) (fun w4 hqw4 hpw4 => ?_)
        obtain ⟨hIw4, hpw4_0⟩ := hpw4
        have h7_ : ((4 : Int) = 4 → -1 ≤ (w4 146 4).toInt ∧ (w4 146 4).toInt ≤ 6 * g 0 - 1) ∧ ((4 : Int) = 6 → -1 ≤ (w4 146 4).toInt ∧ (w4 146 4).toInt ≤ 7) := ia_146 (j := 4) hIw4
        have h8_ : ((4 : Int) = 4 → -1 ≤ (w 146 4).toInt ∧ (w 146 4).toInt ≤ 6 * g 0 - 1) ∧ ((4 : Int) = 6 → -1 ≤ (w 146 4).toInt ∧ (w 146 4).toInt ≤ 7) := ia_146 (j := 4) hI
        have k9_ : (w4 146 4).toInt = (w 146 4).toInt := congrArg Int32.toInt (fr_X10_remember  w w4 hqw4 146 4 (by omega))
        refine sf_bind (sf_X10_passes a1 w4 hIw4) (fun w5 hqw5 hpw5 => ?_)
        obtain ⟨hIw5, hpw5_0⟩ := hpw5
        have h10_ : ((4 : Int) = 4 → -1 ≤ (w5 146 4).toInt ∧ (w5 146 4).toInt ≤ 6 * g 0 - 1) ∧ ((4 : Int) = 6 → -1 ≤ (w5 146 4).toInt ∧ (w5 146 4).toInt ≤ 7) := ia_146 (j := 4) hIw5
        refine sf_rd (by omega) (by omega) (fun x6 ex6 => ?_)
        have zz11_l : -2147483648 ≤ (w5 146 0).toInt := Int32.le_toInt (w5 146 0)
        have zz11_h : (w5 146 0).toInt ≤ 2147483647 := Int32.toInt_le (w5 146 0)
        have fx6 : x6.toInt = (w5 146 0).toInt := by rw [ex6, show (0 : Int32).toNatClampNeg = 0 by decide]
        have zz12_l : -2147483648 ≤ x6.toInt := Int32.le_toInt x6
        have zz12_h : x6.toInt ≤ 2147483647 := Int32.toInt_le x6
        exact sf_some (show (Inv g w5) from hIw5)
set_option maxRecDepth 20000 in
set_option maxHeartbeats 2000000 in
theorem sf_X10_anew {g : Nat → Int} (w : Mem) (hI : Inv g w) : Sf (fun (q : Int32 × Mem) => (Inv g q.2)) (f_X10_anew w) := by
  obtain ⟨hg0, hg1⟩ := hI.1
  unfold f_X10_anew
  refine sf_bind (sf_X10_isBridge  w hI) (fun r1 hqr1 hpr1 => ?_)
  obtain ⟨hpr1_0, hpr1_1⟩ := hpr1
  have l_0 : (0 : Int32).toInt = 0 := by decide
  refine sf_ite (fun c1_ => ?_) (fun c1_ => ?_)
  · have rc1_ : r1.toInt = 0 := by rw [i_eq_iff] at c1_; omega
    have l_m1000000003 : (-1000000003 : Int32).toInt = -1000000003 := by decide
    exact sf_some (show (Inv g w) from hI)
  · have rc1_ : ¬ r1.toInt = 0 := by rw [i_eq_iff] at c1_; omega
    have l_1 : (1 : Int32).toInt = 1 := by decide
    refine sf_rd (by omega) (by omega) (fun x2 ex2 => ?_)
    have zz2_l : -2147483648 ≤ (w 146 1).toInt := Int32.le_toInt (w 146 1)
    have zz2_h : (w 146 1).toInt ≤ 2147483647 := Int32.toInt_le (w 146 1)
    have fx2 : x2.toInt = (w 146 1).toInt := by rw [ex2, show (1 : Int32).toNatClampNeg = 1 by decide]
    have zz3_l : -2147483648 ≤ x2.toInt := Int32.le_toInt x2
    have zz3_h : x2.toInt ≤ 2147483647 := Int32.toInt_le x2
    have l_9000 : (9000 : Int32).toInt = 9000 := by decide
    refine sf_ite (fun c4_ => ?_) (fun c4_ => ?_)
    · have rc4_ : x2.toInt = 9000 := by rw [i_eq_iff] at c4_; omega
      have l_m1000000004 : (-1000000004 : Int32).toInt = -1000000004 := by decide
      exact sf_some (show (Inv g w) from hI)
    · have rc4_ : ¬ x2.toInt = 9000 := by rw [i_eq_iff] at c4_; omega
      refine sf_bind (sf_X10_remember  w hI (by omega)) (fun w3 hqw3 hpw3 => ?_)
      obtain ⟨hIw3, hpw3_0⟩ := hpw3
      have h5_ : ((4 : Int) = 4 → -1 ≤ (w3 146 4).toInt ∧ (w3 146 4).toInt ≤ 6 * g 0 - 1) ∧ ((4 : Int) = 6 → -1 ≤ (w3 146 4).toInt ∧ (w3 146 4).toInt ≤ 7) := ia_146 (j := 4) hIw3
      have h6_ : ((4 : Int) = 4 → -1 ≤ (w 146 4).toInt ∧ (w 146 4).toInt ≤ 6 * g 0 - 1) ∧ ((4 : Int) = 6 → -1 ≤ (w 146 4).toInt ∧ (w 146 4).toInt ≤ 7) := ia_146 (j := 4) hI
      have k7_ : (w3 146 4).toInt = (w 146 4).toInt := congrArg Int32.toInt (fr_X10_remember  w w3 hqw3 146 4 (by omega))
      refine sf_bind (Q := fun (v7 : Mem) => (Inv g v7) ∧ ((v7 134 18).toInt = (w3 134 18).toInt)) ?_ (fun v7 hqv7 hvv7 => ?_)
      · have h8_ : 0 ≤ (w3 134 18).toInt ∧ (w3 134 18).toInt ≤ 6 * g 0 := iv_134_18 hIw3
        have h9_ : 0 ≤ (w 134 18).toInt ∧ (w 134 18).toInt ≤ 6 * g 0 := iv_134_18 hI
        have k10_ : (w3 134 18).toInt = (w 134 18).toInt := congrArg Int32.toInt (fr_X10_remember  w w3 hqw3 134 18 (by omega))
        refine sf_lp (fun (s31 : (Int32 × Mem)) => (Inv g s31.2) ∧ (0 ≤ s31.1.toInt) ∧ (s31.1.toInt ≤ 6) ∧ ((s31.2 134 18).toInt = (w3 134 18).toInt)) (fun (s31 : (Int32 × Mem)) => (7 - s31.1.toInt).toNat) (fun s31 hss31 => ?_) _ _ (show (Inv g w3) ∧ (0 ≤ (0 : Int32).toInt) ∧ ((0 : Int32).toInt ≤ 6) ∧ ((w3 134 18).toInt = (w3 134 18).toInt) from ⟨hIw3, by omega, by omega, rfl⟩) (show (7 - (0 : Int32).toInt).toNat < 5000000000 from by omega)
        obtain ⟨hIs31, hss31_1, hss31_2, hss31_3⟩ := hss31
        refine (?_ : Sf (lpP _ _ (7 - s31.1.toInt).toNat _) _)
        have h11_ : 0 ≤ (s31.2 134 18).toInt ∧ (s31.2 134 18).toInt ≤ 6 * g 0 := iv_134_18 hIs31
        refine sf_ite (fun c12_ => ?_) (fun c12_ => ?_)
        · have rc12_ : s31.1.toInt < (s31.2 134 18).toInt := by rw [Int32.lt_iff_toInt_lt] at c12_; omega
          have l_7 : (7 : Int32).toInt = 7 := by decide
          have e13_ : ((7 : Int32) + s31.1).toInt = (7 : Int32).toInt + s31.1.toInt := i_add (by omega) (by omega)
          refine sf_wr (by omega) (by omega) (fun w4 ew4 => ?_)
          have n14_ : (((7 : Int32) + s31.1).toNatClampNeg : Int) = ((7 : Int32) + s31.1).toInt := i_clq (by omega)
          have hIw4 : Inv g w4 := by rw [ew4]; exact ua_146 hIs31 (by omega) (by omega) (show (((7 : Int32) + s31.1).toInt = 4 → -1 ≤ (0 : Int32).toInt ∧ (0 : Int32).toInt ≤ 6 * g 0 - 1) ∧ (((7 : Int32) + s31.1).toInt = 6 → -1 ≤ (0 : Int32).toInt ∧ (0 : Int32).toInt ≤ 7) from by omega)
          have l_13 : (13 : Int32).toInt = 13 := by decide
          have e15_ : ((13 : Int32) + s31.1).toInt = (13 : Int32).toInt + s31.1.toInt := i_add (by omega) (by omega)
          refine sf_wr (by omega) (by omega) (fun w5 ew5 => ?_)
          have n16_ : (((13 : Int32) + s31.1).toNatClampNeg : Int) = ((13 : Int32) + s31.1).toInt := i_clq (by omega)
          have hIw5 : Inv g w5 := by rw [ew5]; exact ua_146 hIw4 (by omega) (by omega) (show (((13 : Int32) + s31.1).toInt = 4 → -1 ≤ (0 : Int32).toInt ∧ (0 : Int32).toInt ≤ 6 * g 0 - 1) ∧ (((13 : Int32) + s31.1).toInt = 6 → -1 ≤ (0 : Int32).toInt ∧ (0 : Int32).toInt ≤ 7) from by omega)
          have l_19 : (19 : Int32).toInt = 19 := by decide
          have e17_ : ((19 : Int32) + s31.1).toInt = (19 : Int32).toInt + s31.1.toInt := i_add (by omega) (by omega)
          refine sf_wr (by omega) (by omega) (fun w6 ew6 => ?_)
          have n18_ : (((19 : Int32) + s31.1).toNatClampNeg : Int) = ((19 : Int32) + s31.1).toInt := i_clq (by omega)
          have hIw6 : Inv g w6 := by rw [ew6]; exact ua_146 hIw5 (by omega) (by omega) (show (((19 : Int32) + s31.1).toInt = 4 → -1 ≤ (0 : Int32).toInt ∧ (0 : Int32).toInt ≤ 6 * g 0 - 1) ∧ (((19 : Int32) + s31.1).toInt = 6 → -1 ≤ (0 : Int32).toInt ∧ (0 : Int32).toInt ≤ 7) from by omega)
          have e19_ : (s31.1 + (1 : Int32)).toInt = s31.1.toInt + (1 : Int32).toInt := i_add (by omega) (by omega)
          have h20_ : 0 ≤ (w6 134 18).toInt ∧ (w6 134 18).toInt ≤ 6 * g 0 := iv_134_18 hIw6
          have h21_ : 0 ≤ (w5 134 18).toInt ∧ (w5 134 18).toInt ≤ 6 * g 0 := iv_134_18 hIw5
          have h22_ : 0 ≤ (w4 134 18).toInt ∧ (w4 134 18).toInt ≤ 6 * g 0 := iv_134_18 hIw4
          have k23_ : (w4 134 18).toInt = (s31.2 134 18).toInt := by rw [ew4, wu_ne (by omega)]
          have k24_ : (w5 134 18).toInt = (w4 134 18).toInt := by rw [ew5, wu_ne (by omega)]
          have k25_ : (w6 134 18).toInt = (w5 134 18).toInt := by rw [ew6, wu_ne (by omega)]
          exact sf_some (show ((Inv g w6) ∧ (0 ≤ (s31.1 + (1 : Int32)).toInt) ∧ ((s31.1 + (1 : Int32)).toInt ≤ 6) ∧ ((w6 134 18).toInt = (w3 134 18).toInt)) ∧ (7 - (s31.1 + (1 : Int32)).toInt).toNat < (7 - s31.1.toInt).toNat from ⟨⟨hIw6, by omega, by omega, by omega⟩, by omega⟩)
        · have rc12_ : ¬ s31.1.toInt < (s31.2 134 18).toInt := by rw [Int32.lt_iff_toInt_lt] at c12_; omega
          exact sf_some (show (Inv g s31.2) ∧ ((s31.2 134 18).toInt = (w3 134 18).toInt) from ⟨hIs31, by omega⟩)
      · obtain ⟨hIv7, hvv7_1⟩ := hvv7
        have h26_ : 0 ≤ (w3 134 18).toInt ∧ (w3 134 18).toInt ≤ 6 * g 0 := iv_134_18 hIw3
        have h27_ : 0 ≤ (w 134 18).toInt ∧ (w 134 18).toInt ≤ 6 * g 0 := iv_134_18 hI
        have k28_ : (w3 134 18).toInt = (w 134 18).toInt := congrArg Int32.toInt (fr_X10_remember  w w3 hqw3 134 18 (by omega))
        have h29_ : 0 ≤ (v7 134 18).toInt ∧ (v7 134 18).toInt ≤ 6 * g 0 := iv_134_18 hIv7
        have l_4 : (4 : Int32).toInt = 4 := by decide
        have l_m1 : (-1 : Int32).toInt = -1 := by decide
        refine sf_wr (by omega) (by omega) (fun w8 ew8 => ?_)
        have n30_ : ((4 : Int32).toNatClampNeg : Int) = (4 : Int32).toInt := i_clq (by omega)
        have hIw8 : Inv g w8 := by rw [ew8]; exact ua_146 hIv7 (by omega) (by omega) (show ((4 : Int32).toInt = 4 → -1 ≤ (-1 : Int32).toInt ∧ (-1 : Int32).toInt ≤ 6 * g 0 - 1) ∧ ((4 : Int32).toInt = 6 → -1 ≤ (-1 : Int32).toInt ∧ (-1 : Int32).toInt ≤ 7) from by omega)
        have l_5 : (5 : Int32).toInt = 5 := by decide
        refine sf_wr (by omega) (by omega) (fun w9 ew9 => ?_)
        have n31_ : ((5 : Int32).toNatClampNeg : Int) = (5 : Int32).toInt := i_clq (by omega)
        have hIw9 : Inv g w9 := by rw [ew9]; exact ua_146 hIw8 (by omega) (by omega) (show ((5 : Int32).toInt = 4 → -1 ≤ (0 : Int32).toInt ∧ (0 : Int32).toInt ≤ 6 * g 0 - 1) ∧ ((5 : Int32).toInt = 6 → -1 ≤ (0 : Int32).toInt ∧ (0 : Int32).toInt ≤ 7) from by omega)
        have l_6 : (6 : Int32).toInt = 6 := by decide
        refine sf_wr (by omega) (by omega) (fun w10 ew10 => ?_)
        have n32_ : ((6 : Int32).toNatClampNeg : Int) = (6 : Int32).toInt := i_clq (by omega)
        have hIw10 : Inv g w10 := by rw [ew10]; exact ua_146 hIw9 (by omega) (by omega) (show ((6 : Int32).toInt = 4 → -1 ≤ (-1 : Int32).toInt ∧ (-1 : Int32).toInt ≤ 6 * g 0 - 1) ∧ ((6 : Int32).toInt = 6 → -1 ≤ (-1 : Int32).toInt ∧ (-1 : Int32).toInt ≤ 7) from by omega)
        refine sf_rd (by omega) (by omega) (fun x11 ex11 => ?_)
        have zz33_l : -2147483648 ≤ (v7 146 1).toInt := Int32.le_toInt (v7 146 1)
        have zz33_h : (v7 146 1).toInt ≤ 2147483647 := Int32.toInt_le (v7 146 1)
        have k34_ : (w8 146 1).toInt = (v7 146 1).toInt := by rw [ew8, wu_ne (by omega)]
        have zz35_l : -2147483648 ≤ (w8 146 1).toInt := Int32.le_toInt (w8 146 1)
        have zz35_h : (w8 146 1).toInt ≤ 2147483647 := Int32.toInt_le (w8 146 1)
        have k36_ : (w9 146 1).toInt = (w8 146 1).toInt := by rw [ew9, wu_ne (by omega)]
        have zz37_l : -2147483648 ≤ (w9 146 1).toInt := Int32.le_toInt (w9 146 1)
        have zz37_h : (w9 146 1).toInt ≤ 2147483647 := Int32.toInt_le (w9 146 1)
        have k38_ : (w10 146 1).toInt = (w9 146 1).toInt := by rw [ew10, wu_ne (by omega)]
        have zz39_l : -2147483648 ≤ (w10 146 1).toInt := Int32.le_toInt (w10 146 1)
        have zz39_h : (w10 146 1).toInt ≤ 2147483647 := Int32.toInt_le (w10 146 1)
        have fx11 : x11.toInt = (w10 146 1).toInt := by rw [ex11, show (1 : Int32).toNatClampNeg = 1 by decide]
        have zz40_l : -2147483648 ≤ x11.toInt := Int32.le_toInt x11
        have zz40_h : x11.toInt ≤ 2147483647 := Int32.toInt_le x11
        refine sf_wr (by omega) (by omega) (fun w12 ew12 => ?_)
        have n41_ : ((1 : Int32).toNatClampNeg : Int) = (1 : Int32).toInt := i_clq (by omega)
        have hIw12 : Inv g w12 := by rw [ew12]; exact ua_146 hIw10 (by omega) (by omega) (show ((1 : Int32).toInt = 4 → -1 ≤ (x11 + (1 : Int32)).toInt ∧ (x11 + (1 : Int32)).toInt ≤ 6 * g 0 - 1) ∧ ((1 : Int32).toInt = 6 → -1 ≤ (x11 + (1 : Int32)).toInt ∧ (x11 + (1 : Int32)).toInt ≤ 7) from by omega)
        refine sf_rd (by omega) (by omega) (fun x13 ex13 => ?_)
        have k42_ : (w12 146 1).toInt = (x11 + (1 : Int32)).toInt := by rw [ew12, show 1 = (1 : Int32).toNatClampNeg by decide, wu_at]
        have zz43_l : -2147483648 ≤ (w12 146 1).toInt := Int32.le_toInt (w12 146 1)
        have zz43_h : (w12 146 1).toInt ≤ 2147483647 := Int32.toInt_le (w12 146 1)
        have fx13 : x13.toInt = (w12 146 1).toInt := by rw [ex13, show (1 : Int32).toNatClampNeg = 1 by decide]
        have zz44_l : -2147483648 ≤ x13.toInt := Int32.le_toInt x13
        have zz44_h : x13.toInt ≤ 2147483647 := Int32.toInt_le x13
        exact sf_some (show (Inv g w12) from hIw12)
