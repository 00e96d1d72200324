set_option maxRecDepth 20000 in
set_option maxHeartbeats 2000000 in
theorem sf_X10_dry (a1 : Int32) (a2 : Int32) : Sf (fun (q : Int32) => (True)) (f_X10_dry a1 a2) := by
  unfold f_X10_dry
  have zz1_l : -2147483648 ≤ a1.toInt := Int32.le_toInt a1
  have zz1_h : a1.toInt ≤ 2147483647 := Int32.toInt_le a1
  have l_0 : (0 : Int32).toInt = 0 := by decide
  have l_60 : (60 : Int32).toInt = 60 := by decide
  refine sf_bind (sf_X10_in a1 (0 : Int32) (60 : Int32)) (fun r1 hqr1 hpr1 => ?_)
  obtain ⟨hpr1_0, hpr1_1, hpr1_2⟩ := hpr1
  refine sf_ite (fun c2_ => ?_) (fun c2_ => ?_)
  · have rc2_ : r1.toInt = 0 := by rw [i_eq_iff] at c2_; omega
    have l_m1000000002 : (-1000000002 : Int32).toInt = -1000000002 := by decide
    exact sf_some (show (True) from trivial)
  · have rc2_ : ¬ r1.toInt = 0 := by rw [i_eq_iff] at c2_; omega
    have zz3_l : -2147483648 ≤ a2.toInt := Int32.le_toInt a2
    have zz3_h : a2.toInt ≤ 2147483647 := Int32.toInt_le a2
    have l_100 : (100 : Int32).toInt = 100 := by decide
    refine sf_bind (sf_X10_in a2 (0 : Int32) (100 : Int32)) (fun r2 hqr2 hpr2 => ?_)
    obtain ⟨hpr2_0, hpr2_1, hpr2_2⟩ := hpr2
    refine sf_ite (fun c4_ => ?_) (fun c4_ => ?_)
    · have rc4_ : r2.toInt = 0 := by rw [i_eq_iff] at c4_; omega
      have l_m1000000002 : (-1000000002 : Int32).toInt = -1000000002 := by decide
      exact sf_some (show (True) from trivial)
    · have rc4_ : ¬ r2.toInt = 0 := by rw [i_eq_iff] at c4_; omega
      refine sf_bind (Q := fun (v4 : Int64) => (True)) ?_ (fun v4 hqv4 hvv4 => ?_)
      · refine sf_lp (fun (s30 : (Int64 × Int32)) => (0 ≤ s30.2.toInt) ∧ (s30.2.toInt ≤ 60)) (fun (s30 : (Int64 × Int32)) => (61 - s30.2.toInt).toNat) (fun s30 hss30 => ?_) _ _ (show (0 ≤ (0 : Int32).toInt) ∧ ((0 : Int32).toInt ≤ 60) from ⟨by omega, by omega⟩) (show (61 - (0 : Int32).toInt).toNat < 5000000000 from by omega)
        obtain ⟨hss30_0, hss30_1⟩ := hss30
        refine (?_ : Sf (lpP _ _ (61 - s30.2.toInt).toNat _) _)
        refine sf_ite (fun c5_ => ?_) (fun c5_ => ?_)
        · have rc5_ : s30.2.toInt < a1.toInt := by rw [Int32.lt_iff_toInt_lt] at c5_; omega
          refine sf_ltl (fun t3 et3 => ?_)
          have l_1 : (1 : Int32).toInt = 1 := by decide
          have e6_ : (s30.2 + (1 : Int32)).toInt = s30.2.toInt + (1 : Int32).toInt := i_add (by omega) (by omega)
          exact sf_some (show ((0 ≤ (s30.2 + (1 : Int32)).toInt) ∧ ((s30.2 + (1 : Int32)).toInt ≤ 60)) ∧ (61 - (s30.2 + (1 : Int32)).toInt).toNat < (61 - s30.2.toInt).toNat from ⟨⟨by omega, by omega⟩, by omega⟩)
        · have rc5_ : ¬ s30.2.toInt < a1.toInt := by rw [Int32.lt_iff_toInt_lt] at c5_; omega
          exact sf_some (show (True) from trivial)
      · have hvv4_0 := hvv4
        exact sf_some (show (True) from trivial)
set_option maxRecDepth 20000 in
set_option maxHeartbeats 2000000 in
theorem sf_X10_stayed {g : Nat → Int} (a1 : Int32) (a2 : Int32) (w : Mem) (hI : Inv g w) : Sf (fun (q : Int32 × Mem) => (Inv g q.2)) (f_X10_stayed a1 a2 w) := by
  obtain ⟨hg0, hg1⟩ := hI.1
  unfold f_X10_stayed
  have zz1_l : -2147483648 ≤ a1.toInt := Int32.le_toInt a1
  have zz1_h : a1.toInt ≤ 2147483647 := Int32.toInt_le a1
  refine sf_bind (sf_X10_isTraveller a1 w hI) (fun r1 hqr1 hpr1 => ?_)
  obtain ⟨hpr1_0, hpr1_1⟩ := hpr1
  have l_0 : (0 : Int32).toInt = 0 := by decide
  refine sf_ite (fun c2_ => ?_) (fun c2_ => ?_)
  · have rc2_ : r1.toInt = 0 := by rw [i_eq_iff] at c2_; omega
    have l_m1000000001 : (-1000000001 : Int32).toInt = -1000000001 := by decide
    exact sf_some (show (Inv g w) from hI)
  · have rc2_ : ¬ r1.toInt = 0 := by rw [i_eq_iff] at c2_; omega
    have zz3_l : -2147483648 ≤ a2.toInt := Int32.le_toInt a2
    have zz3_h : a2.toInt ≤ 2147483647 := Int32.toInt_le a2
    have l_100 : (100 : Int32).toInt = 100 := by decide
    refine sf_bind (sf_X10_in a2 (0 : Int32) (100 : Int32)) (fun r2 hqr2 hpr2 => ?_)
    obtain ⟨hpr2_0, hpr2_1, hpr2_2⟩ := hpr2
    refine sf_ite (fun c4_ => ?_) (fun c4_ => ?_)
    · have rc4_ : r2.toInt = 0 := by rw [i_eq_iff] at c4_; omega
      have l_m1000000002 : (-1000000002 : Int32).toInt = -1000000002 := by decide
      exact sf_some (show (Inv g w) from hI)
    · have rc4_ : ¬ r2.toInt = 0 := by rw [i_eq_iff] at c4_; omega
      have h5_ : 0 ≤ (w 134 34).toInt ∧ (w 134 34).toInt ≤ 6 := iv_134_34 hI
      have l_6 : (6 : Int32).toInt = 6 := by decide
      refine sf_ite (fun c6_ => ?_) (fun c6_ => ?_)
      · have rc6_ : (w 134 34).toInt = 6 := by rw [i_eq_iff] at c6_; omega
        have l_m1000000004 : (-1000000004 : Int32).toInt = -1000000004 := by decide
        exact sf_some (show (Inv g w) from hI)
      · have rc6_ : ¬ (w 134 34).toInt = 6 := by rw [i_eq_iff] at c6_; omega
        refine sf_wr (by omega) (by omega) (fun w3 ew3 => ?_)
        have n7_ : ((w 134 34).toNatClampNeg : Int) = (w 134 34).toInt := i_clq (by omega)
        have hIw3 : Inv g w3 := by rw [ew3]; exact ua_150 hI (by omega) (by omega) (show 0 ≤ a1.toInt ∧ a1.toInt ≤ 5 from by omega)
        have h8_ : 0 ≤ (w3 134 34).toInt ∧ (w3 134 34).toInt ≤ 6 := iv_134_34 hIw3
        have k9_ : (w3 134 34).toInt = (w 134 34).toInt := by rw [ew3, wu_ne (by omega)]
        refine sf_wr (by omega) (by omega) (fun w4 ew4 => ?_)
        have n10_ : ((w3 134 34).toNatClampNeg : Int) = (w3 134 34).toInt := i_clq (by omega)
        have hIw4 : Inv g w4 := by rw [ew4]; exact ub_151 hIw3
        have h11_ : 0 ≤ (w4 134 34).toInt ∧ (w4 134 34).toInt ≤ 6 := iv_134_34 hIw4
        have k12_ : (w4 134 34).toInt = (w3 134 34).toInt := by rw [ew4, wu_ne (by omega)]
        have l_1 : (1 : Int32).toInt = 1 := by decide
        have e13_ : ((w4 134 34) + (1 : Int32)).toInt = (w4 134 34).toInt + (1 : Int32).toInt := i_add (by omega) (by omega)
        refine sf_pw (fun w5 ew5 => ?_)
        have hIw5 : Inv g w5 := by rw [ew5]; exact up_134_34 hIw4 (show 0 ≤ ((w4 134 34) + (1 : Int32)).toInt ∧ ((w4 134 34) + (1 : Int32)).toInt ≤ 6 from by omega)
        have h14_ : 0 ≤ (w5 134 34).toInt ∧ (w5 134 34).toInt ≤ 6 := iv_134_34 hIw5
        have k15_ : (w5 134 34).toInt = ((w4 134 34) + (1 : Int32)).toInt := by rw [ew5, wu_at]
        exact sf_some (show (Inv g w5) from hIw5)
set_option maxRecDepth 20000 in
set_option maxHeartbeats 2000000 in
theorem sf_X10_couldBe {g : Nat → Int} (w : Mem) (hI : Inv g w) : Sf (fun (q : Int32) => (True)) (f_X10_couldBe w) := by
  obtain ⟨hg0, hg1⟩ := hI.1
  unfold f_X10_couldBe
  refine sf_bind (Q := fun (v7 : Int32) => (0 ≤ v7.toInt) ∧ (v7.toInt ≤ 255)) ?_ (fun v7 hqv7 hvv7 => ?_)
  · have l_0 : (0 : Int32).toInt = 0 := by decide
    refine sf_lp (fun (s4 : (Int32 × Int32)) => (0 ≤ s4.1.toInt) ∧ (s4.1.toInt ≤ 255) ∧ (0 ≤ s4.2.toInt) ∧ (s4.2.toInt ≤ 8)) (fun (s4 : (Int32 × Int32)) => (9 - s4.2.toInt).toNat) (fun s4 hss4 => ?_) _ _ (show (0 ≤ (0 : Int32).toInt) ∧ ((0 : Int32).toInt ≤ 255) ∧ (0 ≤ (0 : Int32).toInt) ∧ ((0 : Int32).toInt ≤ 8) from ⟨by omega, by omega, by omega, by omega⟩) (show (9 - (0 : Int32).toInt).toNat < 5000000000 from by omega)
    obtain ⟨hss4_0, hss4_1, hss4_2, hss4_3⟩ := hss4
    refine (?_ : Sf (lpP _ _ (9 - s4.2.toInt).toNat _) _)
    have h1_ : 0 ≤ (w 134 17).toInt ∧ (w 134 17).toInt ≤ 8 * g 0 := iv_134_17 hI
    refine sf_ite (fun c2_ => ?_) (fun c2_ => ?_)
    · have rc2_ : s4.2.toInt < (w 134 17).toInt := by rw [Int32.lt_iff_toInt_lt] at c2_; omega
      refine sf_bind (Q := fun (v5 : Int32) => (0 ≤ v5.toInt) ∧ (v5.toInt ≤ 1)) ?_ (fun v5 hqv5 hvv5 => ?_)
      · have l_1 : (1 : Int32).toInt = 1 := by decide
        refine sf_lp (fun (s17 : (Int32 × Int32)) => (0 ≤ s17.1.toInt) ∧ (s17.1.toInt ≤ 1) ∧ (0 ≤ s17.2.toInt) ∧ (s17.2.toInt ≤ 6)) (fun (s17 : (Int32 × Int32)) => (7 - s17.2.toInt).toNat) (fun s17 hss17 => ?_) _ _ (show (0 ≤ (1 : Int32).toInt) ∧ ((1 : Int32).toInt ≤ 1) ∧ (0 ≤ (0 : Int32).toInt) ∧ ((0 : Int32).toInt ≤ 6) from ⟨by omega, by omega, by omega, by omega⟩) (show (7 - (0 : Int32).toInt).toNat < 5000000000 from by omega)
        obtain ⟨hss17_0, hss17_1, hss17_2, hss17_3⟩ := hss17
        refine (?_ : Sf (lpP _ _ (7 - s17.2.toInt).toNat _) _)
        have h3_ : 0 ≤ (w 134 34).toInt ∧ (w 134 34).toInt ≤ 6 := iv_134_34 hI
        refine sf_ite (fun c4_ => ?_) (fun c4_ => ?_)
        · have rc4_ : s17.2.toInt < (w 134 34).toInt := by rw [Int32.lt_iff_toInt_lt] at c4_; omega
          refine sf_bind (Q := fun (v1 : Int32) => (0 ≤ v1.toInt) ∧ (v1.toInt ≤ 1)) ?_ (fun v1 hqv1 hvv1 => ?_)
          · refine sf_ite (fun c5_ => ?_) (fun c5_ => ?_)
            · have rc5_ : s17.1.toInt = 0 := by rw [i_eq_iff] at c5_; omega
              exact sf_some (show (0 ≤ (0 : Int32).toInt) ∧ ((0 : Int32).toInt ≤ 1) from ⟨by omega, by omega⟩)
            · have rc5_ : ¬ s17.1.toInt = 0 := by rw [i_eq_iff] at c5_; omega
              refine sf_rd (by omega) (by omega) (fun x2 ex2 => ?_)
              have n6_ : (s17.2.toNatClampNeg : Int) = s17.2.toInt := i_clq (by omega)
              have fx2 : 0 ≤ x2.toInt ∧ x2.toInt ≤ 5 := by rw [ex2]; exact ia_150 (j := s17.2.toNatClampNeg) hI
              refine sf_bind (sf_X10_stayOf x2 s4.2 w hI (by omega) (by omega) (by omega) (by omega)) (fun r3 hqr3 hpr3 => ?_)
              refine sf_rd (by omega) (by omega) (fun x4 ex4 => ?_)
              have zz7_l : -2147483648 ≤ r3.toInt := Int32.le_toInt r3
              have zz7_h : r3.toInt ≤ 2147483647 := Int32.toInt_le r3
              have zz8_l : -2147483648 ≤ x4.toInt := Int32.le_toInt x4
              have zz8_h : x4.toInt ≤ 2147483647 := Int32.toInt_le x4
              refine sf_ite (fun c9_ => ?_) (fun c9_ => ?_)
              · have rc9_ : r3.toInt = x4.toInt := by rw [i_eq_iff] at c9_; omega
                exact sf_some (show (0 ≤ (1 : Int32).toInt) ∧ ((1 : Int32).toInt ≤ 1) from ⟨by omega, by omega⟩)
              · have rc9_ : ¬ r3.toInt = x4.toInt := by rw [i_eq_iff] at c9_; omega
                exact sf_some (show (0 ≤ (0 : Int32).toInt) ∧ ((0 : Int32).toInt ≤ 1) from ⟨by omega, by omega⟩)
          · obtain ⟨hvv1_0, hvv1_1⟩ := hvv1
            have e10_ : (s17.2 + (1 : Int32)).toInt = s17.2.toInt + (1 : Int32).toInt := i_add (by omega) (by omega)
            exact sf_some (show ((0 ≤ v1.toInt) ∧ (v1.toInt ≤ 1) ∧ (0 ≤ (s17.2 + (1 : Int32)).toInt) ∧ ((s17.2 + (1 : Int32)).toInt ≤ 6)) ∧ (7 - (s17.2 + (1 : Int32)).toInt).toNat < (7 - s17.2.toInt).toNat from ⟨⟨by omega, by omega, by omega, by omega⟩, by omega⟩)
        · have rc4_ : ¬ s17.2.toInt < (w 134 34).toInt := by rw [Int32.lt_iff_toInt_lt] at c4_; omega
          exact sf_some (show (0 ≤ s17.1.toInt) ∧ (s17.1.toInt ≤ 1) from ⟨by omega, by omega⟩)
      · obtain ⟨hvv5_0, hvv5_1⟩ := hvv5
        refine sf_bind (Q := fun (v6 : Int32) => (0 ≤ v6.toInt) ∧ (v6.toInt ≤ 128)) ?_ (fun v6 hqv6 hvv6 => ?_)
        · refine sf_ite (fun c11_ => ?_) (fun c11_ => ?_)
          · have rc11_ : v5.toInt = 0 := by rw [i_eq_iff] at c11_; omega
            exact sf_some (show (0 ≤ (0 : Int32).toInt) ∧ ((0 : Int32).toInt ≤ 128) from ⟨by omega, by omega⟩)
          · have rc11_ : ¬ v5.toInt = 0 := by rw [i_eq_iff] at c11_; omega
            have l_1 : (1 : Int32).toInt = 1 := by decide
            have e12_ : 1 ≤ ((1 : Int32) <<< (s4.2 &&& 31)).toInt ∧ ((1 : Int32) <<< (s4.2 &&& 31)).toInt ≤ 128 := i_shl1 (k := 7) (by decide) (by omega) (show _ ≤ 7 from by omega)
            exact sf_some (show (0 ≤ ((1 : Int32) <<< (s4.2 &&& 31)).toInt) ∧ (((1 : Int32) <<< (s4.2 &&& 31)).toInt ≤ 128) from ⟨by omega, by omega⟩)
        · obtain ⟨hvv6_0, hvv6_1⟩ := hvv6
          have e13_ : 0 ≤ (s4.1 ||| v6).toInt ∧ (s4.1 ||| v6).toInt < 256 := i_or (k := 8) (by decide) (by omega) (show _ < 256 from by omega) (by omega) (show _ < 256 from by omega)
          have l_1 : (1 : Int32).toInt = 1 := by decide
          have e14_ : (s4.2 + (1 : Int32)).toInt = s4.2.toInt + (1 : Int32).toInt := i_add (by omega) (by omega)
          exact sf_some (show ((0 ≤ (s4.1 ||| v6).toInt) ∧ ((s4.1 ||| v6).toInt ≤ 255) ∧ (0 ≤ (s4.2 + (1 : Int32)).toInt) ∧ ((s4.2 + (1 : Int32)).toInt ≤ 8)) ∧ (9 - (s4.2 + (1 : Int32)).toInt).toNat < (9 - s4.2.toInt).toNat from ⟨⟨by omega, by omega, by omega, by omega⟩, by omega⟩)
    · have rc2_ : ¬ s4.2.toInt < (w 134 17).toInt := by rw [Int32.lt_iff_toInt_lt] at c2_; omega
      exact sf_some (show (0 ≤ s4.1.toInt) ∧ (s4.1.toInt ≤ 255) from ⟨by omega, by omega⟩)
  · obtain ⟨hvv7_0, hvv7_1⟩ := hvv7
    exact sf_some (show (True) from trivial)
set_option maxRecDepth 20000 in
set_option maxHeartbeats 2000000 in
theorem sf_X10_alike {g : Nat → Int} (a1 : Int32) (a2 : Int32) (w : Mem) (hI : Inv g w) (pre0 : 0 ≤ a2.toInt) (pre1 : a2.toInt ≤ 5) : Sf (fun (q : Int32) => (True)) (f_X10_alike a1 a2 w) := by
  obtain ⟨hg0, hg1⟩ := hI.1
  unfold f_X10_alike
  refine sf_bind (Q := fun (v8 : Int32) => (0 ≤ v8.toInt)) ?_ (fun v8 hqv8 hvv8 => ?_)
  · have l_0 : (0 : Int32).toInt = 0 := by decide
    refine sf_lp (fun (s5 : (Int32 × Int32)) => (0 ≤ s5.1.toInt) ∧ (0 ≤ s5.2.toInt) ∧ (s5.2.toInt ≤ 8)) (fun (s5 : (Int32 × Int32)) => (9 - s5.2.toInt).toNat) (fun s5 hss5 => ?_) _ _ (show (0 ≤ (0 : Int32).toInt) ∧ (0 ≤ (0 : Int32).toInt) ∧ ((0 : Int32).toInt ≤ 8) from ⟨by omega, by omega, by omega⟩) (show (9 - (0 : Int32).toInt).toNat < 5000000000 from by omega)
    obtain ⟨hss5_0, hss5_1, hss5_2⟩ := hss5
    refine (?_ : Sf (lpP _ _ (9 - s5.2.toInt).toNat _) _)
    have h1_ : 0 ≤ (w 134 17).toInt ∧ (w 134 17).toInt ≤ 8 * g 0 := iv_134_17 hI
    refine sf_ite (fun c2_ => ?_) (fun c2_ => ?_)
    · have rc2_ : s5.2.toInt < (w 134 17).toInt := by rw [Int32.lt_iff_toInt_lt] at c2_; omega
      refine sf_bind (Q := fun (v6 : Int32) => (True)) ?_ (fun v6 hqv6 hvv6 => ?_)
      · refine sf_lp (fun (s20 : (Int32 × Int32)) => (0 ≤ s20.2.toInt) ∧ (s20.2.toInt ≤ 8)) (fun (s20 : (Int32 × Int32)) => (9 - s20.2.toInt).toNat) (fun s20 hss20 => ?_) _ _ (show (0 ≤ (0 : Int32).toInt) ∧ ((0 : Int32).toInt ≤ 8) from ⟨by omega, by omega⟩) (show (9 - (0 : Int32).toInt).toNat < 5000000000 from by omega)
        obtain ⟨hss20_0, hss20_1⟩ := hss20
        refine (?_ : Sf (lpP _ _ (9 - s20.2.toInt).toNat _) _)
        refine sf_ite (fun c3_ => ?_) (fun c3_ => ?_)
        · have rc3_ : s20.2.toInt < (w 134 17).toInt := by rw [Int32.lt_iff_toInt_lt] at c3_; omega
          have zz4_l : -2147483648 ≤ a1.toInt := Int32.le_toInt a1
          have zz4_h : a1.toInt ≤ 2147483647 := Int32.toInt_le a1
          refine sf_bind (sf_X10_has a1 s5.2) (fun r1 hqr1 hpr1 => ?_)
          obtain ⟨hpr1_0, hpr1_1⟩ := hpr1
          refine sf_bind (Q := fun (v2 : Int32) => (0 ≤ v2.toInt) ∧ (v2.toInt ≤ 1)) ?_ (fun v2 hqv2 hvv2 => ?_)
          · refine sf_ite (fun c5_ => ?_) (fun c5_ => ?_)
            · have rc5_ : r1.toInt = 0 := by rw [i_eq_iff] at c5_; omega
              exact sf_some (show (0 ≤ (0 : Int32).toInt) ∧ ((0 : Int32).toInt ≤ 1) from ⟨by omega, by omega⟩)
            · have rc5_ : ¬ r1.toInt = 0 := by rw [i_eq_iff] at c5_; omega
              refine sf_bind (sf_X10_has a1 s20.2) (fun r3 hqr3 hpr3 => ?_)
              obtain ⟨hpr3_0, hpr3_1⟩ := hpr3
              refine sf_ite (fun c6_ => ?_) (fun c6_ => ?_)
              · have rc6_ : r3.toInt = 0 := by rw [i_eq_iff] at c6_; omega
                exact sf_some (show (0 ≤ (0 : Int32).toInt) ∧ ((0 : Int32).toInt ≤ 1) from ⟨by omega, by omega⟩)
              · have rc6_ : ¬ r3.toInt = 0 := by rw [i_eq_iff] at c6_; omega
                refine sf_bind (sf_X10_stayOf a2 s5.2 w hI (by omega) (by omega) (by omega) (by omega)) (fun r4 hqr4 hpr4 => ?_)
                refine sf_bind (sf_X10_stayOf a2 s20.2 w hI (by omega) (by omega) (by omega) (by omega)) (fun r5 hqr5 hpr5 => ?_)
                have zz7_l : -2147483648 ≤ r4.toInt := Int32.le_toInt r4
                have zz7_h : r4.toInt ≤ 2147483647 := Int32.toInt_le r4
                have zz8_l : -2147483648 ≤ r5.toInt := Int32.le_toInt r5
                have zz8_h : r5.toInt ≤ 2147483647 := Int32.toInt_le r5
                refine sf_ite (fun c9_ => ?_) (fun c9_ => ?_)
                · have rc9_ : r4.toInt = r5.toInt := by rw [i_eq_iff] at c9_; omega
                  have l_1 : (1 : Int32).toInt = 1 := by decide
                  exact sf_some (show (0 ≤ (1 : Int32).toInt) ∧ ((1 : Int32).toInt ≤ 1) from ⟨by omega, by omega⟩)
                · have rc9_ : ¬ r4.toInt = r5.toInt := by rw [i_eq_iff] at c9_; omega
                  exact sf_some (show (0 ≤ (0 : Int32).toInt) ∧ ((0 : Int32).toInt ≤ 1) from ⟨by omega, by omega⟩)
          · obtain ⟨hvv2_0, hvv2_1⟩ := hvv2
            have zz10_l : -2147483648 ≤ s20.1.toInt := Int32.le_toInt s20.1
            have zz10_h : s20.1.toInt ≤ 2147483647 := Int32.toInt_le s20.1
            have l_1 : (1 : Int32).toInt = 1 := by decide
            have e11_ : (s20.2 + (1 : Int32)).toInt = s20.2.toInt + (1 : Int32).toInt := i_add (by omega) (by omega)
            exact sf_some (show ((0 ≤ (s20.2 + (1 : Int32)).toInt) ∧ ((s20.2 + (1 : Int32)).toInt ≤ 8)) ∧ (9 - (s20.2 + (1 : Int32)).toInt).toNat < (9 - s20.2.toInt).toNat from ⟨⟨by omega, by omega⟩, by omega⟩)
        · have rc3_ : ¬ s20.2.toInt < (w 134 17).toInt := by rw [Int32.lt_iff_toInt_lt] at c3_; omega
          have zz12_l : -2147483648 ≤ s20.1.toInt := Int32.le_toInt s20.1
          have zz12_h : s20.1.toInt ≤ 2147483647 := Int32.toInt_le s20.1
          exact sf_some (show (True) from trivial)
      · have hvv6_0 := hvv6
        refine sf_bind (Q := fun (v7 : Int32) => (0 ≤ v7.toInt)) ?_ (fun v7 hqv7 hvv7 => ?_)
        · have zz13_l : -2147483648 ≤ s5.1.toInt := Int32.le_toInt s5.1
          have zz13_h : s5.1.toInt ≤ 2147483647 := Int32.toInt_le s5.1
          have zz14_l : -2147483648 ≤ v6.toInt := Int32.le_toInt v6
          have zz14_h : v6.toInt ≤ 2147483647 := Int32.toInt_le v6
          refine sf_ite (fun c15_ => ?_) (fun c15_ => ?_)
          · have rc15_ : s5.1.toInt < v6.toInt := by rw [Int32.lt_iff_toInt_lt] at c15_; omega
            exact sf_some (show (0 ≤ v6.toInt) from by omega)
          · have rc15_ : ¬ s5.1.toInt < v6.toInt := by rw [Int32.lt_iff_toInt_lt] at c15_; omega
            exact sf_some (show (0 ≤ s5.1.toInt) from by omega)
        · have hvv7_0 := hvv7
          have zz16_l : -2147483648 ≤ v7.toInt := Int32.le_toInt v7
          have zz16_h : v7.toInt ≤ 2147483647 := Int32.toInt_le v7
          have l_1 : (1 : Int32).toInt = 1 := by decide
          have e17_ : (s5.2 + (1 : Int32)).toInt = s5.2.toInt + (1 : Int32).toInt := i_add (by omega) (by omega)
          exact sf_some (show ((0 ≤ v7.toInt) ∧ (0 ≤ (s5.2 + (1 : Int32)).toInt) ∧ ((s5.2 + (1 : Int32)).toInt ≤ 8)) ∧ (9 - (s5.2 + (1 : Int32)).toInt).toNat < (9 - s5.2.toInt).toNat from ⟨⟨by omega, by omega, by omega⟩, by omega⟩)
    · have rc2_ : ¬ s5.2.toInt < (w 134 17).toInt := by rw [Int32.lt_iff_toInt_lt] at c2_; omega
      have zz18_l : -2147483648 ≤ s5.1.toInt := Int32.le_toInt s5.1
      have zz18_h : s5.1.toInt ≤ 2147483647 := Int32.toInt_le s5.1
      exact sf_some (show (0 ≤ s5.1.toInt) from by omega)
  · have hvv8_0 := hvv8
    have zz19_l : -2147483648 ≤ v8.toInt := Int32.le_toInt v8
    have zz19_h : v8.toInt ≤ 2147483647 := Int32.toInt_le v8
    exact sf_some (show (True) from trivial)
set_option maxRecDepth 20000 in
set_option maxHeartbeats 2000000 in
theorem sf_X10_ask {g : Nat → Int} (w : Mem) (hI : Inv g w) : Sf (fun (q : Int32) => (True)) (f_X10_ask w) := by
  obtain ⟨hg0, hg1⟩ := hI.1
  unfold f_X10_ask
  refine sf_bind (sf_X10_couldBe  w hI) (fun r1 hqr1 hpr1 => ?_)
  have zz1_l : -2147483648 ≤ r1.toInt := Int32.le_toInt r1
  have zz1_h : r1.toInt ≤ 2147483647 := Int32.toInt_le r1
  refine sf_bind (sf_X10_bits r1) (fun r2 hqr2 hpr2 => ?_)
  obtain ⟨hpr2_0, hpr2_1, hpr2_2, hpr2_3⟩ := hpr2
  refine sf_bind (Q := fun (v6 : Int32) => (-1 ≤ v6.toInt) ∧ (v6.toInt ≤ 5)) ?_ (fun v6 hqv6 hvv6 => ?_)
  · have l_m1 : (-1 : Int32).toInt = -1 := by decide
    have l_0 : (0 : Int32).toInt = 0 := by decide
    refine sf_lp (fun (s15 : (Int32 × Int32 × Int32)) => (-1 ≤ s15.1.toInt) ∧ (s15.1.toInt ≤ 5) ∧ (s15.2.1.toInt ≤ 32) ∧ (0 ≤ s15.2.2.toInt) ∧ (s15.2.2.toInt ≤ 6)) (fun (s15 : (Int32 × Int32 × Int32)) => (7 - s15.2.2.toInt).toNat) (fun s15 hss15 => ?_) _ _ (show (-1 ≤ (-1 : Int32).toInt) ∧ ((-1 : Int32).toInt ≤ 5) ∧ (r2.toInt ≤ 32) ∧ (0 ≤ (0 : Int32).toInt) ∧ ((0 : Int32).toInt ≤ 6) from ⟨by omega, by omega, by omega, by omega, by omega⟩) (show (7 - (0 : Int32).toInt).toNat < 5000000000 from by omega)
    obtain ⟨hss15_0, hss15_1, hss15_2, hss15_3, hss15_4⟩ := hss15
    refine (?_ : Sf (lpP _ _ (7 - s15.2.2.toInt).toNat _) _)
    have h2_ : 0 ≤ (w 134 18).toInt ∧ (w 134 18).toInt ≤ 6 * g 0 := iv_134_18 hI
    refine sf_ite (fun c3_ => ?_) (fun c3_ => ?_)
    · have rc3_ : s15.2.2.toInt < (w 134 18).toInt := by rw [Int32.lt_iff_toInt_lt] at c3_; omega
      refine sf_bind (sf_X10_alike r1 s15.2.2 w hI (by omega) (by omega)) (fun r3 hqr3 hpr3 => ?_)
      refine sf_bind (Q := fun (v4 : Int32) => (-1 ≤ v4.toInt) ∧ (v4.toInt ≤ 5)) ?_ (fun v4 hqv4 hvv4 => ?_)
      · have zz4_l : -2147483648 ≤ r3.toInt := Int32.le_toInt r3
        have zz4_h : r3.toInt ≤ 2147483647 := Int32.toInt_le r3
        have zz5_l : -2147483648 ≤ s15.2.1.toInt := Int32.le_toInt s15.2.1
        have zz5_h : s15.2.1.toInt ≤ 2147483647 := Int32.toInt_le s15.2.1
        refine sf_ite (fun c6_ => ?_) (fun c6_ => ?_)
        · have rc6_ : r3.toInt < s15.2.1.toInt := by rw [Int32.lt_iff_toInt_lt] at c6_; omega
          exact sf_some (show (-1 ≤ s15.2.2.toInt) ∧ (s15.2.2.toInt ≤ 5) from ⟨by omega, by omega⟩)
        · have rc6_ : ¬ r3.toInt < s15.2.1.toInt := by rw [Int32.lt_iff_toInt_lt] at c6_; omega
          exact sf_some (show (-1 ≤ s15.1.toInt) ∧ (s15.1.toInt ≤ 5) from ⟨by omega, by omega⟩)
      · obtain ⟨hvv4_0, hvv4_1⟩ := hvv4
        refine sf_bind (Q := fun (v5 : Int32) => (v5.toInt ≤ 32)) ?_ (fun v5 hqv5 hvv5 => ?_)
        · have zz7_l : -2147483648 ≤ r3.toInt := Int32.le_toInt r3
          have zz7_h : r3.toInt ≤ 2147483647 := Int32.toInt_le r3
          have zz8_l : -2147483648 ≤ s15.2.1.toInt := Int32.le_toInt s15.2.1
          have zz8_h : s15.2.1.toInt ≤ 2147483647 := Int32.toInt_le s15.2.1
          refine sf_ite (fun c9_ => ?_) (fun c9_ => ?_)
          · have rc9_ : r3.toInt < s15.2.1.toInt := by rw [Int32.lt_iff_toInt_lt] at c9_; omega
            exact sf_some (show (r3.toInt ≤ 32) from by omega)
          · have rc9_ : ¬ r3.toInt < s15.2.1.toInt := by rw [Int32.lt_iff_toInt_lt] at c9_; omega
            exact sf_some (show (s15.2.1.toInt ≤ 32) from by omega)
        · have hvv5_0 := hvv5
          have zz10_l : -2147483648 ≤ v5.toInt := Int32.le_toInt v5
          have zz10_h : v5.toInt ≤ 2147483647 := Int32.toInt_le v5
          have l_1 : (1 : Int32).toInt = 1 := by decide
          have e11_ : (s15.2.2 + (1 : Int32)).toInt = s15.2.2.toInt + (1 : Int32).toInt := i_add (by omega) (by omega)
          exact sf_some (show ((-1 ≤ v4.toInt) ∧ (v4.toInt ≤ 5) ∧ (v5.toInt ≤ 32) ∧ (0 ≤ (s15.2.2 + (1 : Int32)).toInt) ∧ ((s15.2.2 + (1 : Int32)).toInt ≤ 6)) ∧ (7 - (s15.2.2 + (1 : Int32)).toInt).toNat < (7 - s15.2.2.toInt).toNat from ⟨⟨by omega, by omega, by omega, by omega, by omega⟩, by omega⟩)
    · have rc3_ : ¬ s15.2.2.toInt < (w 134 18).toInt := by rw [Int32.lt_iff_toInt_lt] at c3_; omega
      exact sf_some (show (-1 ≤ s15.1.toInt) ∧ (s15.1.toInt ≤ 5) from ⟨by omega, by omega⟩)
  · obtain ⟨hvv6_0, hvv6_1⟩ := hvv6
    exact sf_some (show (True) from trivial)
set_option maxRecDepth 20000 in
set_option maxHeartbeats 2000000 in
theorem sf_X10_write {g : Nat → Int} (a1 : Int32) (a2 : Int32) (w : Mem) (hI : Inv g w) : Sf (fun (q : Int32 × Mem) => (Inv g q.2)) (f_X10_write a1 a2 w) := by
  obtain ⟨hg0, hg1⟩ := hI.1
  unfold f_X10_write
  have zz1_l : -2147483648 ≤ a1.toInt := Int32.le_toInt a1
  have zz1_h : a1.toInt ≤ 2147483647 := Int32.toInt_le a1
  refine sf_bind (sf_X10_isTraveller a1 w hI) (fun r1 hqr1 hpr1 => ?_)
  obtain ⟨hpr1_0, hpr1_1⟩ := hpr1
  have l_0 : (0 : Int32).toInt = 0 := by decide
  refine sf_ite (fun c2_ => ?_) (fun c2_ => ?_)
  · have rc2_ : r1.toInt = 0 := by rw [i_eq_iff] at c2_; omega
    have l_m1000000001 : (-1000000001 : Int32).toInt = -1000000001 := by decide
    exact sf_some (show (Inv g w) from hI)
  · have rc2_ : ¬ r1.toInt = 0 := by rw [i_eq_iff] at c2_; omega
    have zz3_l : -2147483648 ≤ a2.toInt := Int32.le_toInt a2
    have zz3_h : a2.toInt ≤ 2147483647 := Int32.toInt_le a2
    have l_9999 : (9999 : Int32).toInt = 9999 := by decide
    refine sf_bind (sf_X10_in a2 (0 : Int32) (9999 : Int32)) (fun r2 hqr2 hpr2 => ?_)
    obtain ⟨hpr2_0, hpr2_1, hpr2_2⟩ := hpr2
    refine sf_ite (fun c4_ => ?_) (fun c4_ => ?_)
    · have rc4_ : r2.toInt = 0 := by rw [i_eq_iff] at c4_; omega
      have l_m1000000002 : (-1000000002 : Int32).toInt = -1000000002 := by decide
      exact sf_some (show (Inv g w) from hI)
    · have rc4_ : ¬ r2.toInt = 0 := by rw [i_eq_iff] at c4_; omega
      have h5_ : 0 ≤ (w 134 37).toInt ∧ (w 134 37).toInt ≤ 20 := iv_134_37 hI
      have l_20 : (20 : Int32).toInt = 20 := by decide
      refine sf_ite (fun c6_ => ?_) (fun c6_ => ?_)
      · have rc6_ : (w 134 37).toInt = 20 := by rw [i_eq_iff] at c6_; omega
        have l_m1000000004 : (-1000000004 : Int32).toInt = -1000000004 := by decide
        exact sf_some (show (Inv g w) from hI)
      · have rc6_ : ¬ (w 134 37).toInt = 20 := by rw [i_eq_iff] at c6_; omega
        refine sf_wr (by omega) (by omega) (fun w3 ew3 => ?_)
        have n7_ : ((w 134 37).toNatClampNeg : Int) = (w 134 37).toInt := i_clq (by omega)
        have hIw3 : Inv g w3 := by rw [ew3]; exact ua_152 hI (by omega) (by omega) (show 0 ≤ a1.toInt ∧ a1.toInt ≤ 5 from by omega)
        have h8_ : 0 ≤ (w3 134 37).toInt ∧ (w3 134 37).toInt ≤ 20 := iv_134_37 hIw3
        have k9_ : (w3 134 37).toInt = (w 134 37).toInt := by rw [ew3, wu_ne (by omega)]
        refine sf_wr (by omega) (by omega) (fun w4 ew4 => ?_)
        have n10_ : ((w3 134 37).toNatClampNeg : Int) = (w3 134 37).toInt := i_clq (by omega)
        have hIw4 : Inv g w4 := by rw [ew4]; exact ub_153 hIw3
        have h11_ : 0 ≤ (w4 134 37).toInt ∧ (w4 134 37).toInt ≤ 20 := iv_134_37 hIw4
        have k12_ : (w4 134 37).toInt = (w3 134 37).toInt := by rw [ew4, wu_ne (by omega)]
        have l_1 : (1 : Int32).toInt = 1 := by decide
        have e13_ : ((w4 134 37) + (1 : Int32)).toInt = (w4 134 37).toInt + (1 : Int32).toInt := i_add (by omega) (by omega)
        refine sf_pw (fun w5 ew5 => ?_)
        have hIw5 : Inv g w5 := by rw [ew5]; exact up_134_37 hIw4 (show 0 ≤ ((w4 134 37) + (1 : Int32)).toInt ∧ ((w4 134 37) + (1 : Int32)).toInt ≤ 20 from by omega)
        have h14_ : 0 ≤ (w5 134 37).toInt ∧ (w5 134 37).toInt ≤ 20 := iv_134_37 hIw5
        have k15_ : (w5 134 37).toInt = ((w4 134 37) + (1 : Int32)).toInt := by rw [ew5, wu_at]
        exact sf_some (show (Inv g w5) from hIw5)
set_option maxRecDepth 20000 in
set_option maxHeartbeats 2000000 in
theorem sf_X10_judge {g : Nat → Int} (w : Mem) (hI : Inv g w) : Sf (fun (q : Int32) => (True)) (f_X10_judge w) := by
  obtain ⟨hg0, hg1⟩ := hI.1
  unfold f_X10_judge
  have l_0 : (0 : Int32).toInt = 0 := by decide
  refine sf_lp (fun (s2 : Int32) => (0 ≤ s2.toInt) ∧ (s2.toInt ≤ 20)) (fun (s2 : Int32) => (21 - s2.toInt).toNat) (fun s2 hss2 => ?_) _ _ (show (0 ≤ (0 : Int32).toInt) ∧ ((0 : Int32).toInt ≤ 20) from ⟨by omega, by omega⟩) (show (21 - (0 : Int32).toInt).toNat < 5000000000 from by omega)
  obtain ⟨hss2_0, hss2_1⟩ := hss2
  refine (?_ : Sf (lpP _ _ (21 - s2.toInt).toNat _) _)
  have h1_ : 0 ≤ (w 134 37).toInt ∧ (w 134 37).toInt ≤ 20 := iv_134_37 hI
  refine sf_ite (fun c2_ => ?_) (fun c2_ => ?_)
  · have rc2_ : s2.toInt < (w 134 37).toInt := by rw [Int32.lt_iff_toInt_lt] at c2_; omega
    refine sf_rd (by omega) (by omega) (fun x1 ex1 => ?_)
    have n3_ : (s2.toNatClampNeg : Int) = s2.toInt := i_clq (by omega)
    have fx1 : 0 ≤ x1.toInt ∧ x1.toInt ≤ 5 := by rw [ex1]; exact ia_152 (j := s2.toNatClampNeg) hI
    have l_13 : (13 : Int32).toInt = 13 := by decide
    have e4_ : ((13 : Int32) + x1).toInt = (13 : Int32).toInt + x1.toInt := i_add (by omega) (by omega)
    refine sf_rd (by omega) (by omega) (fun x2 ex2 => ?_)
    refine sf_rd (by omega) (by omega) (fun x3 ex3 => ?_)
    have zz5_l : -2147483648 ≤ x2.toInt := Int32.le_toInt x2
    have zz5_h : x2.toInt ≤ 2147483647 := Int32.toInt_le x2
    have zz6_l : -2147483648 ≤ x3.toInt := Int32.le_toInt x3
    have zz6_h : x3.toInt ≤ 2147483647 := Int32.toInt_le x3
    refine sf_ite (fun c7_ => ?_) (fun c7_ => ?_)
    · have rc7_ : x2.toInt = x3.toInt := by rw [i_eq_iff] at c7_; omega
      have l_1 : (1 : Int32).toInt = 1 := by decide
      have e8_ : (s2 + (1 : Int32)).toInt = s2.toInt + (1 : Int32).toInt := i_add (by omega) (by omega)
      exact sf_some (show ((0 ≤ (s2 + (1 : Int32)).toInt) ∧ ((s2 + (1 : Int32)).toInt ≤ 20)) ∧ (21 - (s2 + (1 : Int32)).toInt).toNat < (21 - s2.toInt).toNat from ⟨⟨by omega, by omega⟩, by omega⟩)
    · have rc7_ : ¬ x2.toInt = x3.toInt := by rw [i_eq_iff] at c7_; omega
      exact sf_some (show (True) from trivial)
  · have rc2_ : ¬ s2.toInt < (w 134 37).toInt := by rw [Int32.lt_iff_toInt_lt] at c2_; omega
    have l_m1 : (-1 : Int32).toInt = -1 := by decide
    exact sf_some (show (True) from trivial)
set_option maxRecDepth 20000 in
set_option maxHeartbeats 2000000 in
theorem sf_X10_tear {g : Nat → Int} (w : Mem) (hI : Inv g w) : Sf (fun (q : Int32 × Mem) => (Inv g q.2)) (f_X10_tear w) := by
  obtain ⟨hg0, hg1⟩ := hI.1
  unfold f_X10_tear
  refine sf_lt (fun t1 et1 => ?_)
  have ft1 : (0 ≤ t1.toInt) ∧ (t1.toInt ≤ 26) ∧ (t1.toInt = (w 134 34).toInt + (w 134 37).toInt) := by
    have h1_ : 0 ≤ (w 134 34).toInt ∧ (w 134 34).toInt ≤ 6 := iv_134_34 hI
    have h2_ : 0 ≤ (w 134 37).toInt ∧ (w 134 37).toInt ≤ 20 := iv_134_37 hI
    have e3_ : ((w 134 34) + (w 134 37)).toInt = (w 134 34).toInt + (w 134 37).toInt := i_add (by omega) (by omega)
    have f9 : t1.toInt = ((w 134 34) + (w 134 37)).toInt := by rw [et1]
    exact ⟨by omega, by omega, by omega⟩
  have l_0 : (0 : Int32).toInt = 0 := by decide
  refine sf_pw (fun w2 ew2 => ?_)
  have hIw2 : Inv g w2 := by rw [ew2]; exact up_134_34 hI (show 0 ≤ (0 : Int32).toInt ∧ (0 : Int32).toInt ≤ 6 from by omega)
  refine sf_pw (fun w3 ew3 => ?_)
  have hIw3 : Inv g w3 := by rw [ew3]; exact up_134_37 hIw2 (show 0 ≤ (0 : Int32).toInt ∧ (0 : Int32).toInt ≤ 20 from by omega)
  exact sf_some (show (Inv g w3) from hIw3)
set_option maxRecDepth 20000 in
set_option maxHeartbeats 2000000 in
theorem sf_X10_seed {g : Nat → Int} (a1 : Int32) (w : Mem) (hI : Inv g w) : Sf (fun (q : Int32 × Mem) => (Inv g q.2)) (f_X10_seed a1 w) := by
  obtain ⟨hg0, hg1⟩ := hI.1
  unfold f_X10_seed
  have zz1_l : -2147483648 ≤ a1.toInt := Int32.le_toInt a1
  have zz1_h : a1.toInt ≤ 2147483647 := Int32.toInt_le a1
  have l_0 : (0 : Int32).toInt = 0 := by decide
  refine sf_ite (fun c2_ => ?_) (fun c2_ => ?_)
  · have rc2_ : a1.toInt < 0 := by rw [Int32.lt_iff_toInt_lt] at c2_; omega
    have l_m1000000002 : (-1000000002 : Int32).toInt = -1000000002 := by decide
    exact sf_some (show (Inv g w) from hI)
  · have rc2_ : ¬ a1.toInt < 0 := by rw [Int32.lt_iff_toInt_lt] at c2_; omega
    refine sf_lt (fun t1 et1 => ?_)
    have zz3_l : -2147483648 ≤ t1.toInt := Int32.le_toInt t1
    have zz3_h : t1.toInt ≤ 2147483647 := Int32.toInt_le t1
    refine sf_pl (i_lok _) (fun w2 ew2 => ?_)
    have k4_ : ((a1).toInt64).toInt32.toInt = a1.toInt := by rw [Int32.toInt32_toInt64]
    have hIw2 : Inv g w2 := by rw [ew2]; exact up_134_28 hI (show 0 ≤ ((a1).toInt64).toInt32.toInt from by omega)
    exact sf_some (show (Inv g w2) from hIw2)
set_option maxRecDepth 20000 in
set_option maxHeartbeats 2000000 in
theorem sf_X10_keep {g : Nat → Int} (a1 : Int32) (w : Mem) (hI : Inv g w) : Sf (fun (q : Int32 × Mem) => (∃ g2 : Nat → Int, Inv g2 q.2)) (f_X10_keep a1 w) := by
  unfold f_X10_keep
  refine sf_bind (sf_X10_in a1 (0 : Int32) (1 : Int32)) (fun r1 hq1 hp1 => ?_)
  obtain ⟨hp1_0, hp1_1, hp1_2⟩ := hp1
  have l0 : (0 : Int32).toInt = 0 := by decide
  have l1 : (1 : Int32).toInt = 1 := by decide
  have l25 : (25 : Int32).toInt = 25 := by decide
  refine sf_ite (fun c => sf_some (show ∃ g2 : Nat → Int, Inv g2 w from ⟨g, hI⟩)) (fun c => ?_)
  rw [i_eq_iff] at c
  have ha : 0 ≤ a1.toInt ∧ a1.toInt ≤ 1 := by omega
  have hn := i_clq ha.1
  refine sf_wr (by omega) (by omega) (fun w2 ew2 => ?_)
  refine sf_wrl (by omega) (by omega) (i_lok _) (fun w3 ew3 => ?_)
  refine sf_pw (fun w4 ew4 => ?_)
  obtain ⟨A, hA⟩ : ∃ A : Nat, A = a1.toNatClampNeg := ⟨_, rfl⟩
  refine sf_bind (Q := fun (v : Mem) => (∀ j, j < 25 → v 155 (25 * A + j) = w4 146 j) ∧ ∀ k i, ¬ (k = 155 ∧ 25 * A ≤ i ∧ i < 25 * A + 25) → v k i = w4 k i) ?_ (fun v hqv hv => ?_)
  · refine sf_lp (fun (s : Int32 × Mem) => 0 ≤ s.1.toInt ∧ s.1.toInt ≤ 25 ∧ (∀ j : Nat, (j : Int) < s.1.toInt → s.2 155 (25 * A + j) = w4 146 j) ∧ ∀ k i : Nat, ¬ (k = 155 ∧ 25 * A ≤ i ∧ (i : Int) < 25 * A + s.1.toInt) → s.2 k i = w4 k i) (fun (s : Int32 × Mem) => (26 - s.1.toInt).toNat) (fun s hs => ?_) _ _ ⟨show 0 ≤ (0 : Int32).toInt by decide, show (0 : Int32).toInt ≤ 25 by decide, fun j hj => absurd hj (by show ¬ (j : Int) < (0 : Int32).toInt; omega), fun k i _ => rfl⟩ (by show (26 - (0 : Int32).toInt).toNat < 5000000000; decide)
    obtain ⟨h0, h1, h2, h3⟩ := hs
    refine (?_ : Sf (lpP _ _ (26 - s.1.toInt).toNat _) _)
    refine sf_ite (fun c2 => ?_) (fun c2 => ?_)
    · rw [Int32.lt_iff_toInt_lt] at c2
      have hs1 := i_clq h0
      refine sf_rd (by omega) (by omega) (fun x ex => ?_)
      have e1 : ((25 : Int32) * a1).toInt = 25 * a1.toInt := i_mulkl l25 (by omega) (by omega)
      have e2 : ((25 : Int32) * a1 + s.1).toInt = ((25 : Int32) * a1).toInt + s.1.toInt := i_add (by omega) (by omega)
      have hi := i_clq (i := (25 : Int32) * a1 + s.1) (by omega)
      refine sf_wr (by omega) (by omega) (fun w6 ew6 => ?_)
      have e3 : (s.1 + (1 : Int32)).toInt = s.1.toInt + 1 := i_addk l1 (by omega) (by omega)
      have hix : ((25 : Int32) * a1 + s.1).toNatClampNeg = 25 * A + s.1.toNatClampNeg := by omega
      refine sf_some (show (0 ≤ (s.1 + (1 : Int32)).toInt ∧ (s.1 + (1 : Int32)).toInt ≤ 25 ∧ (∀ j : Nat, (j : Int) < (s.1 + (1 : Int32)).toInt → w6 155 (25 * A + j) = w4 146 j) ∧ ∀ k i : Nat, ¬ (k = 155 ∧ 25 * A ≤ i ∧ (i : Int) < 25 * A + (s.1 + (1 : Int32)).toInt) → w6 k i = w4 k i) ∧ (26 - (s.1 + (1 : Int32)).toInt).toNat < (26 - s.1.toInt).toNat from ⟨⟨by omega, by omega, fun j hj => ?_, fun k i hki => ?_⟩, by omega⟩)
      · rw [ew6, hix]
        by_cases e : j = s.1.toNatClampNeg
        · rw [← e, wu_at, ex, ← e]
          exact h3 146 j (by omega)
        · rw [wu_ne (by omega)]
          exact h2 j (by omega)
      · rw [ew6, hix, wu_ne (by omega)]
        exact h3 k i (by omega)
    · rw [Int32.lt_iff_toInt_lt] at c2
      exact sf_some (show (∀ j, j < 25 → s.2 155 (25 * A + j) = w4 146 j) ∧ ∀ k i, ¬ (k = 155 ∧ 25 * A ≤ i ∧ i < 25 * A + 25) → s.2 k i = w4 k i from ⟨fun j hj => h2 j (by omega), fun k i hki => h3 k i (by omega)⟩)
  · obtain ⟨hv1, hv2⟩ := hv
    have hA1 : A = 0 ∨ A = 1 := by omega
    have hw4 : ∀ k i, ¬ (k = 154 ∧ i = A) → ¬ (k = 156 ∧ i = A) → ¬ (k = 134 ∧ i = 25) → w4 k i = w k i := by
      intro k i c1 c2 c3
      rw [ew4, wu_ne c3, ew3, wu_ne (by omega), ew2, wu_ne (by omega)]
    have h154 : v 154 A = 1 := by rw [hv2 154 A (by omega), ew4, wu_ne (by omega), ew3, wu_ne (by omega), ew2, hA, wu_at]
    have h156 : v 156 A = w 134 28 := by
      rw [hv2 156 A (by omega), ew4, wu_ne (by omega), ew3, hA, wu_at, Int32.toInt32_toInt64, ew2, wu_ne (by omega)]
    have h25 : v 134 25 = 0 := by rw [hv2 134 25 (by omega), ew4, wu_at]
    have hg := hI.1
    refine sf_some (show ∃ g2 : Nat → Int, Inv g2 v from ⟨fun j => if j = 1 + A then 1 else g j, ?_, ?_⟩)
    · show 0 ≤ (if 0 = 1 + A then 1 else g 0) ∧ (if 0 = 1 + A then 1 else g 0) ≤ 1
      rw [if_neg (by omega)]
      exact hg
    · have n4 := ia_146 (j := 4) hI
      have n6 := ia_146 (j := 6) hI
      intro k i
      by_cases e134 : k = 134
      · subst e134
        by_cases e25 : i = 25
        · subst e25
          rw [h25]
          show 0 ≤ (0 : Int32).toInt ∧ (0 : Int32).toInt ≤ 30 * (if 0 = 1 + A then 1 else g 0)
          rw [if_neg (by omega)]
          omega
        · rw [hv2 134 i (by omega), hw4 134 i (by omega) (by omega) (by omega)]
          have h9 := hI.2 134 i
          unfold Rg at h9 ⊢
          simp only [show ¬ (0 = 1 + A) by omega, if_false] at h9 ⊢
          exact h9
      by_cases e146 : k = 146
      · subst e146
        rw [hv2 146 i (by omega), hw4 146 i (by omega) (by omega) (by omega)]
        have h9 := hI.2 146 i
        unfold Rg at h9 ⊢
        simp only [show ¬ (0 = 1 + A) by omega, if_false] at h9 ⊢
        exact h9
      by_cases e154 : k = 154
      · subst e154
        have h9 := ia_154 (j := i) hI
        show ((i : Int) = 0 → _ = (if 1 = 1 + A then 1 else g 1)) ∧ ((i : Int) = 1 → _ = (if 2 = 1 + A then 1 else g 2)) ∧ ((i : Int) < 2 → _)
        by_cases ei : i = A
        · rw [ei, h154]
          refine ⟨fun e => ?_, fun e => ?_, fun _ => by decide⟩
          · rw [if_pos (by omega)]; decide
          · rw [if_pos (by omega)]; decide
        · rw [hv2 154 i (by omega), hw4 154 i (by omega) (by omega) (by omega)]
          refine ⟨fun e => ?_, fun e => ?_, h9.2.2⟩
          · rw [if_neg (by omega)]; exact h9.1 e
          · rw [if_neg (by omega)]; exact h9.2.1 e
      by_cases e155 : k = 155
      · subst e155
        have h9 := ia_155 (j := i) hI
        show ((i : Int) % 25 = 4 → _) ∧ ((i : Int) % 25 = 6 → _) ∧ ((i : Int) = 4 → _ ≤ 6 * (if 0 = 1 + A then 1 else g 0) + 5 - 6 * (if 1 = 1 + A then 1 else g 1)) ∧ ((i : Int) = 29 → _ ≤ 6 * (if 0 = 1 + A then 1 else g 0) + 5 - 6 * (if 2 = 1 + A then 1 else g 2))
        rw [if_neg (show ¬ (0 = 1 + A) by omega)]
        by_cases hr : 25 * A ≤ i ∧ i < 25 * A + 25
        · obtain ⟨j, hj⟩ : ∃ j, i = 25 * A + j := ⟨i - 25 * A, by omega⟩
          have hj2 : j < 25 := by omega
          rw [hj, hv1 j hj2, hw4 146 j (by omega) (by omega) (by omega)]
          have h8 := ia_146 (j := j) hI
          refine ⟨fun e => ?_, fun e => ?_, fun e => ?_, fun e => ?_⟩
          · have := h8.1 (by omega); omega
          · have := h8.2 (by omega); omega
          · have := h8.1 (by omega)
            rw [if_pos (by omega)]; omega
          · have := h8.1 (by omega)
            rw [if_pos (by omega)]; omega
        · rw [hv2 155 i (by omega), hw4 155 i (by omega) (by omega) (by omega)]
          refine ⟨h9.1, h9.2.1, fun e => ?_, fun e => ?_⟩
          · rw [if_neg (by omega)]; exact h9.2.2.1 e
          · rw [if_neg (by omega)]; exact h9.2.2.2 e
      by_cases e156 : k = 156 ∧ i = A
      · obtain ⟨rfl, rfl⟩ := e156
        rw [h156]
        exact iv_134_28 hI
      · rw [hv2 k i (by omega), hw4 k i (by omega) (by omega) (by omega)]
        exact rg_nog e134 e146 e154 e155 (hI.2 k i)
set_option maxRecDepth 20000 in
set_option maxHeartbeats 2000000 in
theorem sf_X10_goBack {g : Nat → Int} (a1 : Int32) (w : Mem) (hI : Inv g w) : Sf (fun (q : Int32 × Mem) => (Inv g q.2)) (f_X10_goBack a1 w) := by
  obtain ⟨hg0, hg1⟩ := hI.1
  unfold f_X10_goBack
  have zz1_l : -2147483648 ≤ a1.toInt := Int32.le_toInt a1
  have zz1_h : a1.toInt ≤ 2147483647 := Int32.toInt_le a1
  have l_0 : (0 : Int32).toInt = 0 := by decide
  have l_1 : (1 : Int32).toInt = 1 := by decide
  refine sf_bind (sf_X10_in a1 (0 : Int32) (1 : Int32)) (fun r1 hqr1 hpr1 => ?_)
  obtain ⟨hpr1_0, hpr1_1, hpr1_2⟩ := hpr1
  refine sf_ite (fun c2_ => ?_) (fun c2_ => ?_)
  · have rc2_ : r1.toInt = 0 := by rw [i_eq_iff] at c2_; omega
    have l_m1000000001 : (-1000000001 : Int32).toInt = -1000000001 := by decide
    exact sf_some (show (Inv g w) from hI)
  · have rc2_ : ¬ r1.toInt = 0 := by rw [i_eq_iff] at c2_; omega
    refine sf_rd (by omega) (by omega) (fun x2 ex2 => ?_)
    have n3_ : (a1.toNatClampNeg : Int) = a1.toInt := i_clq (by omega)
    have fx2 : (a1.toInt = 0 → x2.toInt = g 1) ∧ (a1.toInt = 1 → x2.toInt = g 2) ∧ (a1.toInt < 2 → 0 ≤ x2.toInt ∧ x2.toInt ≤ 1) := by have h9 := ia_154 (j := a1.toNatClampNeg) hI; rw [← ex2, i_clq (by omega)] at h9; exact h9
    refine sf_ite (fun c4_ => ?_) (fun c4_ => ?_)
    · have rc4_ : x2.toInt = 0 := by rw [i_eq_iff] at c4_; omega
      have l_m1000000003 : (-1000000003 : Int32).toInt = -1000000003 := by decide
      exact sf_some (show (Inv g w) from hI)
    · have rc4_ : ¬ x2.toInt = 0 := by rw [i_eq_iff] at c4_; omega
      refine sf_rdl (by omega) (by omega) (fun x3 ex3 => ?_)
      have fx3 : 0 ≤ x3.toInt32.toInt := by rw [ex3, Int32.toInt32_toInt64]; exact ia_156 (j := a1.toNatClampNeg) hI
      refine sf_pl (by rw [ex3]; exact i_lok _) (fun w4 ew4 => ?_)
      have hIw4 : Inv g w4 := by rw [ew4]; exact up_134_28 hI (show 0 ≤ x3.toInt32.toInt from by omega)
      refine sf_pw (fun w5 ew5 => ?_)
      have hIw5 : Inv g w5 := by rw [ew5]; exact up_134_25 hIw4 (show 0 ≤ (0 : Int32).toInt ∧ (0 : Int32).toInt ≤ 30 * g 0 from by omega)
      refine sf_bind (Q := fun (v8 : Mem) => (Inv g v8)) ?_ (fun v8 hqv8 hvv8 => ?_)
      · refine sf_lp (fun (s41 : (Int32 × Mem)) => (Inv g s41.2) ∧ (0 ≤ s41.1.toInt) ∧ (s41.1.toInt ≤ 25)) (fun (s41 : (Int32 × Mem)) => (26 - s41.1.toInt).toNat) (fun s41 hss41 => ?_) _ _ (show (Inv g w5) ∧ (0 ≤ (0 : Int32).toInt) ∧ ((0 : Int32).toInt ≤ 25) from ⟨hIw5, by omega, by omega⟩) (show (26 - (0 : Int32).toInt).toNat < 5000000000 from by omega)
        obtain ⟨hIs41, hss41_1, hss41_2⟩ := hss41
        refine (?_ : Sf (lpP _ _ (26 - s41.1.toInt).toNat _) _)
        have l_25 : (25 : Int32).toInt = 25 := by decide
        refine sf_ite (fun c5_ => ?_) (fun c5_ => ?_)
        · have rc5_ : s41.1.toInt < 25 := by rw [Int32.lt_iff_toInt_lt] at c5_; omega
          have e6_ : ((25 : Int32) * a1).toInt = 25 * a1.toInt := i_mulkl (by decide) (by omega) (by omega)
          have e7_ : (((25 : Int32) * a1) + s41.1).toInt = ((25 : Int32) * a1).toInt + s41.1.toInt := i_add (by omega) (by omega)
          refine sf_rd (by omega) (by omega) (fun x6 ex6 => ?_)
          have n8_ : ((((25 : Int32) * a1) + s41.1).toNatClampNeg : Int) = (((25 : Int32) * a1) + s41.1).toInt := i_clq (by omega)
          have fx6 : ((((25 : Int32) * a1) + s41.1).toInt % 25 = 4 → -1 ≤ x6.toInt ∧ x6.toInt ≤ 5) ∧ ((((25 : Int32) * a1) + s41.1).toInt % 25 = 6 → -1 ≤ x6.toInt ∧ x6.toInt ≤ 7) ∧ ((((25 : Int32) * a1) + s41.1).toInt = 4 → x6.toInt ≤ 6 * g 0 + 5 - 6 * g 1) ∧ ((((25 : Int32) * a1) + s41.1).toInt = 29 → x6.toInt ≤ 6 * g 0 + 5 - 6 * g 2) := by have h9 := ia_155 (j := (((25 : Int32) * a1) + s41.1).toNatClampNeg) hIs41; rw [← ex6, i_clq (by omega)] at h9; exact h9
          have zz9_l : -2147483648 ≤ x6.toInt := Int32.le_toInt x6
          have zz9_h : x6.toInt ≤ 2147483647 := Int32.toInt_le x6
          refine sf_wr (by omega) (by omega) (fun w7 ew7 => ?_)
          have n10_ : (s41.1.toNatClampNeg : Int) = s41.1.toInt := i_clq (by omega)
          have hIw7 : Inv g w7 := by rw [ew7]; exact ua_146 hIs41 (by omega) (by omega) (show (s41.1.toInt = 4 → -1 ≤ x6.toInt ∧ x6.toInt ≤ 6 * g 0 - 1) ∧ (s41.1.toInt = 6 → -1 ≤ x6.toInt ∧ x6.toInt ≤ 7) from by omega)
          have e11_ : (s41.1 + (1 : Int32)).toInt = s41.1.toInt + (1 : Int32).toInt := i_add (by omega) (by omega)
          exact sf_some (show ((Inv g w7) ∧ (0 ≤ (s41.1 + (1 : Int32)).toInt) ∧ ((s41.1 + (1 : Int32)).toInt ≤ 25)) ∧ (26 - (s41.1 + (1 : Int32)).toInt).toNat < (26 - s41.1.toInt).toNat from ⟨⟨hIw7, by omega, by omega⟩, by omega⟩)
        · have rc5_ : ¬ s41.1.toInt < 25 := by rw [Int32.lt_iff_toInt_lt] at c5_; omega
          exact sf_some (show (Inv g s41.2) from hIs41)
      · have hIv8 := hvv8
        exact sf_some (show (Inv g v8) from hIv8)
