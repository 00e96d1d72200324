set_option maxRecDepth 20000 in
set_option maxHeartbeats 2000000 in
theorem sf_X10_payFor {g : Nat → Int} (a1 : Int32) (w : Mem) (hI : Inv g w) (pre0 : g 0 = 1) : Sf (fun (q : Int32) => (True)) (f_X10_payFor a1 w) := by
  obtain ⟨hg0, hg1⟩ := hI.1
  unfold f_X10_payFor
  have h1_ : g 0 ≤ (w 134 15).toInt ∧ (w 134 15).toInt ≤ 60 * g 0 := iv_134_15 hI
  have l_0 : (0 : Int32).toInt = 0 := by decide
  refine sf_nz (by rw [i_eq_iff]; omega) ?_
  have zz2_l : -2147483648 ≤ a1.toInt := Int32.le_toInt a1
  have zz2_h : a1.toInt ≤ 2147483647 := Int32.toInt_le a1
  have h3_ : g 0 ≤ (w 134 16).toInt ∧ (w 134 16).toInt ≤ 9 * g 0 := iv_134_16 hI
  exact sf_some (show (True) from trivial)
set_option maxRecDepth 20000 in
set_option maxHeartbeats 2000000 in
theorem sf_X10_worthOfAll {g : Nat → Int} (a1 : Int32) (w : Mem) (hI : Inv g w) : Sf (fun (q : Int32 × Mem) => (Inv g q.2)) (f_X10_worthOfAll a1 w) := by
  obtain ⟨hg0, hg1⟩ := hI.1
  unfold f_X10_worthOfAll
  refine sf_bind (Q := fun (v3 : (Int32 × Mem)) => (Inv g v3.2) ∧ ((v3.2 134 18).toInt = (w 134 18).toInt)) ?_ (fun v3 hqv3 hvv3 => ?_)
  · have l_0 : (0 : Int32).toInt = 0 := by decide
    have h1_ : 0 ≤ (w 134 18).toInt ∧ (w 134 18).toInt ≤ 6 * g 0 := iv_134_18 hI
    refine sf_lp (fun (s4 : (Int32 × Int32 × Mem)) => (Inv g s4.2.2) ∧ (0 ≤ s4.2.1.toInt) ∧ (s4.2.1.toInt ≤ 6) ∧ ((s4.2.2 134 18).toInt = (w 134 18).toInt)) (fun (s4 : (Int32 × Int32 × Mem)) => (7 - s4.2.1.toInt).toNat) (fun s4 hss4 => ?_) _ _ (show (Inv g w) ∧ (0 ≤ (0 : Int32).toInt) ∧ ((0 : Int32).toInt ≤ 6) ∧ ((w 134 18).toInt = (w 134 18).toInt) from ⟨hI, by omega, by omega, rfl⟩) (show (7 - (0 : Int32).toInt).toNat < 5000000000 from by omega)
    obtain ⟨hIs4, hss4_1, hss4_2, hss4_3⟩ := hss4
    refine (?_ : Sf (lpP _ _ (7 - s4.2.1.toInt).toNat _) _)
    have h2_ : 0 ≤ (s4.2.2 134 18).toInt ∧ (s4.2.2 134 18).toInt ≤ 6 * g 0 := iv_134_18 hIs4
    refine sf_ite (fun c3_ => ?_) (fun c3_ => ?_)
    · have rc3_ : s4.2.1.toInt < (s4.2.2 134 18).toInt := by rw [Int32.lt_iff_toInt_lt] at c3_; omega
      have zz4_l : -2147483648 ≤ a1.toInt := Int32.le_toInt a1
      have zz4_h : a1.toInt ≤ 2147483647 := Int32.toInt_le a1
      refine sf_bind (sf_X10_layTalk s4.2.1 a1 s4.2.2 hIs4 (by omega) (by omega)) (fun w1 hqw1 hpw1 => ?_)
      have hIw1 := hpw1
      have zz5_l : -2147483648 ≤ (w1 134 30).toInt := Int32.le_toInt (w1 134 30)
      have zz5_h : (w1 134 30).toInt ≤ 2147483647 := Int32.toInt_le (w1 134 30)
      refine sf_bind (sf_X10_payFor (w1 134 30) w1 hIw1 (by omega)) (fun r2 hqr2 hpr2 => ?_)
      have zz6_l : -2147483648 ≤ s4.1.toInt := Int32.le_toInt s4.1
      have zz6_h : s4.1.toInt ≤ 2147483647 := Int32.toInt_le s4.1
      have zz7_l : -2147483648 ≤ r2.toInt := Int32.le_toInt r2
      have zz7_h : r2.toInt ≤ 2147483647 := Int32.toInt_le r2
      have l_1 : (1 : Int32).toInt = 1 := by decide
      have e8_ : (s4.2.1 + (1 : Int32)).toInt = s4.2.1.toInt + (1 : Int32).toInt := i_add (by omega) (by omega)
      have h9_ : 0 ≤ (w1 134 18).toInt ∧ (w1 134 18).toInt ≤ 6 * g 0 := iv_134_18 hIw1
      have k10_ : (w1 134 18).toInt = (s4.2.2 134 18).toInt := congrArg Int32.toInt (fr_X10_layTalk s4.2.1 a1 s4.2.2 w1 hqw1 134 18 (by omega))
      exact sf_some (show ((Inv g w1) ∧ (0 ≤ (s4.2.1 + (1 : Int32)).toInt) ∧ ((s4.2.1 + (1 : Int32)).toInt ≤ 6) ∧ ((w1 134 18).toInt = (w 134 18).toInt)) ∧ (7 - (s4.2.1 + (1 : Int32)).toInt).toNat < (7 - s4.2.1.toInt).toNat from ⟨⟨hIw1, by omega, by omega, by omega⟩, by omega⟩)
    · have rc3_ : ¬ s4.2.1.toInt < (s4.2.2 134 18).toInt := by rw [Int32.lt_iff_toInt_lt] at c3_; omega
      have zz11_l : -2147483648 ≤ s4.1.toInt := Int32.le_toInt s4.1
      have zz11_h : s4.1.toInt ≤ 2147483647 := Int32.toInt_le s4.1
      exact sf_some (show (Inv g s4.2.2) ∧ ((s4.2.2 134 18).toInt = (w 134 18).toInt) from ⟨hIs4, by omega⟩)
  · obtain ⟨hIv3, hvv3_1⟩ := hvv3
    have h12_ : 0 ≤ (w 134 18).toInt ∧ (w 134 18).toInt ≤ 6 * g 0 := iv_134_18 hI
    have h13_ : 0 ≤ (v3.2 134 18).toInt ∧ (v3.2 134 18).toInt ≤ 6 * g 0 := iv_134_18 hIv3
    have zz14_l : -2147483648 ≤ v3.1.toInt := Int32.le_toInt v3.1
    have zz14_h : v3.1.toInt ≤ 2147483647 := Int32.toInt_le v3.1
    exact sf_some (show (Inv g v3.2) from hIv3)
set_option maxRecDepth 20000 in
set_option maxHeartbeats 2000000 in
theorem sf_X10_bestToLearn {g : Nat → Int} (w : Mem) (hI : Inv g w) : Sf (fun (q : Int32 × Mem) => (Inv g q.2)) (f_X10_bestToLearn w) := by
  obtain ⟨hg0, hg1⟩ := hI.1
  unfold f_X10_bestToLearn
  refine sf_bind (Q := fun (v8 : (Int32 × Mem)) => (Inv g v8.2) ∧ (-1 ≤ v8.1.toInt) ∧ (v8.1.toInt ≤ 7) ∧ ((v8.2 134 17).toInt = (w 134 17).toInt)) ?_ (fun v8 hqv8 hvv8 => ?_)
  · have l_m1 : (-1 : Int32).toInt = -1 := by decide
    have l_0 : (0 : Int32).toInt = 0 := by decide
    have h1_ : 0 ≤ (w 134 17).toInt ∧ (w 134 17).toInt ≤ 8 * g 0 := iv_134_17 hI
    refine sf_lp (fun (s6 : (Int32 × Int32 × Int32 × Mem)) => (Inv g s6.2.2.2) ∧ (-1 ≤ s6.1.toInt) ∧ (s6.1.toInt ≤ 7) ∧ (-1 ≤ s6.2.1.toInt) ∧ (0 ≤ s6.2.2.1.toInt) ∧ (s6.2.2.1.toInt ≤ 8) ∧ ((s6.2.2.2 134 17).toInt = (w 134 17).toInt)) (fun (s6 : (Int32 × Int32 × Int32 × Mem)) => (9 - s6.2.2.1.toInt).toNat) (fun s6 hss6 => ?_) _ _ (show (Inv g w) ∧ (-1 ≤ (-1 : Int32).toInt) ∧ ((-1 : Int32).toInt ≤ 7) ∧ (-1 ≤ (-1 : Int32).toInt) ∧ (0 ≤ (0 : Int32).toInt) ∧ ((0 : Int32).toInt ≤ 8) ∧ ((w 134 17).toInt = (w 134 17).toInt) from ⟨hI, by omega, by omega, by omega, by omega, by omega, rfl⟩) (show (9 - (0 : Int32).toInt).toNat < 5000000000 from by omega)
    obtain ⟨hIs6, hss6_1, hss6_2, hss6_3, hss6_4, hss6_5, hss6_6⟩ := hss6
    refine (?_ : Sf (lpP _ _ (9 - s6.2.2.1.toInt).toNat _) _)
    have h2_ : 0 ≤ (s6.2.2.2 134 17).toInt ∧ (s6.2.2.2 134 17).toInt ≤ 8 * g 0 := iv_134_17 hIs6
    refine sf_ite (fun c3_ => ?_) (fun c3_ => ?_)
    · have rc3_ : s6.2.2.1.toInt < (s6.2.2.2 134 17).toInt := by rw [Int32.lt_iff_toInt_lt] at c3_; omega
      have l_3 : (3 : Int32).toInt = 3 := by decide
      refine sf_rd (by omega) (by omega) (fun x1 ex1 => ?_)
      have zz4_l : -2147483648 ≤ (s6.2.2.2 146 3).toInt := Int32.le_toInt (s6.2.2.2 146 3)
      have zz4_h : (s6.2.2.2 146 3).toInt ≤ 2147483647 := Int32.toInt_le (s6.2.2.2 146 3)
      have fx1 : x1.toInt = (s6.2.2.2 146 3).toInt := by rw [ex1, show (3 : Int32).toNatClampNeg = 3 by decide]
      have zz5_l : -2147483648 ≤ x1.toInt := Int32.le_toInt x1
      have zz5_h : x1.toInt ≤ 2147483647 := Int32.toInt_le x1
      refine sf_bind (sf_X10_has x1 s6.2.2.1) (fun r2 hqr2 hpr2 => ?_)
      obtain ⟨hpr2_0, hpr2_1⟩ := hpr2
      refine sf_bind (Q := fun (v3 : (Int32 × Mem)) => (Inv g v3.2) ∧ ((v3.2 134 17).toInt = (s6.2.2.2 134 17).toInt)) ?_ (fun v3 hqv3 hvv3 => ?_)
      · refine sf_ite (fun c6_ => ?_) (fun c6_ => ?_)
        · have rc6_ : r2.toInt = 0 := by rw [i_eq_iff] at c6_; omega
          refine sf_rd (by omega) (by omega) (fun x6 ex6 => ?_)
          have fx6 : x6.toInt = (s6.2.2.2 146 3).toInt := by rw [ex6, show (3 : Int32).toNatClampNeg = 3 by decide]
          have zz7_l : -2147483648 ≤ x6.toInt := Int32.le_toInt x6
          have zz7_h : x6.toInt ≤ 2147483647 := Int32.toInt_le x6
          have l_1 : (1 : Int32).toInt = 1 := by decide
          have e8_ : 1 ≤ ((1 : Int32) <<< (s6.2.2.1 &&& 31)).toInt ∧ ((1 : Int32) <<< (s6.2.2.1 &&& 31)).toInt ≤ 128 := i_shl1 (k := 7) (by decide) (by omega) (show _ ≤ 7 from by omega)
          refine sf_bind (sf_X10_worthOfAll (x6 ||| ((1 : Int32) <<< (s6.2.2.1 &&& 31))) s6.2.2.2 hIs6) (fun q7 hqq7 hpq7 => ?_)
          have hIq7 := hpq7
          have zz9_l : -2147483648 ≤ q7.1.toInt := Int32.le_toInt q7.1
          have zz9_h : q7.1.toInt ≤ 2147483647 := Int32.toInt_le q7.1
          have h10_ : 0 ≤ (q7.2 134 17).toInt ∧ (q7.2 134 17).toInt ≤ 8 * g 0 := iv_134_17 hIq7
          have k11_ : (q7.2 134 17).toInt = (s6.2.2.2 134 17).toInt := congrArg Int32.toInt (fr_X10_worthOfAll (x6 ||| ((1 : Int32) <<< (s6.2.2.1 &&& 31))) s6.2.2.2 q7 hqq7 134 17 (by omega))
          exact sf_some (show (Inv g q7.2) ∧ ((q7.2 134 17).toInt = (s6.2.2.2 134 17).toInt) from ⟨hIq7, by omega⟩)
        · have rc6_ : ¬ r2.toInt = 0 := by rw [i_eq_iff] at c6_; omega
          exact sf_some (show (Inv g s6.2.2.2) ∧ ((s6.2.2.2 134 17).toInt = (s6.2.2.2 134 17).toInt) from ⟨hIs6, rfl⟩)
      · obtain ⟨hIv3, hvv3_1⟩ := hvv3
        have h12_ : 0 ≤ (v3.2 134 17).toInt ∧ (v3.2 134 17).toInt ≤ 8 * g 0 := iv_134_17 hIv3
        refine sf_bind (Q := fun (v4 : Int32) => (-1 ≤ v4.toInt) ∧ (v4.toInt ≤ 7)) ?_ (fun v4 hqv4 hvv4 => ?_)
        · have zz13_l : -2147483648 ≤ s6.2.1.toInt := Int32.le_toInt s6.2.1
          have zz13_h : s6.2.1.toInt ≤ 2147483647 := Int32.toInt_le s6.2.1
          have zz14_l : -2147483648 ≤ v3.1.toInt := Int32.le_toInt v3.1
          have zz14_h : v3.1.toInt ≤ 2147483647 := Int32.toInt_le v3.1
          refine sf_ite (fun c15_ => ?_) (fun c15_ => ?_)
          · have rc15_ : s6.2.1.toInt < v3.1.toInt := by rw [Int32.lt_iff_toInt_lt] at c15_; omega
            exact sf_some (show (-1 ≤ s6.2.2.1.toInt) ∧ (s6.2.2.1.toInt ≤ 7) from ⟨by omega, by omega⟩)
          · have rc15_ : ¬ s6.2.1.toInt < v3.1.toInt := by rw [Int32.lt_iff_toInt_lt] at c15_; omega
            exact sf_some (show (-1 ≤ s6.1.toInt) ∧ (s6.1.toInt ≤ 7) from ⟨by omega, by omega⟩)
        · obtain ⟨hvv4_0, hvv4_1⟩ := hvv4
          refine sf_bind (Q := fun (v5 : Int32) => (-1 ≤ v5.toInt)) ?_ (fun v5 hqv5 hvv5 => ?_)
          · have zz16_l : -2147483648 ≤ s6.2.1.toInt := Int32.le_toInt s6.2.1
            have zz16_h : s6.2.1.toInt ≤ 2147483647 := Int32.toInt_le s6.2.1
            have zz17_l : -2147483648 ≤ v3.1.toInt := Int32.le_toInt v3.1
            have zz17_h : v3.1.toInt ≤ 2147483647 := Int32.toInt_le v3.1
            refine sf_ite (fun c18_ => ?_) (fun c18_ => ?_)
            · have rc18_ : s6.2.1.toInt < v3.1.toInt := by rw [Int32.lt_iff_toInt_lt] at c18_; omega
              exact sf_some (show (-1 ≤ v3.1.toInt) from by omega)
            · have rc18_ : ¬ s6.2.1.toInt < v3.1.toInt := by rw [Int32.lt_iff_toInt_lt] at c18_; omega
              exact sf_some (show (-1 ≤ s6.2.1.toInt) from by omega)
          · have hvv5_0 := hvv5
            have zz19_l : -2147483648 ≤ v5.toInt := Int32.le_toInt v5
            have zz19_h : v5.toInt ≤ 2147483647 := Int32.toInt_le v5
            have l_1 : (1 : Int32).toInt = 1 := by decide
            have e20_ : (s6.2.2.1 + (1 : Int32)).toInt = s6.2.2.1.toInt + (1 : Int32).toInt := i_add (by omega) (by omega)
            exact sf_some (show ((Inv g v3.2) ∧ (-1 ≤ v4.toInt) ∧ (v4.toInt ≤ 7) ∧ (-1 ≤ v5.toInt) ∧ (0 ≤ (s6.2.2.1 + (1 : Int32)).toInt) ∧ ((s6.2.2.1 + (1 : Int32)).toInt ≤ 8) ∧ ((v3.2 134 17).toInt = (w 134 17).toInt)) ∧ (9 - (s6.2.2.1 + (1 : Int32)).toInt).toNat < (9 - s6.2.2.1.toInt).toNat from ⟨⟨hIv3, by omega, by omega, by omega, by omega, by omega, by omega⟩, by omega⟩)
    · have rc3_ : ¬ s6.2.2.1.toInt < (s6.2.2.2 134 17).toInt := by rw [Int32.lt_iff_toInt_lt] at c3_; omega
      exact sf_some (show (Inv g s6.2.2.2) ∧ (-1 ≤ s6.1.toInt) ∧ (s6.1.toInt ≤ 7) ∧ ((s6.2.2.2 134 17).toInt = (w 134 17).toInt) from ⟨hIs6, by omega, by omega, by omega⟩)
  · obtain ⟨hIv8, hvv8_1, hvv8_2, hvv8_3⟩ := hvv8
    have h21_ : 0 ≤ (w 134 17).toInt ∧ (w 134 17).toInt ≤ 8 * g 0 := iv_134_17 hI
    have h22_ : 0 ≤ (v8.2 134 17).toInt ∧ (v8.2 134 17).toInt ≤ 8 * g 0 := iv_134_17 hIv8
    exact sf_some (show (Inv g v8.2) from hIv8)
set_option maxRecDepth 20000 in
set_option maxHeartbeats 2000000 in
theorem sf_X10_told {g : Nat → Int} (a1 : Int32) (w : Mem) (hI : Inv g w) : Sf (fun (q : Int32 × Mem) => (Inv g q.2)) (f_X10_told a1 w) := by
  obtain ⟨hg0, hg1⟩ := hI.1
  unfold f_X10_told
  have zz1_l : -2147483648 ≤ a1.toInt := Int32.le_toInt a1
  have zz1_h : a1.toInt ≤ 2147483647 := Int32.toInt_le a1
  have l_0 : (0 : Int32).toInt = 0 := by decide
  refine sf_ite (fun c2_ => ?_) (fun c2_ => ?_)
  · have rc2_ : a1.toInt = 0 := by rw [i_eq_iff] at c2_; omega
    have h3_ : g 0 ≤ (w 134 15).toInt ∧ (w 134 15).toInt ≤ 60 * g 0 := iv_134_15 hI
    exact sf_some (show (Inv g w) from hI)
  · have rc2_ : ¬ a1.toInt = 0 := by rw [i_eq_iff] at c2_; omega
    have l_1 : (1 : Int32).toInt = 1 := by decide
    refine sf_ite (fun c4_ => ?_) (fun c4_ => ?_)
    · have rc4_ : a1.toInt = 1 := by rw [i_eq_iff] at c4_; omega
      have h5_ : g 0 ≤ (w 134 16).toInt ∧ (w 134 16).toInt ≤ 9 * g 0 := iv_134_16 hI
      exact sf_some (show (Inv g w) from hI)
    · have rc4_ : ¬ a1.toInt = 1 := by rw [i_eq_iff] at c4_; omega
      have l_2 : (2 : Int32).toInt = 2 := by decide
      refine sf_ite (fun c6_ => ?_) (fun c6_ => ?_)
      · have rc6_ : a1.toInt = 2 := by rw [i_eq_iff] at c6_; omega
        have h7_ : 0 ≤ (w 134 17).toInt ∧ (w 134 17).toInt ≤ 8 * g 0 := iv_134_17 hI
        exact sf_some (show (Inv g w) from hI)
      · have rc6_ : ¬ a1.toInt = 2 := by rw [i_eq_iff] at c6_; omega
        have l_3 : (3 : Int32).toInt = 3 := by decide
        refine sf_ite (fun c8_ => ?_) (fun c8_ => ?_)
        · have rc8_ : a1.toInt = 3 := by rw [i_eq_iff] at c8_; omega
          have h9_ : 0 ≤ (w 134 18).toInt ∧ (w 134 18).toInt ≤ 6 * g 0 := iv_134_18 hI
          exact sf_some (show (Inv g w) from hI)
        · have rc8_ : ¬ a1.toInt = 3 := by rw [i_eq_iff] at c8_; omega
          have l_4 : (4 : Int32).toInt = 4 := by decide
          refine sf_ite (fun c10_ => ?_) (fun c10_ => ?_)
          · have rc10_ : a1.toInt = 4 := by rw [i_eq_iff] at c10_; omega
            have h11_ : 0 ≤ (w 134 0).toInt ∧ (w 134 0).toInt ≤ 240 := iv_134_0 hI
            exact sf_some (show (Inv g w) from hI)
          · have rc10_ : ¬ a1.toInt = 4 := by rw [i_eq_iff] at c10_; omega
            have l_5 : (5 : Int32).toInt = 5 := by decide
            refine sf_ite (fun c12_ => ?_) (fun c12_ => ?_)
            · have rc12_ : a1.toInt = 5 := by rw [i_eq_iff] at c12_; omega
              refine sf_rd (by omega) (by omega) (fun x6 ex6 => ?_)
              have zz13_l : -2147483648 ≤ (w 146 0).toInt := Int32.le_toInt (w 146 0)
              have zz13_h : (w 146 0).toInt ≤ 2147483647 := Int32.toInt_le (w 146 0)
              have fx6 : x6.toInt = (w 146 0).toInt := by rw [ex6, show (0 : Int32).toNatClampNeg = 0 by decide]
              have zz14_l : -2147483648 ≤ x6.toInt := Int32.le_toInt x6
              have zz14_h : x6.toInt ≤ 2147483647 := Int32.toInt_le x6
              exact sf_some (show (Inv g w) from hI)
            · have rc12_ : ¬ a1.toInt = 5 := by rw [i_eq_iff] at c12_; omega
              have l_6 : (6 : Int32).toInt = 6 := by decide
              refine sf_ite (fun c15_ => ?_) (fun c15_ => ?_)
              · have rc15_ : a1.toInt = 6 := by rw [i_eq_iff] at c15_; omega
                refine sf_rd (by omega) (by omega) (fun x8 ex8 => ?_)
                have zz16_l : -2147483648 ≤ (w 146 1).toInt := Int32.le_toInt (w 146 1)
                have zz16_h : (w 146 1).toInt ≤ 2147483647 := Int32.toInt_le (w 146 1)
                have fx8 : x8.toInt = (w 146 1).toInt := by rw [ex8, show (1 : Int32).toNatClampNeg = 1 by decide]
                have zz17_l : -2147483648 ≤ x8.toInt := Int32.le_toInt x8
                have zz17_h : x8.toInt ≤ 2147483647 := Int32.toInt_le x8
                exact sf_some (show (Inv g w) from hI)
              · have rc15_ : ¬ a1.toInt = 6 := by rw [i_eq_iff] at c15_; omega
                have l_7 : (7 : Int32).toInt = 7 := by decide
                refine sf_ite (fun c18_ => ?_) (fun c18_ => ?_)
                · have rc18_ : a1.toInt = 7 := by rw [i_eq_iff] at c18_; omega
                  refine sf_rd (by omega) (by omega) (fun x10 ex10 => ?_)
                  have zz19_l : -2147483648 ≤ (w 146 2).toInt := Int32.le_toInt (w 146 2)
                  have zz19_h : (w 146 2).toInt ≤ 2147483647 := Int32.toInt_le (w 146 2)
                  have fx10 : x10.toInt = (w 146 2).toInt := by rw [ex10, show (2 : Int32).toNatClampNeg = 2 by decide]
                  have zz20_l : -2147483648 ≤ x10.toInt := Int32.le_toInt x10
                  have zz20_h : x10.toInt ≤ 2147483647 := Int32.toInt_le x10
                  exact sf_some (show (Inv g w) from hI)
                · have rc18_ : ¬ a1.toInt = 7 := by rw [i_eq_iff] at c18_; omega
                  have l_8 : (8 : Int32).toInt = 8 := by decide
                  refine sf_ite (fun c21_ => ?_) (fun c21_ => ?_)
                  · have rc21_ : a1.toInt = 8 := by rw [i_eq_iff] at c21_; omega
                    refine sf_rd (by omega) (by omega) (fun x12 ex12 => ?_)
                    have zz22_l : -2147483648 ≤ (w 146 3).toInt := Int32.le_toInt (w 146 3)
                    have zz22_h : (w 146 3).toInt ≤ 2147483647 := Int32.toInt_le (w 146 3)
                    have fx12 : x12.toInt = (w 146 3).toInt := by rw [ex12, show (3 : Int32).toNatClampNeg = 3 by decide]
                    have zz23_l : -2147483648 ≤ x12.toInt := Int32.le_toInt x12
                    have zz23_h : x12.toInt ≤ 2147483647 := Int32.toInt_le x12
                    exact sf_some (show (Inv g w) from hI)
                  · have rc21_ : ¬ a1.toInt = 8 := by rw [i_eq_iff] at c21_; omega
                    have l_9 : (9 : Int32).toInt = 9 := by decide
                    refine sf_ite (fun c24_ => ?_) (fun c24_ => ?_)
                    · have rc24_ : a1.toInt = 9 := by rw [i_eq_iff] at c24_; omega
                      refine sf_rd (by omega) (by omega) (fun x14 ex14 => ?_)
                      have h25_ : ((4 : Int) = 4 → -1 ≤ (w 146 4).toInt ∧ (w 146 4).toInt ≤ 6 * g 0 - 1) ∧ ((4 : Int) = 6 → -1 ≤ (w 146 4).toInt ∧ (w 146 4).toInt ≤ 7) := ia_146 (j := 4) hI
                      have fx14 : x14.toInt = (w 146 4).toInt := by rw [ex14, show (4 : Int32).toNatClampNeg = 4 by decide]
                      exact sf_some (show (Inv g w) from hI)
                    · have rc24_ : ¬ a1.toInt = 9 := by rw [i_eq_iff] at c24_; omega
                      have l_10 : (10 : Int32).toInt = 10 := by decide
                      refine sf_ite (fun c26_ => ?_) (fun c26_ => ?_)
                      · have rc26_ : a1.toInt = 10 := by rw [i_eq_iff] at c26_; omega
                        refine sf_rd (by omega) (by omega) (fun x16 ex16 => ?_)
                        have zz27_l : -2147483648 ≤ (w 146 5).toInt := Int32.le_toInt (w 146 5)
                        have zz27_h : (w 146 5).toInt ≤ 2147483647 := Int32.toInt_le (w 146 5)
                        have fx16 : x16.toInt = (w 146 5).toInt := by rw [ex16, show (5 : Int32).toNatClampNeg = 5 by decide]
                        have zz28_l : -2147483648 ≤ x16.toInt := Int32.le_toInt x16
                        have zz28_h : x16.toInt ≤ 2147483647 := Int32.toInt_le x16
                        exact sf_some (show (Inv g w) from hI)
                      · have rc26_ : ¬ a1.toInt = 10 := by rw [i_eq_iff] at c26_; omega
                        have l_11 : (11 : Int32).toInt = 11 := by decide
                        refine sf_ite (fun c29_ => ?_) (fun c29_ => ?_)
                        · have rc29_ : a1.toInt = 11 := by rw [i_eq_iff] at c29_; omega
                          refine sf_rd (by omega) (by omega) (fun x18 ex18 => ?_)
                          have h30_ : ((6 : Int) = 4 → -1 ≤ (w 146 6).toInt ∧ (w 146 6).toInt ≤ 6 * g 0 - 1) ∧ ((6 : Int) = 6 → -1 ≤ (w 146 6).toInt ∧ (w 146 6).toInt ≤ 7) := ia_146 (j := 6) hI
                          have fx18 : x18.toInt = (w 146 6).toInt := by rw [ex18, show (6 : Int32).toNatClampNeg = 6 by decide]
                          exact sf_some (show (Inv g w) from hI)
                        · have rc29_ : ¬ a1.toInt = 11 := by rw [i_eq_iff] at c29_; omega
                          have l_12 : (12 : Int32).toInt = 12 := by decide
                          refine sf_ite (fun c31_ => ?_) (fun c31_ => ?_)
                          · have rc31_ : a1.toInt = 12 := by rw [i_eq_iff] at c31_; omega
                            refine sf_bind (sf_X10_are (0 : Int32) w hI) (fun r20 hqr20 hpr20 => ?_)
                            obtain ⟨hpr20_0, hpr20_1, hpr20_2⟩ := hpr20
                            have h32_ : 0 ≤ (w 134 18).toInt ∧ (w 134 18).toInt ≤ 6 * g 0 := iv_134_18 hI
                            exact sf_some (show (Inv g w) from hI)
                          · have rc31_ : ¬ a1.toInt = 12 := by rw [i_eq_iff] at c31_; omega
                            have l_13 : (13 : Int32).toInt = 13 := by decide
                            refine sf_ite (fun c33_ => ?_) (fun c33_ => ?_)
                            · have rc33_ : a1.toInt = 13 := by rw [i_eq_iff] at c33_; omega
                              refine sf_bind (sf_X10_are (2 : Int32) w hI) (fun r22 hqr22 hpr22 => ?_)
                              obtain ⟨hpr22_0, hpr22_1, hpr22_2⟩ := hpr22
                              have h34_ : 0 ≤ (w 134 18).toInt ∧ (w 134 18).toInt ≤ 6 * g 0 := iv_134_18 hI
                              exact sf_some (show (Inv g w) from hI)
                            · have rc33_ : ¬ a1.toInt = 13 := by rw [i_eq_iff] at c33_; omega
                              have l_14 : (14 : Int32).toInt = 14 := by decide
                              refine sf_ite (fun c35_ => ?_) (fun c35_ => ?_)
                              · have rc35_ : a1.toInt = 14 := by rw [i_eq_iff] at c35_; omega
                                refine sf_bind (sf_X10_are (3 : Int32) w hI) (fun r24 hqr24 hpr24 => ?_)
                                obtain ⟨hpr24_0, hpr24_1, hpr24_2⟩ := hpr24
                                have h36_ : 0 ≤ (w 134 18).toInt ∧ (w 134 18).toInt ≤ 6 * g 0 := iv_134_18 hI
                                exact sf_some (show (Inv g w) from hI)
                              · have rc35_ : ¬ a1.toInt = 14 := by rw [i_eq_iff] at c35_; omega
                                have l_15 : (15 : Int32).toInt = 15 := by decide
                                refine sf_ite (fun c37_ => ?_) (fun c37_ => ?_)
                                · have rc37_ : a1.toInt = 15 := by rw [i_eq_iff] at c37_; omega
                                  refine sf_bind (sf_X10_nobodys  w hI) (fun r26 hqr26 hpr26 => ?_)
                                  have zz38_l : -2147483648 ≤ r26.toInt := Int32.le_toInt r26
                                  have zz38_h : r26.toInt ≤ 2147483647 := Int32.toInt_le r26
                                  exact sf_some (show (Inv g w) from hI)
                                · have rc37_ : ¬ a1.toInt = 15 := by rw [i_eq_iff] at c37_; omega
                                  have l_16 : (16 : Int32).toInt = 16 := by decide
                                  refine sf_ite (fun c39_ => ?_) (fun c39_ => ?_)
                                  · have rc39_ : a1.toInt = 16 := by rw [i_eq_iff] at c39_; omega
                                    refine sf_bind (sf_X10_longestSat  w hI) (fun r28 hqr28 hpr28 => ?_)
                                    have zz40_l : -2147483648 ≤ r28.toInt := Int32.le_toInt r28
                                    have zz40_h : r28.toInt ≤ 2147483647 := Int32.toInt_le r28
                                    exact sf_some (show (Inv g w) from hI)
                                  · have rc39_ : ¬ a1.toInt = 16 := by rw [i_eq_iff] at c39_; omega
                                    have l_17 : (17 : Int32).toInt = 17 := by decide
                                    refine sf_ite (fun c41_ => ?_) (fun c41_ => ?_)
                                    · have rc41_ : a1.toInt = 17 := by rw [i_eq_iff] at c41_; omega
                                      refine sf_bind (sf_X10_bestToLearn  w hI) (fun q30 hqq30 hpq30 => ?_)
                                      have hIq30 := hpq30
                                      have zz42_l : -2147483648 ≤ q30.1.toInt := Int32.le_toInt q30.1
                                      have zz42_h : q30.1.toInt ≤ 2147483647 := Int32.toInt_le q30.1
                                      exact sf_some (show (Inv g q30.2) from hIq30)
                                    · have rc41_ : ¬ a1.toInt = 17 := by rw [i_eq_iff] at c41_; omega
                                      have l_18 : (18 : Int32).toInt = 18 := by decide
                                      refine sf_ite (fun c43_ => ?_) (fun c43_ => ?_)
                                      · have rc43_ : a1.toInt = 18 := by rw [i_eq_iff] at c43_; omega
                                        have h44_ : 0 ≤ (w 134 34).toInt ∧ (w 134 34).toInt ≤ 6 := iv_134_34 hI
                                        exact sf_some (show (Inv g w) from hI)
                                      · have rc43_ : ¬ a1.toInt = 18 := by rw [i_eq_iff] at c43_; omega
                                        have l_19 : (19 : Int32).toInt = 19 := by decide
                                        refine sf_ite (fun c45_ => ?_) (fun c45_ => ?_)
                                        · have rc45_ : a1.toInt = 19 := by rw [i_eq_iff] at c45_; omega
                                          have h46_ : 0 ≤ (w 134 37).toInt ∧ (w 134 37).toInt ≤ 20 := iv_134_37 hI
                                          exact sf_some (show (Inv g w) from hI)
                                        · have rc45_ : ¬ a1.toInt = 19 := by rw [i_eq_iff] at c45_; omega
                                          have l_20 : (20 : Int32).toInt = 20 := by decide
                                          refine sf_ite (fun c47_ => ?_) (fun c47_ => ?_)
                                          · have rc47_ : a1.toInt = 20 := by rw [i_eq_iff] at c47_; omega
                                            have h48_ : 0 ≤ (w 134 25).toInt ∧ (w 134 25).toInt ≤ 30 * g 0 := iv_134_25 hI
                                            exact sf_some (show (Inv g w) from hI)
                                          · have rc47_ : ¬ a1.toInt = 20 := by rw [i_eq_iff] at c47_; omega
                                            have l_m1000000002 : (-1000000002 : Int32).toInt = -1000000002 := by decide
                                            exact sf_some (show (Inv g w) from hI)
set_option maxRecDepth 20000 in
set_option maxHeartbeats 2000000 in
theorem sf_X10_isMatter {g : Nat → Int} (a1 : Int32) (w : Mem) (hI : Inv g w) : Sf (fun (q : Int32) => (0 ≤ q.toInt ∧ q.toInt ≤ 1) ∧ (q.toInt = 0 ∨ (0 ≤ a1.toInt ∧ a1.toInt ≤ 7 ∧ g 0 = 1))) (f_X10_isMatter a1 w) := by
  obtain ⟨hg0, hg1⟩ := hI.1
  unfold f_X10_isMatter
  have zz1_l : -2147483648 ≤ a1.toInt := Int32.le_toInt a1
  have zz1_h : a1.toInt ≤ 2147483647 := Int32.toInt_le a1
  have l_0 : (0 : Int32).toInt = 0 := by decide
  have h2_ : 0 ≤ (w 134 17).toInt ∧ (w 134 17).toInt ≤ 8 * g 0 := iv_134_17 hI
  have l_1 : (1 : Int32).toInt = 1 := by decide
  have e3_ : ((w 134 17) - (1 : Int32)).toInt = (w 134 17).toInt - (1 : Int32).toInt := i_sub (by omega) (by omega)
  refine sf_bind (sf_X10_in a1 (0 : Int32) ((w 134 17) - (1 : Int32))) (fun r1 hqr1 hpr1 => ?_)
  obtain ⟨hpr1_0, hpr1_1, hpr1_2⟩ := hpr1
  refine sf_zr (i_z01 (by omega) (by omega)) ?_
  exact sf_some (show (0 ≤ r1.toInt ∧ r1.toInt ≤ 1) ∧ (r1.toInt = 0 ∨ (0 ≤ a1.toInt ∧ a1.toInt ≤ 7 ∧ g 0 = 1)) from ⟨by omega, by omega⟩)
set_option maxRecDepth 20000 in
set_option maxHeartbeats 2000000 in
theorem sf_X10_onward {g : Nat → Int} (a1 : Int32) (w : Mem) (hI : Inv g w) : Sf (fun (q : Int32) => (True)) (f_X10_onward a1 w) := by
  obtain ⟨hg0, hg1⟩ := hI.1
  unfold f_X10_onward
  refine sf_bind (Q := fun (v4 : Int32) => (True)) ?_ (fun v4 hqv4 hvv4 => ?_)
  · have l_0 : (0 : Int32).toInt = 0 := by decide
    refine sf_lp (fun (s4 : (Int32 × Int32)) => (0 ≤ s4.2.toInt) ∧ (s4.2.toInt ≤ 8)) (fun (s4 : (Int32 × Int32)) => (9 - s4.2.toInt).toNat) (fun s4 hss4 => ?_) _ _ (show (0 ≤ (0 : Int32).toInt) ∧ ((0 : Int32).toInt ≤ 8) from ⟨by omega, by omega⟩) (show (9 - (0 : Int32).toInt).toNat < 5000000000 from by omega)
    obtain ⟨hss4_0, hss4_1⟩ := hss4
    refine (?_ : Sf (lpP _ _ (9 - s4.2.toInt).toNat _) _)
    have h1_ : 0 ≤ (w 134 17).toInt ∧ (w 134 17).toInt ≤ 8 * g 0 := iv_134_17 hI
    refine sf_ite (fun c2_ => ?_) (fun c2_ => ?_)
    · have rc2_ : s4.2.toInt < (w 134 17).toInt := by rw [Int32.lt_iff_toInt_lt] at c2_; omega
      have zz3_l : -2147483648 ≤ a1.toInt := Int32.le_toInt a1
      have zz3_h : a1.toInt ≤ 2147483647 := Int32.toInt_le a1
      refine sf_bind (sf_X10_has a1 s4.2) (fun r1 hqr1 hpr1 => ?_)
      obtain ⟨hpr1_0, hpr1_1⟩ := hpr1
      refine sf_bind (Q := fun (v2 : Int32) => (True)) ?_ (fun v2 hqv2 hvv2 => ?_)
      · refine sf_ite (fun c4_ => ?_) (fun c4_ => ?_)
        · have rc4_ : r1.toInt = 0 := by rw [i_eq_iff] at c4_; omega
          exact sf_some (show (True) from trivial)
        · have rc4_ : ¬ r1.toInt = 0 := by rw [i_eq_iff] at c4_; omega
          refine sf_rd (by omega) (by omega) (fun x3 ex3 => ?_)
          have zz5_l : -2147483648 ≤ x3.toInt := Int32.le_toInt x3
          have zz5_h : x3.toInt ≤ 2147483647 := Int32.toInt_le x3
          exact sf_some (show (True) from trivial)
      · have hvv2_0 := hvv2
        have zz6_l : -2147483648 ≤ s4.1.toInt := Int32.le_toInt s4.1
        have zz6_h : s4.1.toInt ≤ 2147483647 := Int32.toInt_le s4.1
        have zz7_l : -2147483648 ≤ v2.toInt := Int32.le_toInt v2
        have zz7_h : v2.toInt ≤ 2147483647 := Int32.toInt_le v2
        have l_1 : (1 : Int32).toInt = 1 := by decide
        have e8_ : (s4.2 + (1 : Int32)).toInt = s4.2.toInt + (1 : Int32).toInt := i_add (by omega) (by omega)
        exact sf_some (show ((0 ≤ (s4.2 + (1 : Int32)).toInt) ∧ ((s4.2 + (1 : Int32)).toInt ≤ 8)) ∧ (9 - (s4.2 + (1 : Int32)).toInt).toNat < (9 - s4.2.toInt).toNat from ⟨⟨by omega, by omega⟩, by omega⟩)
    · have rc2_ : ¬ s4.2.toInt < (w 134 17).toInt := by rw [Int32.lt_iff_toInt_lt] at c2_; omega
      have zz9_l : -2147483648 ≤ s4.1.toInt := Int32.le_toInt s4.1
      have zz9_h : s4.1.toInt ≤ 2147483647 := Int32.toInt_le s4.1
      exact sf_some (show (True) from trivial)
  · have hvv4_0 := hvv4
    have zz10_l : -2147483648 ≤ v4.toInt := Int32.le_toInt v4
    have zz10_h : v4.toInt ≤ 2147483647 := Int32.toInt_le v4
    exact sf_some (show (True) from trivial)
set_option maxRecDepth 20000 in
set_option maxHeartbeats 2000000 in
theorem sf_X10_leadsFrom {g : Nat → Int} (a1 : Int32) (w : Mem) (hI : Inv g w) (pre0 : 0 ≤ a1.toInt) (pre1 : a1.toInt ≤ 7) : Sf (fun (q : Int32) => (True)) (f_X10_leadsFrom a1 w) := by
  obtain ⟨hg0, hg1⟩ := hI.1
  unfold f_X10_leadsFrom
  refine sf_rd (by omega) (by omega) (fun x1 ex1 => ?_)
  refine sf_bind (Q := fun (v3 : Int32) => (True)) ?_ (fun v3 hqv3 hvv3 => ?_)
  · have zz1_l : -2147483648 ≤ x1.toInt := Int32.le_toInt x1
    have zz1_h : x1.toInt ≤ 2147483647 := Int32.toInt_le x1
    have l_0 : (0 : Int32).toInt = 0 := by decide
    refine sf_lp (fun (s9 : (Int32 × Int32)) => (0 ≤ s9.2.toInt) ∧ (s9.2.toInt ≤ 8)) (fun (s9 : (Int32 × Int32)) => (9 - s9.2.toInt).toNat) (fun s9 hss9 => ?_) _ _ (show (0 ≤ (0 : Int32).toInt) ∧ ((0 : Int32).toInt ≤ 8) from ⟨by omega, by omega⟩) (show (9 - (0 : Int32).toInt).toNat < 5000000000 from by omega)
    obtain ⟨hss9_0, hss9_1⟩ := hss9
    refine (?_ : Sf (lpP _ _ (9 - s9.2.toInt).toNat _) _)
    have h2_ : 0 ≤ (w 134 17).toInt ∧ (w 134 17).toInt ≤ 8 * g 0 := iv_134_17 hI
    refine sf_ite (fun c3_ => ?_) (fun c3_ => ?_)
    · have rc3_ : s9.2.toInt < (w 134 17).toInt := by rw [Int32.lt_iff_toInt_lt] at c3_; omega
      have zz4_l : -2147483648 ≤ s9.1.toInt := Int32.le_toInt s9.1
      have zz4_h : s9.1.toInt ≤ 2147483647 := Int32.toInt_le s9.1
      refine sf_bind (sf_X10_onward s9.1 w hI) (fun r2 hqr2 hpr2 => ?_)
      have zz5_l : -2147483648 ≤ r2.toInt := Int32.le_toInt r2
      have zz5_h : r2.toInt ≤ 2147483647 := Int32.toInt_le r2
      have l_1 : (1 : Int32).toInt = 1 := by decide
      have e6_ : (s9.2 + (1 : Int32)).toInt = s9.2.toInt + (1 : Int32).toInt := i_add (by omega) (by omega)
      exact sf_some (show ((0 ≤ (s9.2 + (1 : Int32)).toInt) ∧ ((s9.2 + (1 : Int32)).toInt ≤ 8)) ∧ (9 - (s9.2 + (1 : Int32)).toInt).toNat < (9 - s9.2.toInt).toNat from ⟨⟨by omega, by omega⟩, by omega⟩)
    · have rc3_ : ¬ s9.2.toInt < (w 134 17).toInt := by rw [Int32.lt_iff_toInt_lt] at c3_; omega
      have zz7_l : -2147483648 ≤ s9.1.toInt := Int32.le_toInt s9.1
      have zz7_h : s9.1.toInt ≤ 2147483647 := Int32.toInt_le s9.1
      exact sf_some (show (True) from trivial)
  · have hvv3_0 := hvv3
    have zz8_l : -2147483648 ≤ v3.toInt := Int32.le_toInt v3
    have zz8_h : v3.toInt ≤ 2147483647 := Int32.toInt_le v3
    exact sf_some (show (True) from trivial)
set_option maxRecDepth 20000 in
set_option maxHeartbeats 2000000 in
theorem sf_X10_roundOf {g : Nat → Int} (a1 : Int32) (w : Mem) (hI : Inv g w) (pre0 : 0 ≤ a1.toInt) (pre1 : a1.toInt ≤ 7) : Sf (fun (q : Int32) => (True)) (f_X10_roundOf a1 w) := by
  obtain ⟨hg0, hg1⟩ := hI.1
  unfold f_X10_roundOf
  refine sf_lt (fun t1 et1 => ?_)
  have ft1 : (1 ≤ t1.toInt) ∧ (t1.toInt ≤ 128) := by
    have l_1 : (1 : Int32).toInt = 1 := by decide
    have e1_ : 1 ≤ ((1 : Int32) <<< (a1 &&& 31)).toInt ∧ ((1 : Int32) <<< (a1 &&& 31)).toInt ≤ 128 := i_shl1 (k := 7) (by decide) (by omega) (show _ ≤ 7 from by omega)
    have f9 : t1.toInt = ((1 : Int32) <<< (a1 &&& 31)).toInt := by rw [et1]
    exact ⟨by omega, by omega⟩
  have l_1 : (1 : Int32).toInt = 1 := by decide
  refine sf_lp (fun (s6 : (Int32 × Int32)) => (1 ≤ s6.2.toInt) ∧ (s6.2.toInt ≤ 9)) (fun (s6 : (Int32 × Int32)) => (10 - s6.2.toInt).toNat) (fun s6 hss6 => ?_) _ _ (show (1 ≤ (1 : Int32).toInt) ∧ ((1 : Int32).toInt ≤ 9) from ⟨by omega, by omega⟩) (show (10 - (1 : Int32).toInt).toNat < 5000000000 from by omega)
  obtain ⟨hss6_0, hss6_1⟩ := hss6
  refine (?_ : Sf (lpP _ _ (10 - s6.2.toInt).toNat _) _)
  have h2_ : 0 ≤ (w 134 17).toInt ∧ (w 134 17).toInt ≤ 8 * g 0 := iv_134_17 hI
  refine sf_ite (fun c3_ => ?_) (fun c3_ => ?_)
  · have rc3_ : (w 134 17).toInt < s6.2.toInt := by rw [Int32.lt_iff_toInt_lt] at c3_; omega
    have l_m1 : (-1 : Int32).toInt = -1 := by decide
    exact sf_some (show (True) from trivial)
  · have rc3_ : ¬ (w 134 17).toInt < s6.2.toInt := by rw [Int32.lt_iff_toInt_lt] at c3_; omega
    have zz4_l : -2147483648 ≤ s6.1.toInt := Int32.le_toInt s6.1
    have zz4_h : s6.1.toInt ≤ 2147483647 := Int32.toInt_le s6.1
    refine sf_bind (sf_X10_onward s6.1 w hI) (fun r2 hqr2 hpr2 => ?_)
    have zz5_l : -2147483648 ≤ r2.toInt := Int32.le_toInt r2
    have zz5_h : r2.toInt ≤ 2147483647 := Int32.toInt_le r2
    refine sf_bind (sf_X10_has r2 a1) (fun r3 hqr3 hpr3 => ?_)
    obtain ⟨hpr3_0, hpr3_1⟩ := hpr3
    have l_0 : (0 : Int32).toInt = 0 := by decide
    refine sf_ite (fun c6_ => ?_) (fun c6_ => ?_)
    · have rc6_ : r3.toInt = 0 := by rw [i_eq_iff] at c6_; omega
      have e7_ : (s6.2 + (1 : Int32)).toInt = s6.2.toInt + (1 : Int32).toInt := i_add (by omega) (by omega)
      exact sf_some (show ((1 ≤ (s6.2 + (1 : Int32)).toInt) ∧ ((s6.2 + (1 : Int32)).toInt ≤ 9)) ∧ (10 - (s6.2 + (1 : Int32)).toInt).toNat < (10 - s6.2.toInt).toNat from ⟨⟨by omega, by omega⟩, by omega⟩)
    · have rc6_ : ¬ r3.toInt = 0 := by rw [i_eq_iff] at c6_; omega
      exact sf_some (show (True) from trivial)
set_option maxRecDepth 20000 in
set_option maxHeartbeats 2000000 in
theorem sf_X10_matter {g : Nat → Int} (a1 : Int32) (a2 : Int32) (w : Mem) (hI : Inv g w) : Sf (fun (q : Int32) => (True)) (f_X10_matter a1 a2 w) := by
  obtain ⟨hg0, hg1⟩ := hI.1
  unfold f_X10_matter
  have zz1_l : -2147483648 ≤ a1.toInt := Int32.le_toInt a1
  have zz1_h : a1.toInt ≤ 2147483647 := Int32.toInt_le a1
  refine sf_bind (sf_X10_isMatter a1 w hI) (fun r1 hqr1 hpr1 => ?_)
  obtain ⟨hpr1_0, hpr1_1⟩ := hpr1
  have l_0 : (0 : Int32).toInt = 0 := by decide
  refine sf_ite (fun c2_ => ?_) (fun c2_ => ?_)
  · have rc2_ : r1.toInt = 0 := by rw [i_eq_iff] at c2_; omega
    have l_m1000000001 : (-1000000001 : Int32).toInt = -1000000001 := by decide
    exact sf_some (show (True) from trivial)
  · have rc2_ : ¬ r1.toInt = 0 := by rw [i_eq_iff] at c2_; omega
    have zz3_l : -2147483648 ≤ a2.toInt := Int32.le_toInt a2
    have zz3_h : a2.toInt ≤ 2147483647 := Int32.toInt_le a2
    refine sf_ite (fun c4_ => ?_) (fun c4_ => ?_)
    · have rc4_ : a2.toInt = 0 := by rw [i_eq_iff] at c4_; omega
      refine sf_rd (by omega) (by omega) (fun x2 ex2 => ?_)
      have zz5_l : -2147483648 ≤ x2.toInt := Int32.le_toInt x2
      have zz5_h : x2.toInt ≤ 2147483647 := Int32.toInt_le x2
      exact sf_some (show (True) from trivial)
    · have rc4_ : ¬ a2.toInt = 0 := by rw [i_eq_iff] at c4_; omega
      have l_1 : (1 : Int32).toInt = 1 := by decide
      refine sf_ite (fun c6_ => ?_) (fun c6_ => ?_)
      · have rc6_ : a2.toInt = 1 := by rw [i_eq_iff] at c6_; omega
        refine sf_rd (by omega) (by omega) (fun x4 ex4 => ?_)
        have zz7_l : -2147483648 ≤ x4.toInt := Int32.le_toInt x4
        have zz7_h : x4.toInt ≤ 2147483647 := Int32.toInt_le x4
        exact sf_some (show (True) from trivial)
      · have rc6_ : ¬ a2.toInt = 1 := by rw [i_eq_iff] at c6_; omega
        have l_2 : (2 : Int32).toInt = 2 := by decide
        refine sf_ite (fun c8_ => ?_) (fun c8_ => ?_)
        · have rc8_ : a2.toInt = 2 := by rw [i_eq_iff] at c8_; omega
          refine sf_bind (sf_X10_leadsFrom a1 w hI (by omega) (by omega)) (fun r6 hqr6 hpr6 => ?_)
          have zz9_l : -2147483648 ≤ r6.toInt := Int32.le_toInt r6
          have zz9_h : r6.toInt ≤ 2147483647 := Int32.toInt_le r6
          exact sf_some (show (True) from trivial)
        · have rc8_ : ¬ a2.toInt = 2 := by rw [i_eq_iff] at c8_; omega
          have l_3 : (3 : Int32).toInt = 3 := by decide
          refine sf_ite (fun c10_ => ?_) (fun c10_ => ?_)
          · have rc10_ : a2.toInt = 3 := by rw [i_eq_iff] at c10_; omega
            refine sf_bind (sf_X10_roundOf a1 w hI (by omega) (by omega)) (fun r8 hqr8 hpr8 => ?_)
            have zz11_l : -2147483648 ≤ r8.toInt := Int32.le_toInt r8
            have zz11_h : r8.toInt ≤ 2147483647 := Int32.toInt_le r8
            exact sf_some (show (True) from trivial)
          · have rc10_ : ¬ a2.toInt = 3 := by rw [i_eq_iff] at c10_; omega
            have l_m1000000002 : (-1000000002 : Int32).toInt = -1000000002 := by decide
            exact sf_some (show (True) from trivial)
set_option maxRecDepth 20000 in
set_option maxHeartbeats 2000000 in
theorem sf_X10_isTraveller {g : Nat → Int} (a1 : Int32) (w : Mem) (hI : Inv g w) : Sf (fun (q : Int32) => (0 ≤ q.toInt ∧ q.toInt ≤ 1) ∧ (q.toInt = 0 ∨ (0 ≤ a1.toInt ∧ a1.toInt ≤ 5 ∧ g 0 = 1))) (f_X10_isTraveller a1 w) := by
  obtain ⟨hg0, hg1⟩ := hI.1
  unfold f_X10_isTraveller
  have zz1_l : -2147483648 ≤ a1.toInt := Int32.le_toInt a1
  have zz1_h : a1.toInt ≤ 2147483647 := Int32.toInt_le a1
  have l_0 : (0 : Int32).toInt = 0 := by decide
  have h2_ : 0 ≤ (w 134 18).toInt ∧ (w 134 18).toInt ≤ 6 * g 0 := iv_134_18 hI
  have l_1 : (1 : Int32).toInt = 1 := by decide
  have e3_ : ((w 134 18) - (1 : Int32)).toInt = (w 134 18).toInt - (1 : Int32).toInt := i_sub (by omega) (by omega)
  refine sf_bind (sf_X10_in a1 (0 : Int32) ((w 134 18) - (1 : Int32))) (fun r1 hqr1 hpr1 => ?_)
  obtain ⟨hpr1_0, hpr1_1, hpr1_2⟩ := hpr1
  refine sf_zr (i_z01 (by omega) (by omega)) ?_
  exact sf_some (show (0 ≤ r1.toInt ∧ r1.toInt ≤ 1) ∧ (r1.toInt = 0 ∨ (0 ≤ a1.toInt ∧ a1.toInt ≤ 5 ∧ g 0 = 1)) from ⟨by omega, by omega⟩)
set_option maxRecDepth 20000 in
set_option maxHeartbeats 2000000 in
theorem sf_X10_limit {g : Nat → Int} (a1 : Int32) (w : Mem) (hI : Inv g w) (pre0 : 0 ≤ a1.toInt) (pre1 : a1.toInt ≤ 5) : Sf (fun (q : Int32) => (True)) (f_X10_limit a1 w) := by
  obtain ⟨hg0, hg1⟩ := hI.1
  unfold f_X10_limit
  refine sf_rd (by omega) (by omega) (fun x1 ex1 => ?_)
  have l_60 : (60 : Int32).toInt = 60 := by decide
  have l_5 : (5 : Int32).toInt = 5 := by decide
  have zz1_l : -2147483648 ≤ x1.toInt := Int32.le_toInt x1
  have zz1_h : x1.toInt ≤ 2147483647 := Int32.toInt_le x1
  exact sf_some (show (True) from trivial)
set_option maxRecDepth 20000 in
set_option maxHeartbeats 2000000 in
theorem sf_X10_favourite {g : Nat → Int} (a1 : Int32) (w : Mem) (hI : Inv g w) (pre0 : 0 ≤ a1.toInt) (pre1 : a1.toInt ≤ 5) : Sf (fun (q : Int32) => (True)) (f_X10_favourite a1 w) := by
  obtain ⟨hg0, hg1⟩ := hI.1
  unfold f_X10_favourite
  refine sf_bind (Q := fun (v6 : Int32) => (-1 ≤ v6.toInt) ∧ (v6.toInt ≤ 7)) ?_ (fun v6 hqv6 hvv6 => ?_)
  · have l_m1 : (-1 : Int32).toInt = -1 := by decide
    have l_0 : (0 : Int32).toInt = 0 := by decide
    refine sf_lp (fun (s7 : (Int32 × Int32 × Int32)) => (-1 ≤ s7.1.toInt) ∧ (s7.1.toInt ≤ 7) ∧ (0 ≤ s7.2.2.toInt) ∧ (s7.2.2.toInt ≤ 8)) (fun (s7 : (Int32 × Int32 × Int32)) => (9 - s7.2.2.toInt).toNat) (fun s7 hss7 => ?_) _ _ (show (-1 ≤ (-1 : Int32).toInt) ∧ ((-1 : Int32).toInt ≤ 7) ∧ (0 ≤ (0 : Int32).toInt) ∧ ((0 : Int32).toInt ≤ 8) from ⟨by omega, by omega, by omega, by omega⟩) (show (9 - (0 : Int32).toInt).toNat < 5000000000 from by omega)
    obtain ⟨hss7_0, hss7_1, hss7_2, hss7_3⟩ := hss7
    refine (?_ : Sf (lpP _ _ (9 - s7.2.2.toInt).toNat _) _)
    have h1_ : 0 ≤ (w 134 17).toInt ∧ (w 134 17).toInt ≤ 8 * g 0 := iv_134_17 hI
    refine sf_ite (fun c2_ => ?_) (fun c2_ => ?_)
    · have rc2_ : s7.2.2.toInt < (w 134 17).toInt := by rw [Int32.lt_iff_toInt_lt] at c2_; omega
      refine sf_bind (sf_X10_stayOf a1 s7.2.2 w hI (by omega) (by omega) (by omega) (by omega)) (fun r1 hqr1 hpr1 => ?_)
      refine sf_bind (Q := fun (v2 : Int32) => (-1 ≤ v2.toInt) ∧ (v2.toInt ≤ 7)) ?_ (fun v2 hqv2 hvv2 => ?_)
      · have zz3_l : -2147483648 ≤ s7.2.1.toInt := Int32.le_toInt s7.2.1
        have zz3_h : s7.2.1.toInt ≤ 2147483647 := Int32.toInt_le s7.2.1
        have zz4_l : -2147483648 ≤ r1.toInt := Int32.le_toInt r1
        have zz4_h : r1.toInt ≤ 2147483647 := Int32.toInt_le r1
        refine sf_ite (fun c5_ => ?_) (fun c5_ => ?_)
        · have rc5_ : s7.2.1.toInt < r1.toInt := by rw [Int32.lt_iff_toInt_lt] at c5_; omega
          exact sf_some (show (-1 ≤ s7.2.2.toInt) ∧ (s7.2.2.toInt ≤ 7) from ⟨by omega, by omega⟩)
        · have rc5_ : ¬ s7.2.1.toInt < r1.toInt := by rw [Int32.lt_iff_toInt_lt] at c5_; omega
          exact sf_some (show (-1 ≤ s7.1.toInt) ∧ (s7.1.toInt ≤ 7) from ⟨by omega, by omega⟩)
      · obtain ⟨hvv2_0, hvv2_1⟩ := hvv2
        refine sf_bind (sf_X10_stayOf a1 s7.2.2 w hI (by omega) (by omega) (by omega) (by omega)) (fun r3 hqr3 hpr3 => ?_)
        refine sf_bind (Q := fun (v4 : Int32) => (True)) ?_ (fun v4 hqv4 hvv4 => ?_)
        · have zz6_l : -2147483648 ≤ s7.2.1.toInt := Int32.le_toInt s7.2.1
          have zz6_h : s7.2.1.toInt ≤ 2147483647 := Int32.toInt_le s7.2.1
          have zz7_l : -2147483648 ≤ r3.toInt := Int32.le_toInt r3
          have zz7_h : r3.toInt ≤ 2147483647 := Int32.toInt_le r3
          refine sf_ite (fun c8_ => ?_) (fun c8_ => ?_)
          · have rc8_ : s7.2.1.toInt < r3.toInt := by rw [Int32.lt_iff_toInt_lt] at c8_; omega
            refine sf_bind (sf_X10_stayOf a1 s7.2.2 w hI (by omega) (by omega) (by omega) (by omega)) (fun r5 hqr5 hpr5 => ?_)
            have zz9_l : -2147483648 ≤ r5.toInt := Int32.le_toInt r5
            have zz9_h : r5.toInt ≤ 2147483647 := Int32.toInt_le r5
            exact sf_some (show (True) from trivial)
          · have rc8_ : ¬ s7.2.1.toInt < r3.toInt := by rw [Int32.lt_iff_toInt_lt] at c8_; omega
            exact sf_some (show (True) from trivial)
        · have hvv4_0 := hvv4
          have zz10_l : -2147483648 ≤ v4.toInt := Int32.le_toInt v4
          have zz10_h : v4.toInt ≤ 2147483647 := Int32.toInt_le v4
          have l_1 : (1 : Int32).toInt = 1 := by decide
          have e11_ : (s7.2.2 + (1 : Int32)).toInt = s7.2.2.toInt + (1 : Int32).toInt := i_add (by omega) (by omega)
          exact sf_some (show ((-1 ≤ v2.toInt) ∧ (v2.toInt ≤ 7) ∧ (0 ≤ (s7.2.2 + (1 : Int32)).toInt) ∧ ((s7.2.2 + (1 : Int32)).toInt ≤ 8)) ∧ (9 - (s7.2.2 + (1 : Int32)).toInt).toNat < (9 - s7.2.2.toInt).toNat from ⟨⟨by omega, by omega, by omega, by omega⟩, by omega⟩)
    · have rc2_ : ¬ s7.2.2.toInt < (w 134 17).toInt := by rw [Int32.lt_iff_toInt_lt] at c2_; omega
      exact sf_some (show (-1 ≤ s7.1.toInt) ∧ (s7.1.toInt ≤ 7) from ⟨by omega, by omega⟩)
  · obtain ⟨hvv6_0, hvv6_1⟩ := hvv6
    exact sf_some (show (True) from trivial)
set_option maxRecDepth 20000 in
set_option maxHeartbeats 2000000 in
theorem sf_X10_traveller {g : Nat → Int} (a1 : Int32) (a2 : Int32) (w : Mem) (hI : Inv g w) : Sf (fun (q : Int32) => (True)) (f_X10_traveller a1 a2 w) := by
  obtain ⟨hg0, hg1⟩ := hI.1
  unfold f_X10_traveller
  have zz1_l : -2147483648 ≤ a1.toInt := Int32.le_toInt a1
  have zz1_h : a1.toInt ≤ 2147483647 := Int32.toInt_le a1
  refine sf_bind (sf_X10_isTraveller a1 w hI) (fun r1 hqr1 hpr1 => ?_)
  obtain ⟨hpr1_0, hpr1_1⟩ := hpr1
  have l_0 : (0 : Int32).toInt = 0 := by decide
  refine sf_ite (fun c2_ => ?_) (fun c2_ => ?_)
  · have rc2_ : r1.toInt = 0 := by rw [i_eq_iff] at c2_; omega
    have l_m1000000001 : (-1000000001 : Int32).toInt = -1000000001 := by decide
    exact sf_some (show (True) from trivial)
  · have rc2_ : ¬ r1.toInt = 0 := by rw [i_eq_iff] at c2_; omega
    have zz3_l : -2147483648 ≤ a2.toInt := Int32.le_toInt a2
    have zz3_h : a2.toInt ≤ 2147483647 := Int32.toInt_le a2
    refine sf_ite (fun c4_ => ?_) (fun c4_ => ?_)
    · have rc4_ : a2.toInt = 0 := by rw [i_eq_iff] at c4_; omega
      refine sf_rd (by omega) (by omega) (fun x2 ex2 => ?_)
      have zz5_l : -2147483648 ≤ x2.toInt := Int32.le_toInt x2
      have zz5_h : x2.toInt ≤ 2147483647 := Int32.toInt_le x2
      exact sf_some (show (True) from trivial)
    · have rc4_ : ¬ a2.toInt = 0 := by rw [i_eq_iff] at c4_; omega
      have l_1 : (1 : Int32).toInt = 1 := by decide
      refine sf_ite (fun c6_ => ?_) (fun c6_ => ?_)
      · have rc6_ : a2.toInt = 1 := by rw [i_eq_iff] at c6_; omega
        refine sf_rd (by omega) (by omega) (fun x4 ex4 => ?_)
        have zz7_l : -2147483648 ≤ x4.toInt := Int32.le_toInt x4
        have zz7_h : x4.toInt ≤ 2147483647 := Int32.toInt_le x4
        exact sf_some (show (True) from trivial)
      · have rc6_ : ¬ a2.toInt = 1 := by rw [i_eq_iff] at c6_; omega
        have l_2 : (2 : Int32).toInt = 2 := by decide
        refine sf_ite (fun c8_ => ?_) (fun c8_ => ?_)
        · have rc8_ : a2.toInt = 2 := by rw [i_eq_iff] at c8_; omega
          refine sf_rd (by omega) (by omega) (fun x6 ex6 => ?_)
          have zz9_l : -2147483648 ≤ x6.toInt := Int32.le_toInt x6
          have zz9_h : x6.toInt ≤ 2147483647 := Int32.toInt_le x6
          exact sf_some (show (True) from trivial)
        · have rc8_ : ¬ a2.toInt = 2 := by rw [i_eq_iff] at c8_; omega
          have l_3 : (3 : Int32).toInt = 3 := by decide
          refine sf_ite (fun c10_ => ?_) (fun c10_ => ?_)
          · have rc10_ : a2.toInt = 3 := by rw [i_eq_iff] at c10_; omega
            have l_13 : (13 : Int32).toInt = 13 := by decide
            have e11_ : ((13 : Int32) + a1).toInt = (13 : Int32).toInt + a1.toInt := i_add (by omega) (by omega)
            refine sf_rd (by omega) (by omega) (fun x8 ex8 => ?_)
            have zz12_l : -2147483648 ≤ x8.toInt := Int32.le_toInt x8
            have zz12_h : x8.toInt ≤ 2147483647 := Int32.toInt_le x8
            exact sf_some (show (True) from trivial)
          · have rc10_ : ¬ a2.toInt = 3 := by rw [i_eq_iff] at c10_; omega
            have l_4 : (4 : Int32).toInt = 4 := by decide
            refine sf_ite (fun c13_ => ?_) (fun c13_ => ?_)
            · have rc13_ : a2.toInt = 4 := by rw [i_eq_iff] at c13_; omega
              have l_19 : (19 : Int32).toInt = 19 := by decide
              have e14_ : ((19 : Int32) + a1).toInt = (19 : Int32).toInt + a1.toInt := i_add (by omega) (by omega)
              refine sf_rd (by omega) (by omega) (fun x10 ex10 => ?_)
              have zz15_l : -2147483648 ≤ x10.toInt := Int32.le_toInt x10
              have zz15_h : x10.toInt ≤ 2147483647 := Int32.toInt_le x10
              exact sf_some (show (True) from trivial)
            · have rc13_ : ¬ a2.toInt = 4 := by rw [i_eq_iff] at c13_; omega
              have l_5 : (5 : Int32).toInt = 5 := by decide
              refine sf_ite (fun c16_ => ?_) (fun c16_ => ?_)
              · have rc16_ : a2.toInt = 5 := by rw [i_eq_iff] at c16_; omega
                have l_7 : (7 : Int32).toInt = 7 := by decide
                have e17_ : ((7 : Int32) + a1).toInt = (7 : Int32).toInt + a1.toInt := i_add (by omega) (by omega)
                refine sf_rd (by omega) (by omega) (fun x12 ex12 => ?_)
                have zz18_l : -2147483648 ≤ x12.toInt := Int32.le_toInt x12
                have zz18_h : x12.toInt ≤ 2147483647 := Int32.toInt_le x12
                refine sf_ite (fun c19_ => ?_) (fun c19_ => ?_)
                · have rc19_ : x12.toInt = 0 := by rw [i_eq_iff] at c19_; omega
                  refine sf_bind (sf_X10_limit a1 w hI (by omega) (by omega)) (fun r13 hqr13 hpr13 => ?_)
                  have l_19 : (19 : Int32).toInt = 19 := by decide
                  have e20_ : ((19 : Int32) + a1).toInt = (19 : Int32).toInt + a1.toInt := i_add (by omega) (by omega)
                  refine sf_rd (by omega) (by omega) (fun x14 ex14 => ?_)
                  have zz21_l : -2147483648 ≤ r13.toInt := Int32.le_toInt r13
                  have zz21_h : r13.toInt ≤ 2147483647 := Int32.toInt_le r13
                  have zz22_l : -2147483648 ≤ x14.toInt := Int32.le_toInt x14
                  have zz22_h : x14.toInt ≤ 2147483647 := Int32.toInt_le x14
                  exact sf_some (show (True) from trivial)
                · have rc19_ : ¬ x12.toInt = 0 := by rw [i_eq_iff] at c19_; omega
                  exact sf_some (show (True) from trivial)
              · have rc16_ : ¬ a2.toInt = 5 := by rw [i_eq_iff] at c16_; omega
                have l_6 : (6 : Int32).toInt = 6 := by decide
                refine sf_ite (fun c23_ => ?_) (fun c23_ => ?_)
                · have rc23_ : a2.toInt = 6 := by rw [i_eq_iff] at c23_; omega
                  refine sf_bind (sf_X10_favourite a1 w hI (by omega) (by omega)) (fun r16 hqr16 hpr16 => ?_)
                  have zz24_l : -2147483648 ≤ r16.toInt := Int32.le_toInt r16
                  have zz24_h : r16.toInt ≤ 2147483647 := Int32.toInt_le r16
                  exact sf_some (show (True) from trivial)
                · have rc23_ : ¬ a2.toInt = 6 := by rw [i_eq_iff] at c23_; omega
                  have l_m1000000002 : (-1000000002 : Int32).toInt = -1000000002 := by decide
                  exact sf_some (show (True) from trivial)
set_option maxRecDepth 20000 in
set_option maxHeartbeats 2000000 in
theorem sf_X10_remember {g : Nat → Int} (w : Mem) (hI : Inv g w) (pre0 : g 0 = 1) : Sf (fun (q : Mem) => (Inv g q) ∧ ((q 146 4).toInt = (w 146 4).toInt)) (f_X10_remember w) := by
  obtain ⟨hg0, hg1⟩ := hI.1
  unfold f_X10_remember
  refine sf_bind (Q := fun (v3 : Mem) => (Inv g v3) ∧ ((v3 134 25).toInt = (w 134 25).toInt) ∧ ((v3 134 26).toInt = (w 134 26).toInt) ∧ ((v3 146 4).toInt = (w 146 4).toInt)) ?_ (fun v3 hqv3 hvv3 => ?_)
  · have l_0 : (0 : Int32).toInt = 0 := by decide
    have h1_ : 0 ≤ (w 134 25).toInt ∧ (w 134 25).toInt ≤ 30 * g 0 := iv_134_25 hI
    have h2_ : 0 ≤ (w 134 26).toInt ∧ (w 134 26).toInt ≤ 29 := iv_134_26 hI
    have h3_ : ((4 : Int) = 4 → -1 ≤ (w 146 4).toInt ∧ (w 146 4).toInt ≤ 6 * g 0 - 1) ∧ ((4 : Int) = 6 → -1 ≤ (w 146 4).toInt ∧ (w 146 4).toInt ≤ 7) := ia_146 (j := 4) hI
    refine sf_lp (fun (s2 : (Int32 × Mem)) => (Inv g s2.2) ∧ (0 ≤ s2.1.toInt) ∧ (s2.1.toInt ≤ 25) ∧ ((s2.2 134 25).toInt = (w 134 25).toInt) ∧ ((s2.2 134 26).toInt = (w 134 26).toInt) ∧ ((s2.2 146 4).toInt = (w 146 4).toInt)) (fun (s2 : (Int32 × Mem)) => (26 - s2.1.toInt).toNat) (fun s2 hss2 => ?_) _ _ (show (Inv g w) ∧ (0 ≤ (0 : Int32).toInt) ∧ ((0 : Int32).toInt ≤ 25) ∧ ((w 134 25).toInt = (w 134 25).toInt) ∧ ((w 134 26).toInt = (w 134 26).toInt) ∧ ((w 146 4).toInt = (w 146 4).toInt) from ⟨hI, by omega, by omega, rfl, rfl, rfl⟩) (show (26 - (0 : Int32).toInt).toNat < 5000000000 from by omega)
    obtain ⟨hIs2, hss2_1, hss2_2, hss2_3, hss2_4, hss2_5⟩ := hss2
    refine (?_ : Sf (lpP _ _ (26 - s2.1.toInt).toNat _) _)
    have h4_ : 0 ≤ (s2.2 134 25).toInt ∧ (s2.2 134 25).toInt ≤ 30 * g 0 := iv_134_25 hIs2
    have h5_ : 0 ≤ (s2.2 134 26).toInt ∧ (s2.2 134 26).toInt ≤ 29 := iv_134_26 hIs2
    have h6_ : ((4 : Int) = 4 → -1 ≤ (s2.2 146 4).toInt ∧ (s2.2 146 4).toInt ≤ 6 * g 0 - 1) ∧ ((4 : Int) = 6 → -1 ≤ (s2.2 146 4).toInt ∧ (s2.2 146 4).toInt ≤ 7) := ia_146 (j := 4) hIs2
    have l_25 : (25 : Int32).toInt = 25 := by decide
    refine sf_ite (fun c7_ => ?_) (fun c7_ => ?_)
    · have rc7_ : s2.1.toInt < 25 := by rw [Int32.lt_iff_toInt_lt] at c7_; omega
      refine sf_rd (by omega) (by omega) (fun x1 ex1 => ?_)
      have n8_ : (s2.1.toNatClampNeg : Int) = s2.1.toInt := i_clq (by omega)
      have fx1 : (s2.1.toInt = 4 → -1 ≤ x1.toInt ∧ x1.toInt ≤ 6 * g 0 - 1) ∧ (s2.1.toInt = 6 → -1 ≤ x1.toInt ∧ x1.toInt ≤ 7) := by have h9 := ia_146 (j := s2.1.toNatClampNeg) hIs2; rw [← ex1, i_clq (by omega)] at h9; exact h9
      have e9_ : ((25 : Int32) * (s2.2 134 26)).toInt = 25 * (s2.2 134 26).toInt := i_mulkl (by decide) (by omega) (by omega)
      have e10_ : (((25 : Int32) * (s2.2 134 26)) + s2.1).toInt = ((25 : Int32) * (s2.2 134 26)).toInt + s2.1.toInt := i_add (by omega) (by omega)
      have zz11_l : -2147483648 ≤ x1.toInt := Int32.le_toInt x1
      have zz11_h : x1.toInt ≤ 2147483647 := Int32.toInt_le x1
      refine sf_wr (by omega) (by omega) (fun w2 ew2 => ?_)
      have n12_ : ((((25 : Int32) * (s2.2 134 26)) + s2.1).toNatClampNeg : Int) = (((25 : Int32) * (s2.2 134 26)) + s2.1).toInt := i_clq (by omega)
      have hIw2 : Inv g w2 := by rw [ew2]; exact ua_147 hIs2 (by omega) (by omega) (show ((((25 : Int32) * (s2.2 134 26)) + s2.1).toInt % 25 = 4 → -1 ≤ x1.toInt ∧ x1.toInt ≤ 5) ∧ ((((25 : Int32) * (s2.2 134 26)) + s2.1).toInt % 25 = 6 → -1 ≤ x1.toInt ∧ x1.toInt ≤ 7) from by omega)
      have l_1 : (1 : Int32).toInt = 1 := by decide
      have e13_ : (s2.1 + (1 : Int32)).toInt = s2.1.toInt + (1 : Int32).toInt := i_add (by omega) (by omega)
      have h14_ : 0 ≤ (w2 134 25).toInt ∧ (w2 134 25).toInt ≤ 30 * g 0 := iv_134_25 hIw2
      have k15_ : (w2 134 25).toInt = (s2.2 134 25).toInt := by rw [ew2, wu_ne (by omega)]
      have h16_ : 0 ≤ (w2 134 26).toInt ∧ (w2 134 26).toInt ≤ 29 := iv_134_26 hIw2
      have k17_ : (w2 134 26).toInt = (s2.2 134 26).toInt := by rw [ew2, wu_ne (by omega)]
      have h18_ : ((4 : Int) = 4 → -1 ≤ (w2 146 4).toInt ∧ (w2 146 4).toInt ≤ 6 * g 0 - 1) ∧ ((4 : Int) = 6 → -1 ≤ (w2 146 4).toInt ∧ (w2 146 4).toInt ≤ 7) := ia_146 (j := 4) hIw2
      have k19_ : (w2 146 4).toInt = (s2.2 146 4).toInt := by rw [ew2, wu_ne (by omega)]
      exact sf_some (show ((Inv g w2) ∧ (0 ≤ (s2.1 + (1 : Int32)).toInt) ∧ ((s2.1 + (1 : Int32)).toInt ≤ 25) ∧ ((w2 134 25).toInt = (w 134 25).toInt) ∧ ((w2 134 26).toInt = (w 134 26).toInt) ∧ ((w2 146 4).toInt = (w 146 4).toInt)) ∧ (26 - (s2.1 + (1 : Int32)).toInt).toNat < (26 - s2.1.toInt).toNat from ⟨⟨hIw2, by omega, by omega, by omega, by omega, by omega⟩, by omega⟩)
    · have rc7_ : ¬ s2.1.toInt < 25 := by rw [Int32.lt_iff_toInt_lt] at c7_; omega
      exact sf_some (show (Inv g s2.2) ∧ ((s2.2 134 25).toInt = (w 134 25).toInt) ∧ ((s2.2 134 26).toInt = (w 134 26).toInt) ∧ ((s2.2 146 4).toInt = (w 146 4).toInt) from ⟨hIs2, by omega, by omega, by omega⟩)
  · obtain ⟨hIv3, hvv3_1, hvv3_2, hvv3_3⟩ := hvv3
    have h20_ : 0 ≤ (w 134 25).toInt ∧ (w 134 25).toInt ≤ 30 * g 0 := iv_134_25 hI
    have h21_ : 0 ≤ (v3 134 25).toInt ∧ (v3 134 25).toInt ≤ 30 * g 0 := iv_134_25 hIv3
    have h22_ : 0 ≤ (w 134 26).toInt ∧ (w 134 26).toInt ≤ 29 := iv_134_26 hI
    have h23_ : 0 ≤ (v3 134 26).toInt ∧ (v3 134 26).toInt ≤ 29 := iv_134_26 hIv3
    have h24_ : ((4 : Int) = 4 → -1 ≤ (w 146 4).toInt ∧ (w 146 4).toInt ≤ 6 * g 0 - 1) ∧ ((4 : Int) = 6 → -1 ≤ (w 146 4).toInt ∧ (w 146 4).toInt ≤ 7) := ia_146 (j := 4) hI
    have h25_ : ((4 : Int) = 4 → -1 ≤ (v3 146 4).toInt ∧ (v3 146 4).toInt ≤ 6 * g 0 - 1) ∧ ((4 : Int) = 6 → -1 ≤ (v3 146 4).toInt ∧ (v3 146 4).toInt ≤ 7) := ia_146 (j := 4) hIv3
    have l_1 : (1 : Int32).toInt = 1 := by decide
    have e26_ : ((v3 134 26) + (1 : Int32)).toInt = (v3 134 26).toInt + (1 : Int32).toInt := i_add (by omega) (by omega)
    have l_30 : (30 : Int32).toInt = 30 := by decide
    have e27_ : (((v3 134 26) + (1 : Int32)) - ((v3 134 26) + (1 : Int32)) / (30 : Int32) * (30 : Int32)).toInt = ((v3 134 26) + (1 : Int32)).toInt % 30 := i_remk (by decide) (by decide) (by omega)
    refine sf_pw (fun w4 ew4 => ?_)
    have hIw4 : Inv g w4 := by rw [ew4]; exact up_134_26 hIv3 (show 0 ≤ (((v3 134 26) + (1 : Int32)) - ((v3 134 26) + (1 : Int32)) / (30 : Int32) * (30 : Int32)).toInt ∧ (((v3 134 26) + (1 : Int32)) - ((v3 134 26) + (1 : Int32)) / (30 : Int32) * (30 : Int32)).toInt ≤ 29 from by omega)
    refine sf_bind (Q := fun (v5 : Int32) => (0 ≤ v5.toInt) ∧ (v5.toInt ≤ 1) ∧ (v5.toInt + (w4 134 25).toInt ≤ 30)) ?_ (fun v5 hqv5 hvv5 => ?_)
    · have h28_ : 0 ≤ (w4 134 25).toInt ∧ (w4 134 25).toInt ≤ 30 * g 0 := iv_134_25 hIw4
      have k29_ : (w4 134 25).toInt = (v3 134 25).toInt := by rw [ew4, wu_ne (by omega)]
      refine sf_ite (fun c30_ => ?_) (fun c30_ => ?_)
      · have rc30_ : (w4 134 25).toInt < 30 := by rw [Int32.lt_iff_toInt_lt] at c30_; omega
        exact sf_some (show (0 ≤ (1 : Int32).toInt) ∧ ((1 : Int32).toInt ≤ 1) ∧ ((1 : Int32).toInt + (w4 134 25).toInt ≤ 30) from ⟨by omega, by omega, by omega⟩)
      · have rc30_ : ¬ (w4 134 25).toInt < 30 := by rw [Int32.lt_iff_toInt_lt] at c30_; omega
        have l_0 : (0 : Int32).toInt = 0 := by decide
        exact sf_some (show (0 ≤ (0 : Int32).toInt) ∧ ((0 : Int32).toInt ≤ 1) ∧ ((0 : Int32).toInt + (w4 134 25).toInt ≤ 30) from ⟨by omega, by omega, by omega⟩)
    · obtain ⟨hvv5_0, hvv5_1, hvv5_2⟩ := hvv5
      have h31_ : 0 ≤ (w4 134 25).toInt ∧ (w4 134 25).toInt ≤ 30 * g 0 := iv_134_25 hIw4
      have k32_ : (w4 134 25).toInt = (v3 134 25).toInt := by rw [ew4, wu_ne (by omega)]
      have e33_ : ((w4 134 25) + v5).toInt = (w4 134 25).toInt + v5.toInt := i_add (by omega) (by omega)
      refine sf_pw (fun w6 ew6 => ?_)
      have hIw6 : Inv g w6 := by rw [ew6]; exact up_134_25 hIw4 (show 0 ≤ ((w4 134 25) + v5).toInt ∧ ((w4 134 25) + v5).toInt ≤ 30 * g 0 from by omega)
      have h34_ : ((4 : Int) = 4 → -1 ≤ (w6 146 4).toInt ∧ (w6 146 4).toInt ≤ 6 * g 0 - 1) ∧ ((4 : Int) = 6 → -1 ≤ (w6 146 4).toInt ∧ (w6 146 4).toInt ≤ 7) := ia_146 (j := 4) hIw6
      have h35_ : ((4 : Int) = 4 → -1 ≤ (w4 146 4).toInt ∧ (w4 146 4).toInt ≤ 6 * g 0 - 1) ∧ ((4 : Int) = 6 → -1 ≤ (w4 146 4).toInt ∧ (w4 146 4).toInt ≤ 7) := ia_146 (j := 4) hIw4
      have k36_ : (w4 146 4).toInt = (v3 146 4).toInt := by rw [ew4, wu_ne (by omega)]
      have k37_ : (w6 146 4).toInt = (w4 146 4).toInt := by rw [ew6, wu_ne (by omega)]
      exact sf_some (show (Inv g w6) ∧ ((w6 146 4).toInt = (w 146 4).toInt) from ⟨hIw6, by omega⟩)
set_option maxRecDepth 20000 in
set_option maxHeartbeats 2000000 in
theorem sf_X10_seats {g : Nat → Int} (a1 : Int32) (w : Mem) (hI : Inv g w) (pre0 : 0 ≤ a1.toInt) (pre1 : a1.toInt ≤ 5) (pre2 : g 0 = 1) : Sf (fun (q : Mem) => (Inv g q)) (f_X10_seats a1 w) := by
  obtain ⟨hg0, hg1⟩ := hI.1
  unfold f_X10_seats
  have l_7 : (7 : Int32).toInt = 7 := by decide
  have e1_ : ((7 : Int32) + a1).toInt = (7 : Int32).toInt + a1.toInt := i_add (by omega) (by omega)
  have l_1 : (1 : Int32).toInt = 1 := by decide
  refine sf_wr (by omega) (by omega) (fun w1 ew1 => ?_)
  have n2_ : (((7 : Int32) + a1).toNatClampNeg : Int) = ((7 : Int32) + a1).toInt := i_clq (by omega)
  have hIw1 : Inv g w1 := by rw [ew1]; exact ua_146 hI (by omega) (by omega) (show (((7 : Int32) + a1).toInt = 4 → -1 ≤ (1 : Int32).toInt ∧ (1 : Int32).toInt ≤ 6 * g 0 - 1) ∧ (((7 : Int32) + a1).toInt = 6 → -1 ≤ (1 : Int32).toInt ∧ (1 : Int32).toInt ≤ 7) from by omega)
  have l_4 : (4 : Int32).toInt = 4 := by decide
  refine sf_wr (by omega) (by omega) (fun w2 ew2 => ?_)
  have n3_ : ((4 : Int32).toNatClampNeg : Int) = (4 : Int32).toInt := i_clq (by omega)
  have hIw2 : Inv g w2 := by rw [ew2]; exact ua_146 hIw1 (by omega) (by omega) (show ((4 : Int32).toInt = 4 → -1 ≤ a1.toInt ∧ a1.toInt ≤ 6 * g 0 - 1) ∧ ((4 : Int32).toInt = 6 → -1 ≤ a1.toInt ∧ a1.toInt ≤ 7) from by omega)
  have l_5 : (5 : Int32).toInt = 5 := by decide
  have l_0 : (0 : Int32).toInt = 0 := by decide
  refine sf_wr (by omega) (by omega) (fun w3 ew3 => ?_)
  have n4_ : ((5 : Int32).toNatClampNeg : Int) = (5 : Int32).toInt := i_clq (by omega)
  have hIw3 : Inv g w3 := by rw [ew3]; exact ua_146 hIw2 (by omega) (by omega) (show ((5 : Int32).toInt = 4 → -1 ≤ (0 : Int32).toInt ∧ (0 : Int32).toInt ≤ 6 * g 0 - 1) ∧ ((5 : Int32).toInt = 6 → -1 ≤ (0 : Int32).toInt ∧ (0 : Int32).toInt ≤ 7) from by omega)
  have l_6 : (6 : Int32).toInt = 6 := by decide
  have l_m1 : (-1 : Int32).toInt = -1 := by decide
  refine sf_wr (by omega) (by omega) (fun w4 ew4 => ?_)
  have n5_ : ((6 : Int32).toNatClampNeg : Int) = (6 : Int32).toInt := i_clq (by omega)
  have hIw4 : Inv g w4 := by rw [ew4]; exact ua_146 hIw3 (by omega) (by omega) (show ((6 : Int32).toInt = 4 → -1 ≤ (-1 : Int32).toInt ∧ (-1 : Int32).toInt ≤ 6 * g 0 - 1) ∧ ((6 : Int32).toInt = 6 → -1 ≤ (-1 : Int32).toInt ∧ (-1 : Int32).toInt ≤ 7) from by omega)
  exact sf_some (show (Inv g w4) from hIw4)
