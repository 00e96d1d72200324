set_option maxRecDepth 20000 in
set_option maxHeartbeats 2000000 in
theorem sf_X8_worthOfAll {g : Nat → Int} (b1 : Nat) (hb1 : BrO b1) (a2 : Int32) (w : Mem) (hI : Inv g w) : Sf (fun (q : Int32 × Mem) => (Inv g q.2)) (f_X8_worthOfAll b1 a2 w) := by
  have hbb_b1 : b1 = 112 ∨ b1 = 119 := hb1
  obtain ⟨hg0, hg1⟩ := hI.1
  unfold f_X8_worthOfAll
  refine sf_bind (Q := fun (v3 : (Int32 × Mem)) => (Inv g v3.2) ∧ ((v3.2 b1 3).toInt = (w b1 3).toInt)) ?_ (fun v3 hqv3 hvv3 => ?_)
  · have l_0 : (0 : Int32).toInt = 0 := by decide
    have h1_ : 0 ≤ (w b1 3).toInt ∧ (w b1 3).toInt ≤ 6 := ivX1_3 hb1 hI
    refine sf_lp (fun (s5 : (Int32 × Int32 × Mem)) => (Inv g s5.2.2) ∧ (0 ≤ s5.2.1.toInt) ∧ (s5.2.1.toInt ≤ 6) ∧ ((s5.2.2 b1 3).toInt = (w b1 3).toInt)) (fun (s5 : (Int32 × Int32 × Mem)) => (7 - s5.2.1.toInt).toNat) (fun s5 hss5 => ?_) _ _ (show (Inv g w) ∧ (0 ≤ (0 : Int32).toInt) ∧ ((0 : Int32).toInt ≤ 6) ∧ ((w b1 3).toInt = (w b1 3).toInt) from ⟨hI, by omega, by omega, rfl⟩) (show (7 - (0 : Int32).toInt).toNat < 5000000000 from by omega)
    obtain ⟨hIs5, hss5_1, hss5_2, hss5_3⟩ := hss5
    refine (?_ : Sf (lpP _ _ (7 - s5.2.1.toInt).toNat _) _)
    have h2_ : 0 ≤ (s5.2.2 b1 3).toInt ∧ (s5.2.2 b1 3).toInt ≤ 6 := ivX1_3 hb1 hIs5
    refine sf_ite (fun c3_ => ?_) (fun c3_ => ?_)
    · have rc3_ : s5.2.1.toInt < (s5.2.2 b1 3).toInt := by rw [Int32.lt_iff_toInt_lt] at c3_; omega
      have zz4_l : -2147483648 ≤ a2.toInt := Int32.le_toInt a2
      have zz4_h : a2.toInt ≤ 2147483647 := Int32.toInt_le a2
      refine sf_bind (sf_X8_tryWith b1 hb1 s5.2.1 a2 s5.2.2 hIs5) (fun w1 hqw1 hpw1 => ?_)
      have hIw1 := hpw1
      have zz5_l : -2147483648 ≤ (w1 99 1).toInt := Int32.le_toInt (w1 99 1)
      have zz5_h : (w1 99 1).toInt ≤ 2147483647 := Int32.toInt_le (w1 99 1)
      refine sf_bind (sf_X1_payFor b1 hb1 (w1 99 1) w1 hIw1) (fun r2 hqr2 hpr2 => ?_)
      have zz6_l : -2147483648 ≤ s5.1.toInt := Int32.le_toInt s5.1
      have zz6_h : s5.1.toInt ≤ 2147483647 := Int32.toInt_le s5.1
      have zz7_l : -2147483648 ≤ r2.toInt := Int32.le_toInt r2
      have zz7_h : r2.toInt ≤ 2147483647 := Int32.toInt_le r2
      have l_1 : (1 : Int32).toInt = 1 := by decide
      have e8_ : (s5.2.1 + (1 : Int32)).toInt = s5.2.1.toInt + (1 : Int32).toInt := i_add (by omega) (by omega)
      have h9_ : 0 ≤ (w1 b1 3).toInt ∧ (w1 b1 3).toInt ≤ 6 := ivX1_3 hb1 hIw1
      have k10_ : (w1 b1 3).toInt = (s5.2.2 b1 3).toInt := congrArg Int32.toInt (fr_X8_tryWith b1 hb1 s5.2.1 a2 s5.2.2 w1 hqw1 b1 3 (by omega))
      exact sf_some (show ((Inv g w1) ∧ (0 ≤ (s5.2.1 + (1 : Int32)).toInt) ∧ ((s5.2.1 + (1 : Int32)).toInt ≤ 6) ∧ ((w1 b1 3).toInt = (w b1 3).toInt)) ∧ (7 - (s5.2.1 + (1 : Int32)).toInt).toNat < (7 - s5.2.1.toInt).toNat from ⟨⟨hIw1, by omega, by omega, by omega⟩, by omega⟩)
    · have rc3_ : ¬ s5.2.1.toInt < (s5.2.2 b1 3).toInt := by rw [Int32.lt_iff_toInt_lt] at c3_; omega
      have zz11_l : -2147483648 ≤ s5.1.toInt := Int32.le_toInt s5.1
      have zz11_h : s5.1.toInt ≤ 2147483647 := Int32.toInt_le s5.1
      exact sf_some (show (Inv g s5.2.2) ∧ ((s5.2.2 b1 3).toInt = (w b1 3).toInt) from ⟨hIs5, by omega⟩)
  · obtain ⟨hIv3, hvv3_1⟩ := hvv3
    have h12_ : 0 ≤ (w b1 3).toInt ∧ (w b1 3).toInt ≤ 6 := ivX1_3 hb1 hI
    have h13_ : 0 ≤ (v3.2 b1 3).toInt ∧ (v3.2 b1 3).toInt ≤ 6 := ivX1_3 hb1 hIv3
    have zz14_l : -2147483648 ≤ v3.1.toInt := Int32.le_toInt v3.1
    have zz14_h : v3.1.toInt ≤ 2147483647 := Int32.toInt_le v3.1
    exact sf_some (show (Inv g v3.2) from hIv3)
set_option maxRecDepth 20000 in
set_option maxHeartbeats 2000000 in
theorem sf_X8_bestToLearn {g : Nat → Int} (b1 : Nat) (hb1 : BrO b1) (a2 : Int32) (w : Mem) (hI : Inv g w) : Sf (fun (q : Int32 × Mem) => (Inv g q.2)) (f_X8_bestToLearn b1 a2 w) := by
  have hbb_b1 : b1 = 112 ∨ b1 = 119 := hb1
  obtain ⟨hg0, hg1⟩ := hI.1
  unfold f_X8_bestToLearn
  refine sf_bind (Q := fun (v5 : (Int32 × Mem)) => (Inv g v5.2) ∧ (-1 ≤ v5.1.toInt) ∧ (v5.1.toInt ≤ 7) ∧ ((v5.2 b1 2).toInt = (w b1 2).toInt)) ?_ (fun v5 hqv5 hvv5 => ?_)
  · have l_m1 : (-1 : Int32).toInt = -1 := by decide
    have l_0 : (0 : Int32).toInt = 0 := by decide
    have h1_ : 0 ≤ (w b1 2).toInt ∧ (w b1 2).toInt ≤ 8 := ivX1_2 hb1 hI
    refine sf_lp (fun (s8 : (Int32 × Int32 × Int32 × Mem)) => (Inv g s8.2.2.2) ∧ (-1 ≤ s8.1.toInt) ∧ (s8.1.toInt ≤ 7) ∧ (-1 ≤ s8.2.1.toInt) ∧ (0 ≤ s8.2.2.1.toInt) ∧ (s8.2.2.1.toInt ≤ 8) ∧ ((s8.2.2.2 b1 2).toInt = (w b1 2).toInt)) (fun (s8 : (Int32 × Int32 × Int32 × Mem)) => (9 - s8.2.2.1.toInt).toNat) (fun s8 hss8 => ?_) _ _ (show (Inv g w) ∧ (-1 ≤ (-1 : Int32).toInt) ∧ ((-1 : Int32).toInt ≤ 7) ∧ (-1 ≤ (-1 : Int32).toInt) ∧ (0 ≤ (0 : Int32).toInt) ∧ ((0 : Int32).toInt ≤ 8) ∧ ((w b1 2).toInt = (w b1 2).toInt) from ⟨hI, by omega, by omega, by omega, by omega, by omega, rfl⟩) (show (9 - (0 : Int32).toInt).toNat < 5000000000 from by omega)
    obtain ⟨hIs8, hss8_1, hss8_2, hss8_3, hss8_4, hss8_5, hss8_6⟩ := hss8
    refine (?_ : Sf (lpP _ _ (9 - s8.2.2.1.toInt).toNat _) _)
    have h2_ : 0 ≤ (s8.2.2.2 b1 2).toInt ∧ (s8.2.2.2 b1 2).toInt ≤ 8 := ivX1_2 hb1 hIs8
    refine sf_ite (fun c3_ => ?_) (fun c3_ => ?_)
    · have rc3_ : s8.2.2.1.toInt < (s8.2.2.2 b1 2).toInt := by rw [Int32.lt_iff_toInt_lt] at c3_; omega
      have zz4_l : -2147483648 ≤ a2.toInt := Int32.le_toInt a2
      have zz4_h : a2.toInt ≤ 2147483647 := Int32.toInt_le a2
      refine sf_bind (sf_X9_holds a2 s8.2.2.1) (fun r1 hqr1 hpr1 => ?_)
      have hpr1_0 := hpr1
      refine sf_bind (Q := fun (v2 : (Int32 × Mem)) => (Inv g v2.2) ∧ ((v2.2 b1 2).toInt = (s8.2.2.2 b1 2).toInt)) ?_ (fun v2 hqv2 hvv2 => ?_)
      · refine sf_ite (fun c5_ => ?_) (fun c5_ => ?_)
        · have rc5_ : r1.toInt = 0 := by rw [i_eq_iff] at c5_; omega
          have l_1 : (1 : Int32).toInt = 1 := by decide
          have e6_ : 1 ≤ ((1 : Int32) <<< (s8.2.2.1 &&& 31)).toInt ∧ ((1 : Int32) <<< (s8.2.2.1 &&& 31)).toInt ≤ 128 := i_shl1 (k := 7) (by decide) (by omega) (show _ ≤ 7 from by omega)
          refine sf_bind (sf_X8_worthOfAll b1 hb1 (a2 ||| ((1 : Int32) <<< (s8.2.2.1 &&& 31))) s8.2.2.2 hIs8) (fun q4 hqq4 hpq4 => ?_)
          have hIq4 := hpq4
          have zz7_l : -2147483648 ≤ q4.1.toInt := Int32.le_toInt q4.1
          have zz7_h : q4.1.toInt ≤ 2147483647 := Int32.toInt_le q4.1
          have h8_ : 0 ≤ (q4.2 b1 2).toInt ∧ (q4.2 b1 2).toInt ≤ 8 := ivX1_2 hb1 hIq4
          have k9_ : (q4.2 b1 2).toInt = (s8.2.2.2 b1 2).toInt := congrArg Int32.toInt (fr_X8_worthOfAll b1 hb1 (a2 ||| ((1 : Int32) <<< (s8.2.2.1 &&& 31))) s8.2.2.2 q4 hqq4 b1 2 (by omega))
          exact sf_some (show (Inv g q4.2) ∧ ((q4.2 b1 2).toInt = (s8.2.2.2 b1 2).toInt) from ⟨hIq4, by omega⟩)
        · have rc5_ : ¬ r1.toInt = 0 := by rw [i_eq_iff] at c5_; omega
          exact sf_some (show (Inv g s8.2.2.2) ∧ ((s8.2.2.2 b1 2).toInt = (s8.2.2.2 b1 2).toInt) from ⟨hIs8, rfl⟩)
      · obtain ⟨hIv2, hvv2_1⟩ := hvv2
        have h10_ : 0 ≤ (v2.2 b1 2).toInt ∧ (v2.2 b1 2).toInt ≤ 8 := ivX1_2 hb1 hIv2
        refine sf_bind (Q := fun (v3 : (Int32 × Int32)) => (-1 ≤ v3.1.toInt) ∧ (v3.1.toInt ≤ 7) ∧ (-1 ≤ v3.2.toInt)) ?_ (fun v3 hqv3 hvv3 => ?_)
        · have zz11_l : -2147483648 ≤ s8.2.1.toInt := Int32.le_toInt s8.2.1
          have zz11_h : s8.2.1.toInt ≤ 2147483647 := Int32.toInt_le s8.2.1
          have zz12_l : -2147483648 ≤ v2.1.toInt := Int32.le_toInt v2.1
          have zz12_h : v2.1.toInt ≤ 2147483647 := Int32.toInt_le v2.1
          refine sf_ite (fun c13_ => ?_) (fun c13_ => ?_)
          · have rc13_ : s8.2.1.toInt < v2.1.toInt := by rw [Int32.lt_iff_toInt_lt] at c13_; omega
            exact sf_some (show (-1 ≤ s8.2.2.1.toInt) ∧ (s8.2.2.1.toInt ≤ 7) ∧ (-1 ≤ v2.1.toInt) from ⟨by omega, by omega, by omega⟩)
          · have rc13_ : ¬ s8.2.1.toInt < v2.1.toInt := by rw [Int32.lt_iff_toInt_lt] at c13_; omega
            exact sf_some (show (-1 ≤ s8.1.toInt) ∧ (s8.1.toInt ≤ 7) ∧ (-1 ≤ s8.2.1.toInt) from ⟨by omega, by omega, by omega⟩)
        · obtain ⟨hvv3_0, hvv3_1, hvv3_2⟩ := hvv3
          have zz14_l : -2147483648 ≤ v3.2.toInt := Int32.le_toInt v3.2
          have zz14_h : v3.2.toInt ≤ 2147483647 := Int32.toInt_le v3.2
          have l_1 : (1 : Int32).toInt = 1 := by decide
          have e15_ : (s8.2.2.1 + (1 : Int32)).toInt = s8.2.2.1.toInt + (1 : Int32).toInt := i_add (by omega) (by omega)
          exact sf_some (show ((Inv g v2.2) ∧ (-1 ≤ v3.1.toInt) ∧ (v3.1.toInt ≤ 7) ∧ (-1 ≤ v3.2.toInt) ∧ (0 ≤ (s8.2.2.1 + (1 : Int32)).toInt) ∧ ((s8.2.2.1 + (1 : Int32)).toInt ≤ 8) ∧ ((v2.2 b1 2).toInt = (w b1 2).toInt)) ∧ (9 - (s8.2.2.1 + (1 : Int32)).toInt).toNat < (9 - s8.2.2.1.toInt).toNat from ⟨⟨hIv2, by omega, by omega, by omega, by omega, by omega, by omega⟩, by omega⟩)
    · have rc3_ : ¬ s8.2.2.1.toInt < (s8.2.2.2 b1 2).toInt := by rw [Int32.lt_iff_toInt_lt] at c3_; omega
      exact sf_some (show (Inv g s8.2.2.2) ∧ (-1 ≤ s8.1.toInt) ∧ (s8.1.toInt ≤ 7) ∧ ((s8.2.2.2 b1 2).toInt = (w b1 2).toInt) from ⟨hIs8, by omega, by omega, by omega⟩)
  · obtain ⟨hIv5, hvv5_1, hvv5_2, hvv5_3⟩ := hvv5
    have h16_ : 0 ≤ (w b1 2).toInt ∧ (w b1 2).toInt ≤ 8 := ivX1_2 hb1 hI
    have h17_ : 0 ≤ (v5.2 b1 2).toInt ∧ (v5.2 b1 2).toInt ≤ 8 := ivX1_2 hb1 hIv5
    exact sf_some (show (Inv g v5.2) from hIv5)
set_option maxRecDepth 20000 in
set_option maxHeartbeats 2000000 in
theorem sf_X9_told {g : Nat → Int} (a1 : Int32) (w : Mem) (hI : Inv g w) : Sf (fun (q : Int32 × Mem) => (Inv g q.2)) (f_X9_told a1 w) := by
  obtain ⟨hg0, hg1⟩ := hI.1
  unfold f_X9_told
  have zz1_l : -2147483648 ≤ a1.toInt := Int32.le_toInt a1
  have zz1_h : a1.toInt ≤ 2147483647 := Int32.toInt_le a1
  have l_0 : (0 : Int32).toInt = 0 := by decide
  refine sf_ite (fun c2_ => ?_) (fun c2_ => ?_)
  · have rc2_ : a1.toInt = 0 := by rw [i_eq_iff] at c2_; omega
    have zz3_l : -2147483648 ≤ (w (brp (w 0 8)) 0).toInt := Int32.le_toInt (w (brp (w 0 8)) 0)
    have zz3_h : (w (brp (w 0 8)) 0).toInt ≤ 2147483647 := Int32.toInt_le (w (brp (w 0 8)) 0)
    exact sf_some (show (Inv g w) from hI)
  · have rc2_ : ¬ a1.toInt = 0 := by rw [i_eq_iff] at c2_; omega
    have l_1 : (1 : Int32).toInt = 1 := by decide
    refine sf_ite (fun c4_ => ?_) (fun c4_ => ?_)
    · have rc4_ : a1.toInt = 1 := by rw [i_eq_iff] at c4_; omega
      have zz5_l : -2147483648 ≤ (w (brp (w 0 8)) 1).toInt := Int32.le_toInt (w (brp (w 0 8)) 1)
      have zz5_h : (w (brp (w 0 8)) 1).toInt ≤ 2147483647 := Int32.toInt_le (w (brp (w 0 8)) 1)
      exact sf_some (show (Inv g w) from hI)
    · have rc4_ : ¬ a1.toInt = 1 := by rw [i_eq_iff] at c4_; omega
      have l_2 : (2 : Int32).toInt = 2 := by decide
      refine sf_ite (fun c6_ => ?_) (fun c6_ => ?_)
      · have rc6_ : a1.toInt = 2 := by rw [i_eq_iff] at c6_; omega
        have h7_ : 0 ≤ (w (brp (w 0 8)) 2).toInt ∧ (w (brp (w 0 8)) 2).toInt ≤ 8 := ivX1_2 (brp_ok (w 0 8)) hI
        exact sf_some (show (Inv g w) from hI)
      · have rc6_ : ¬ a1.toInt = 2 := by rw [i_eq_iff] at c6_; omega
        have l_3 : (3 : Int32).toInt = 3 := by decide
        refine sf_ite (fun c8_ => ?_) (fun c8_ => ?_)
        · have rc8_ : a1.toInt = 3 := by rw [i_eq_iff] at c8_; omega
          have h9_ : 0 ≤ (w (brp (w 0 8)) 3).toInt ∧ (w (brp (w 0 8)) 3).toInt ≤ 6 := ivX1_3 (brp_ok (w 0 8)) hI
          exact sf_some (show (Inv g w) from hI)
        · have rc8_ : ¬ a1.toInt = 3 := by rw [i_eq_iff] at c8_; omega
          have l_4 : (4 : Int32).toInt = 4 := by decide
          refine sf_ite (fun c10_ => ?_) (fun c10_ => ?_)
          · have rc10_ : a1.toInt = 4 := by rw [i_eq_iff] at c10_; omega
            have h11_ : 0 ≤ (w 1 1).toInt ∧ (w 1 1).toInt ≤ 240 := iv_1_1 hI
            exact sf_some (show (Inv g w) from hI)
          · have rc10_ : ¬ a1.toInt = 4 := by rw [i_eq_iff] at c10_; omega
            have l_5 : (5 : Int32).toInt = 5 := by decide
            refine sf_ite (fun c12_ => ?_) (fun c12_ => ?_)
            · have rc12_ : a1.toInt = 5 := by rw [i_eq_iff] at c12_; omega
              refine sf_bind (sf_X9_toldOfEvening a1 w hI) (fun r6 hqr6 hpr6 => ?_)
              have zz13_l : -2147483648 ≤ r6.toInt := Int32.le_toInt r6
              have zz13_h : r6.toInt ≤ 2147483647 := Int32.toInt_le r6
              exact sf_some (show (Inv g w) from hI)
            · have rc12_ : ¬ a1.toInt = 5 := by rw [i_eq_iff] at c12_; omega
              have l_6 : (6 : Int32).toInt = 6 := by decide
              refine sf_ite (fun c14_ => ?_) (fun c14_ => ?_)
              · have rc14_ : a1.toInt = 6 := by rw [i_eq_iff] at c14_; omega
                refine sf_bind (sf_X9_toldOfEvening a1 w hI) (fun r8 hqr8 hpr8 => ?_)
                have zz15_l : -2147483648 ≤ r8.toInt := Int32.le_toInt r8
                have zz15_h : r8.toInt ≤ 2147483647 := Int32.toInt_le r8
                exact sf_some (show (Inv g w) from hI)
              · have rc14_ : ¬ a1.toInt = 6 := by rw [i_eq_iff] at c14_; omega
                have l_7 : (7 : Int32).toInt = 7 := by decide
                refine sf_ite (fun c16_ => ?_) (fun c16_ => ?_)
                · have rc16_ : a1.toInt = 7 := by rw [i_eq_iff] at c16_; omega
                  refine sf_bind (sf_X9_toldOfEvening a1 w hI) (fun r10 hqr10 hpr10 => ?_)
                  have zz17_l : -2147483648 ≤ r10.toInt := Int32.le_toInt r10
                  have zz17_h : r10.toInt ≤ 2147483647 := Int32.toInt_le r10
                  exact sf_some (show (Inv g w) from hI)
                · have rc16_ : ¬ a1.toInt = 7 := by rw [i_eq_iff] at c16_; omega
                  have l_8 : (8 : Int32).toInt = 8 := by decide
                  refine sf_ite (fun c18_ => ?_) (fun c18_ => ?_)
                  · have rc18_ : a1.toInt = 8 := by rw [i_eq_iff] at c18_; omega
                    refine sf_bind (sf_X9_toldOfEvening a1 w hI) (fun r12 hqr12 hpr12 => ?_)
                    have zz19_l : -2147483648 ≤ r12.toInt := Int32.le_toInt r12
                    have zz19_h : r12.toInt ≤ 2147483647 := Int32.toInt_le r12
                    exact sf_some (show (Inv g w) from hI)
                  · have rc18_ : ¬ a1.toInt = 8 := by rw [i_eq_iff] at c18_; omega
                    have l_9 : (9 : Int32).toInt = 9 := by decide
                    refine sf_ite (fun c20_ => ?_) (fun c20_ => ?_)
                    · have rc20_ : a1.toInt = 9 := by rw [i_eq_iff] at c20_; omega
                      refine sf_bind (sf_X9_toldOfEvening a1 w hI) (fun r14 hqr14 hpr14 => ?_)
                      have zz21_l : -2147483648 ≤ r14.toInt := Int32.le_toInt r14
                      have zz21_h : r14.toInt ≤ 2147483647 := Int32.toInt_le r14
                      exact sf_some (show (Inv g w) from hI)
                    · have rc20_ : ¬ a1.toInt = 9 := by rw [i_eq_iff] at c20_; omega
                      have l_10 : (10 : Int32).toInt = 10 := by decide
                      refine sf_ite (fun c22_ => ?_) (fun c22_ => ?_)
                      · have rc22_ : a1.toInt = 10 := by rw [i_eq_iff] at c22_; omega
                        refine sf_bind (sf_X9_toldOfEvening a1 w hI) (fun r16 hqr16 hpr16 => ?_)
                        have zz23_l : -2147483648 ≤ r16.toInt := Int32.le_toInt r16
                        have zz23_h : r16.toInt ≤ 2147483647 := Int32.toInt_le r16
                        exact sf_some (show (Inv g w) from hI)
                      · have rc22_ : ¬ a1.toInt = 10 := by rw [i_eq_iff] at c22_; omega
                        have l_11 : (11 : Int32).toInt = 11 := by decide
                        refine sf_ite (fun c24_ => ?_) (fun c24_ => ?_)
                        · have rc24_ : a1.toInt = 11 := by rw [i_eq_iff] at c24_; omega
                          refine sf_bind (sf_X9_toldOfEvening a1 w hI) (fun r18 hqr18 hpr18 => ?_)
                          have zz25_l : -2147483648 ≤ r18.toInt := Int32.le_toInt r18
                          have zz25_h : r18.toInt ≤ 2147483647 := Int32.toInt_le r18
                          exact sf_some (show (Inv g w) from hI)
                        · have rc24_ : ¬ a1.toInt = 11 := by rw [i_eq_iff] at c24_; omega
                          have l_12 : (12 : Int32).toInt = 12 := by decide
                          refine sf_ite (fun c26_ => ?_) (fun c26_ => ?_)
                          · have rc26_ : a1.toInt = 12 := by rw [i_eq_iff] at c26_; omega
                            refine sf_bind (sf_X9_toldOfEvening a1 w hI) (fun r20 hqr20 hpr20 => ?_)
                            have zz27_l : -2147483648 ≤ r20.toInt := Int32.le_toInt r20
                            have zz27_h : r20.toInt ≤ 2147483647 := Int32.toInt_le r20
                            exact sf_some (show (Inv g w) from hI)
                          · have rc26_ : ¬ a1.toInt = 12 := by rw [i_eq_iff] at c26_; omega
                            have l_13 : (13 : Int32).toInt = 13 := by decide
                            refine sf_ite (fun c28_ => ?_) (fun c28_ => ?_)
                            · have rc28_ : a1.toInt = 13 := by rw [i_eq_iff] at c28_; omega
                              refine sf_bind (sf_X9_toldOfEvening a1 w hI) (fun r22 hqr22 hpr22 => ?_)
                              have zz29_l : -2147483648 ≤ r22.toInt := Int32.le_toInt r22
                              have zz29_h : r22.toInt ≤ 2147483647 := Int32.toInt_le r22
                              exact sf_some (show (Inv g w) from hI)
                            · have rc28_ : ¬ a1.toInt = 13 := by rw [i_eq_iff] at c28_; omega
                              have l_14 : (14 : Int32).toInt = 14 := by decide
                              refine sf_ite (fun c30_ => ?_) (fun c30_ => ?_)
                              · have rc30_ : a1.toInt = 14 := by rw [i_eq_iff] at c30_; omega
                                refine sf_bind (sf_X9_toldOfEvening a1 w hI) (fun r24 hqr24 hpr24 => ?_)
                                have zz31_l : -2147483648 ≤ r24.toInt := Int32.le_toInt r24
                                have zz31_h : r24.toInt ≤ 2147483647 := Int32.toInt_le r24
                                exact sf_some (show (Inv g w) from hI)
                              · have rc30_ : ¬ a1.toInt = 14 := by rw [i_eq_iff] at c30_; omega
                                have l_15 : (15 : Int32).toInt = 15 := by decide
                                refine sf_ite (fun c32_ => ?_) (fun c32_ => ?_)
                                · have rc32_ : a1.toInt = 15 := by rw [i_eq_iff] at c32_; omega
                                  refine sf_bind (sf_X1_nobodys (brp (w 0 8)) (brp_ok (w 0 8)) w hI) (fun r26 hqr26 hpr26 => ?_)
                                  have zz33_l : -2147483648 ≤ r26.toInt := Int32.le_toInt r26
                                  have zz33_h : r26.toInt ≤ 2147483647 := Int32.toInt_le r26
                                  exact sf_some (show (Inv g w) from hI)
                                · have rc32_ : ¬ a1.toInt = 15 := by rw [i_eq_iff] at c32_; omega
                                  have l_16 : (16 : Int32).toInt = 16 := by decide
                                  refine sf_ite (fun c34_ => ?_) (fun c34_ => ?_)
                                  · have rc34_ : a1.toInt = 16 := by rw [i_eq_iff] at c34_; omega
                                    refine sf_bind (sf_X3_longestSat (brp (w 0 8)) (brp_ok (w 0 8)) w hI) (fun r28 hqr28 hpr28 => ?_)
                                    have zz35_l : -2147483648 ≤ r28.toInt := Int32.le_toInt r28
                                    have zz35_h : r28.toInt ≤ 2147483647 := Int32.toInt_le r28
                                    exact sf_some (show (Inv g w) from hI)
                                  · have rc34_ : ¬ a1.toInt = 16 := by rw [i_eq_iff] at c34_; omega
                                    have l_17 : (17 : Int32).toInt = 17 := by decide
                                    refine sf_ite (fun c36_ => ?_) (fun c36_ => ?_)
                                    · have rc36_ : a1.toInt = 17 := by rw [i_eq_iff] at c36_; omega
                                      have zz37_l : -2147483648 ≤ (w 3 3).toInt := Int32.le_toInt (w 3 3)
                                      have zz37_h : (w 3 3).toInt ≤ 2147483647 := Int32.toInt_le (w 3 3)
                                      refine sf_bind (sf_X8_bestToLearn (brp (w 0 8)) (brp_ok (w 0 8)) (w 3 3) w hI) (fun q30 hqq30 hpq30 => ?_)
                                      have hIq30 := hpq30
                                      have zz38_l : -2147483648 ≤ q30.1.toInt := Int32.le_toInt q30.1
                                      have zz38_h : q30.1.toInt ≤ 2147483647 := Int32.toInt_le q30.1
                                      exact sf_some (show (Inv g q30.2) from hIq30)
                                    · have rc36_ : ¬ a1.toInt = 17 := by rw [i_eq_iff] at c36_; omega
                                      have l_18 : (18 : Int32).toInt = 18 := by decide
                                      refine sf_ite (fun c39_ => ?_) (fun c39_ => ?_)
                                      · have rc39_ : a1.toInt = 18 := by rw [i_eq_iff] at c39_; omega
                                        have h40_ : 0 ≤ (w 106 2).toInt ∧ (w 106 2).toInt ≤ 6 := iv_106_2 hI
                                        exact sf_some (show (Inv g w) from hI)
                                      · have rc39_ : ¬ a1.toInt = 18 := by rw [i_eq_iff] at c39_; omega
                                        have l_19 : (19 : Int32).toInt = 19 := by decide
                                        refine sf_ite (fun c41_ => ?_) (fun c41_ => ?_)
                                        · have rc41_ : a1.toInt = 19 := by rw [i_eq_iff] at c41_; omega
                                          have h42_ : 0 ≤ (w 109 2).toInt ∧ (w 109 2).toInt ≤ 20 := iv_109_2 hI
                                          exact sf_some (show (Inv g w) from hI)
                                        · have rc41_ : ¬ a1.toInt = 19 := by rw [i_eq_iff] at c41_; omega
                                          have l_20 : (20 : Int32).toInt = 20 := by decide
                                          refine sf_ite (fun c43_ => ?_) (fun c43_ => ?_)
                                          · have rc43_ : a1.toInt = 20 := by rw [i_eq_iff] at c43_; omega
                                            have h44_ : 0 ≤ (w 6 1).toInt ∧ (w 6 1).toInt ≤ 30 := iv_6_1 hI
                                            exact sf_some (show (Inv g w) from hI)
                                          · have rc43_ : ¬ a1.toInt = 20 := by rw [i_eq_iff] at c43_; omega
                                            refine sf_bind (sf_X9_toldOfEvening a1 w hI) (fun r35 hqr35 hpr35 => ?_)
                                            have zz45_l : -2147483648 ≤ r35.toInt := Int32.le_toInt r35
                                            have zz45_h : r35.toInt ≤ 2147483647 := Int32.toInt_le r35
                                            exact sf_some (show (Inv g w) from hI)
set_option maxRecDepth 20000 in
set_option maxHeartbeats 2000000 in
theorem sf_X1_oneStepFrom {g : Nat → Int} (b0 : Nat) (hb0 : BrO b0) (a1 : Int32) (w : Mem) (hI : Inv g w) : Sf (fun (q : Int32) => (True)) (f_X1_oneStepFrom b0 a1 w) := by
  have hbb_b0 : b0 = 112 ∨ b0 = 119 := hb0
  obtain ⟨hg0, hg1⟩ := hI.1
  unfold f_X1_oneStepFrom
  refine sf_bind (Q := fun (v4 : Int32) => (True)) ?_ (fun v4 hqv4 hvv4 => ?_)
  · have l_0 : (0 : Int32).toInt = 0 := by decide
    refine sf_lp (fun (s4 : (Int32 × Int32)) => (0 ≤ s4.2.toInt) ∧ (s4.2.toInt ≤ 8)) (fun (s4 : (Int32 × Int32)) => (9 - s4.2.toInt).toNat) (fun s4 hss4 => ?_) _ _ (show (0 ≤ (0 : Int32).toInt) ∧ ((0 : Int32).toInt ≤ 8) from ⟨by omega, by omega⟩) (show (9 - (0 : Int32).toInt).toNat < 5000000000 from by omega)
    obtain ⟨hss4_0, hss4_1⟩ := hss4
    refine (?_ : Sf (lpP _ _ (9 - s4.2.toInt).toNat _) _)
    have h1_ : 0 ≤ (w b0 2).toInt ∧ (w b0 2).toInt ≤ 8 := ivX1_2 hb0 hI
    refine sf_ite (fun c2_ => ?_) (fun c2_ => ?_)
    · have rc2_ : s4.2.toInt < (w b0 2).toInt := by rw [Int32.lt_iff_toInt_lt] at c2_; omega
      have zz3_l : -2147483648 ≤ a1.toInt := Int32.le_toInt a1
      have zz3_h : a1.toInt ≤ 2147483647 := Int32.toInt_le a1
      refine sf_bind (sf_X9_holds a1 s4.2) (fun r1 hqr1 hpr1 => ?_)
      have hpr1_0 := hpr1
      refine sf_bind (Q := fun (v2 : Int32) => (True)) ?_ (fun v2 hqv2 hvv2 => ?_)
      · refine sf_ite (fun c4_ => ?_) (fun c4_ => ?_)
        · have rc4_ : r1.toInt = 0 := by rw [i_eq_iff] at c4_; omega
          have zz5_l : -2147483648 ≤ s4.1.toInt := Int32.le_toInt s4.1
          have zz5_h : s4.1.toInt ≤ 2147483647 := Int32.toInt_le s4.1
          exact sf_some (show (True) from trivial)
        · have rc4_ : ¬ r1.toInt = 0 := by rw [i_eq_iff] at c4_; omega
          refine sf_rd (by omega) (by omega) (fun x3 ex3 => ?_)
          have zz6_l : -2147483648 ≤ s4.1.toInt := Int32.le_toInt s4.1
          have zz6_h : s4.1.toInt ≤ 2147483647 := Int32.toInt_le s4.1
          have zz7_l : -2147483648 ≤ x3.toInt := Int32.le_toInt x3
          have zz7_h : x3.toInt ≤ 2147483647 := Int32.toInt_le x3
          exact sf_some (show (True) from trivial)
      · have hvv2_0 := hvv2
        have zz8_l : -2147483648 ≤ v2.toInt := Int32.le_toInt v2
        have zz8_h : v2.toInt ≤ 2147483647 := Int32.toInt_le v2
        have l_1 : (1 : Int32).toInt = 1 := by decide
        have e9_ : (s4.2 + (1 : Int32)).toInt = s4.2.toInt + (1 : Int32).toInt := i_add (by omega) (by omega)
        exact sf_some (show ((0 ≤ (s4.2 + (1 : Int32)).toInt) ∧ ((s4.2 + (1 : Int32)).toInt ≤ 8)) ∧ (9 - (s4.2 + (1 : Int32)).toInt).toNat < (9 - s4.2.toInt).toNat from ⟨⟨by omega, by omega⟩, by omega⟩)
    · have rc2_ : ¬ s4.2.toInt < (w b0 2).toInt := by rw [Int32.lt_iff_toInt_lt] at c2_; omega
      have zz10_l : -2147483648 ≤ s4.1.toInt := Int32.le_toInt s4.1
      have zz10_h : s4.1.toInt ≤ 2147483647 := Int32.toInt_le s4.1
      exact sf_some (show (True) from trivial)
  · have hvv4_0 := hvv4
    have zz11_l : -2147483648 ≤ v4.toInt := Int32.le_toInt v4
    have zz11_h : v4.toInt ≤ 2147483647 := Int32.toInt_le v4
    exact sf_some (show (True) from trivial)
set_option maxRecDepth 20000 in
set_option maxHeartbeats 2000000 in
theorem sf_X1_leadsFrom {g : Nat → Int} (b0 : Nat) (hb0 : BrO b0) (a1 : Int32) (w : Mem) (hI : Inv g w) : Sf (fun (q : Int32) => (True)) (f_X1_leadsFrom b0 a1 w) := by
  have hbb_b0 : b0 = 112 ∨ b0 = 119 := hb0
  obtain ⟨hg0, hg1⟩ := hI.1
  unfold f_X1_leadsFrom
  have zz1_l : -2147483648 ≤ a1.toInt := Int32.le_toInt a1
  have zz1_h : a1.toInt ≤ 2147483647 := Int32.toInt_le a1
  refine sf_bind (sf_X1_hasMatter b0 hb0 a1 w hI) (fun r1 hqr1 hpr1 => ?_)
  obtain ⟨hpr1_0, hpr1_1⟩ := hpr1
  refine sf_bind (Q := fun (v2 : Int32) => (True)) ?_ (fun v2 hqv2 hvv2 => ?_)
  · have l_0 : (0 : Int32).toInt = 0 := by decide
    refine sf_ite (fun c2_ => ?_) (fun c2_ => ?_)
    · have rc2_ : r1.toInt = 0 := by rw [i_eq_iff] at c2_; omega
      exact sf_some (show (True) from trivial)
    · have rc2_ : ¬ r1.toInt = 0 := by rw [i_eq_iff] at c2_; omega
      refine sf_rd (by omega) (by omega) (fun x5 ex5 => ?_)
      have zz3_l : -2147483648 ≤ x5.toInt := Int32.le_toInt x5
      have zz3_h : x5.toInt ≤ 2147483647 := Int32.toInt_le x5
      exact sf_some (show (True) from trivial)
  · have hvv2_0 := hvv2
    refine sf_bind (Q := fun (v4 : Int32) => (True)) ?_ (fun v4 hqv4 hvv4 => ?_)
    · have zz4_l : -2147483648 ≤ v2.toInt := Int32.le_toInt v2
      have zz4_h : v2.toInt ≤ 2147483647 := Int32.toInt_le v2
      have l_1 : (1 : Int32).toInt = 1 := by decide
      refine sf_lp (fun (s21 : (Int32 × Int32)) => (1 ≤ s21.2.toInt) ∧ (s21.2.toInt ≤ 8)) (fun (s21 : (Int32 × Int32)) => (9 - s21.2.toInt).toNat) (fun s21 hss21 => ?_) _ _ (show (1 ≤ (1 : Int32).toInt) ∧ ((1 : Int32).toInt ≤ 8) from ⟨by omega, by omega⟩) (show (9 - (1 : Int32).toInt).toNat < 5000000000 from by omega)
      obtain ⟨hss21_0, hss21_1⟩ := hss21
      refine (?_ : Sf (lpP _ _ (9 - s21.2.toInt).toNat _) _)
      have h5_ : 0 ≤ (w b0 2).toInt ∧ (w b0 2).toInt ≤ 8 := ivX1_2 hb0 hI
      refine sf_ite (fun c6_ => ?_) (fun c6_ => ?_)
      · have rc6_ : s21.2.toInt < (w b0 2).toInt := by rw [Int32.lt_iff_toInt_lt] at c6_; omega
        have zz7_l : -2147483648 ≤ s21.1.toInt := Int32.le_toInt s21.1
        have zz7_h : s21.1.toInt ≤ 2147483647 := Int32.toInt_le s21.1
        refine sf_bind (sf_X1_oneStepFrom b0 hb0 s21.1 w hI) (fun r3 hqr3 hpr3 => ?_)
        have zz8_l : -2147483648 ≤ r3.toInt := Int32.le_toInt r3
        have zz8_h : r3.toInt ≤ 2147483647 := Int32.toInt_le r3
        have e9_ : (s21.2 + (1 : Int32)).toInt = s21.2.toInt + (1 : Int32).toInt := i_add (by omega) (by omega)
        exact sf_some (show ((1 ≤ (s21.2 + (1 : Int32)).toInt) ∧ ((s21.2 + (1 : Int32)).toInt ≤ 8)) ∧ (9 - (s21.2 + (1 : Int32)).toInt).toNat < (9 - s21.2.toInt).toNat from ⟨⟨by omega, by omega⟩, by omega⟩)
      · have rc6_ : ¬ s21.2.toInt < (w b0 2).toInt := by rw [Int32.lt_iff_toInt_lt] at c6_; omega
        have zz10_l : -2147483648 ≤ s21.1.toInt := Int32.le_toInt s21.1
        have zz10_h : s21.1.toInt ≤ 2147483647 := Int32.toInt_le s21.1
        exact sf_some (show (True) from trivial)
    · have hvv4_0 := hvv4
      have zz11_l : -2147483648 ≤ v4.toInt := Int32.le_toInt v4
      have zz11_h : v4.toInt ≤ 2147483647 := Int32.toInt_le v4
      exact sf_some (show (True) from trivial)
set_option maxRecDepth 20000 in
set_option maxHeartbeats 2000000 in
theorem sf_X1_stepsRound {g : Nat → Int} (b0 : Nat) (hb0 : BrO b0) (a1 : Int32) (w : Mem) (hI : Inv g w) : Sf (fun (q : Int32) => (True)) (f_X1_stepsRound b0 a1 w) := by
  have hbb_b0 : b0 = 112 ∨ b0 = 119 := hb0
  obtain ⟨hg0, hg1⟩ := hI.1
  unfold f_X1_stepsRound
  have zz1_l : -2147483648 ≤ a1.toInt := Int32.le_toInt a1
  have zz1_h : a1.toInt ≤ 2147483647 := Int32.toInt_le a1
  refine sf_bind (sf_X1_hasMatter b0 hb0 a1 w hI) (fun r1 hqr1 hpr1 => ?_)
  obtain ⟨hpr1_0, hpr1_1⟩ := hpr1
  refine sf_bind (Q := fun (v2 : Int32) => (True)) ?_ (fun v2 hqv2 hvv2 => ?_)
  · have l_0 : (0 : Int32).toInt = 0 := by decide
    refine sf_ite (fun c2_ => ?_) (fun c2_ => ?_)
    · have rc2_ : r1.toInt = 0 := by rw [i_eq_iff] at c2_; omega
      exact sf_some (show (True) from trivial)
    · have rc2_ : ¬ r1.toInt = 0 := by rw [i_eq_iff] at c2_; omega
      refine sf_rd (by omega) (by omega) (fun x5 ex5 => ?_)
      have zz3_l : -2147483648 ≤ x5.toInt := Int32.le_toInt x5
      have zz3_h : x5.toInt ≤ 2147483647 := Int32.toInt_le x5
      exact sf_some (show (True) from trivial)
  · have hvv2_0 := hvv2
    have zz4_l : -2147483648 ≤ v2.toInt := Int32.le_toInt v2
    have zz4_h : v2.toInt ≤ 2147483647 := Int32.toInt_le v2
    have l_1 : (1 : Int32).toInt = 1 := by decide
    refine sf_lp (fun (s21 : (Int32 × Int32)) => (1 ≤ s21.2.toInt) ∧ (s21.2.toInt ≤ 9)) (fun (s21 : (Int32 × Int32)) => (10 - s21.2.toInt).toNat) (fun s21 hss21 => ?_) _ _ (show (1 ≤ (1 : Int32).toInt) ∧ ((1 : Int32).toInt ≤ 9) from ⟨by omega, by omega⟩) (show (10 - (1 : Int32).toInt).toNat < 5000000000 from by omega)
    obtain ⟨hss21_0, hss21_1⟩ := hss21
    refine (?_ : Sf (lpP _ _ (10 - s21.2.toInt).toNat _) _)
    have h5_ : 0 ≤ (w b0 2).toInt ∧ (w b0 2).toInt ≤ 8 := ivX1_2 hb0 hI
    refine sf_ite (fun c6_ => ?_) (fun c6_ => ?_)
    · have rc6_ : (w b0 2).toInt < s21.2.toInt := by rw [Int32.lt_iff_toInt_lt] at c6_; omega
      have l_m1 : (-1 : Int32).toInt = -1 := by decide
      exact sf_some (show (True) from trivial)
    · have rc6_ : ¬ (w b0 2).toInt < s21.2.toInt := by rw [Int32.lt_iff_toInt_lt] at c6_; omega
      have zz7_l : -2147483648 ≤ s21.1.toInt := Int32.le_toInt s21.1
      have zz7_h : s21.1.toInt ≤ 2147483647 := Int32.toInt_le s21.1
      refine sf_bind (sf_X9_holds s21.1 a1) (fun r3 hqr3 hpr3 => ?_)
      have hpr3_0 := hpr3
      have l_0 : (0 : Int32).toInt = 0 := by decide
      refine sf_ite (fun c8_ => ?_) (fun c8_ => ?_)
      · have rc8_ : r3.toInt = 0 := by rw [i_eq_iff] at c8_; omega
        refine sf_bind (sf_X1_oneStepFrom b0 hb0 s21.1 w hI) (fun r4 hqr4 hpr4 => ?_)
        have zz9_l : -2147483648 ≤ r4.toInt := Int32.le_toInt r4
        have zz9_h : r4.toInt ≤ 2147483647 := Int32.toInt_le r4
        have e10_ : (s21.2 + (1 : Int32)).toInt = s21.2.toInt + (1 : Int32).toInt := i_add (by omega) (by omega)
        exact sf_some (show ((1 ≤ (s21.2 + (1 : Int32)).toInt) ∧ ((s21.2 + (1 : Int32)).toInt ≤ 9)) ∧ (10 - (s21.2 + (1 : Int32)).toInt).toNat < (10 - s21.2.toInt).toNat from ⟨⟨by omega, by omega⟩, by omega⟩)
      · have rc8_ : ¬ r3.toInt = 0 := by rw [i_eq_iff] at c8_; omega
        exact sf_some (show (True) from trivial)
set_option maxRecDepth 20000 in
set_option maxHeartbeats 2000000 in
theorem sf_X9_matter {g : Nat → Int} (a1 : Int32) (a2 : Int32) (w : Mem) (hI : Inv g w) : Sf (fun (q : Int32) => (True)) (f_X9_matter a1 a2 w) := by
  obtain ⟨hg0, hg1⟩ := hI.1
  unfold f_X9_matter
  have zz1_l : -2147483648 ≤ a1.toInt := Int32.le_toInt a1
  have zz1_h : a1.toInt ≤ 2147483647 := Int32.toInt_le a1
  refine sf_bind (sf_X1_hasMatter (brp (w 0 8)) (brp_ok (w 0 8)) a1 w hI) (fun r1 hqr1 hpr1 => ?_)
  obtain ⟨hpr1_0, hpr1_1⟩ := hpr1
  have l_0 : (0 : Int32).toInt = 0 := by decide
  refine sf_ite (fun c2_ => ?_) (fun c2_ => ?_)
  · have rc2_ : r1.toInt = 0 := by rw [i_eq_iff] at c2_; omega
    have l_m1000000001 : (-1000000001 : Int32).toInt = -1000000001 := by decide
    exact sf_some (show (True) from trivial)
  · have rc2_ : ¬ r1.toInt = 0 := by rw [i_eq_iff] at c2_; omega
    have zz3_l : -2147483648 ≤ a2.toInt := Int32.le_toInt a2
    have zz3_h : a2.toInt ≤ 2147483647 := Int32.toInt_le a2
    refine sf_ite (fun c4_ => ?_) (fun c4_ => ?_)
    · have rc4_ : a2.toInt = 0 := by rw [i_eq_iff] at c4_; omega
      refine sf_rd (by omega) (by omega) (fun x2 ex2 => ?_)
      have zz5_l : -2147483648 ≤ x2.toInt := Int32.le_toInt x2
      have zz5_h : x2.toInt ≤ 2147483647 := Int32.toInt_le x2
      exact sf_some (show (True) from trivial)
    · have rc4_ : ¬ a2.toInt = 0 := by rw [i_eq_iff] at c4_; omega
      have l_1 : (1 : Int32).toInt = 1 := by decide
      refine sf_ite (fun c6_ => ?_) (fun c6_ => ?_)
      · have rc6_ : a2.toInt = 1 := by rw [i_eq_iff] at c6_; omega
        refine sf_rd (by omega) (by omega) (fun x4 ex4 => ?_)
        have zz7_l : -2147483648 ≤ x4.toInt := Int32.le_toInt x4
        have zz7_h : x4.toInt ≤ 2147483647 := Int32.toInt_le x4
        exact sf_some (show (True) from trivial)
      · have rc6_ : ¬ a2.toInt = 1 := by rw [i_eq_iff] at c6_; omega
        have l_2 : (2 : Int32).toInt = 2 := by decide
        refine sf_ite (fun c8_ => ?_) (fun c8_ => ?_)
        · have rc8_ : a2.toInt = 2 := by rw [i_eq_iff] at c8_; omega
          refine sf_bind (sf_X1_leadsFrom (brp (w 0 8)) (brp_ok (w 0 8)) a1 w hI) (fun r6 hqr6 hpr6 => ?_)
          have zz9_l : -2147483648 ≤ r6.toInt := Int32.le_toInt r6
          have zz9_h : r6.toInt ≤ 2147483647 := Int32.toInt_le r6
          exact sf_some (show (True) from trivial)
        · have rc8_ : ¬ a2.toInt = 2 := by rw [i_eq_iff] at c8_; omega
          have l_3 : (3 : Int32).toInt = 3 := by decide
          refine sf_ite (fun c10_ => ?_) (fun c10_ => ?_)
          · have rc10_ : a2.toInt = 3 := by rw [i_eq_iff] at c10_; omega
            refine sf_bind (sf_X1_stepsRound (brp (w 0 8)) (brp_ok (w 0 8)) a1 w hI) (fun r8 hqr8 hpr8 => ?_)
            have zz11_l : -2147483648 ≤ r8.toInt := Int32.le_toInt r8
            have zz11_h : r8.toInt ≤ 2147483647 := Int32.toInt_le r8
            exact sf_some (show (True) from trivial)
          · have rc10_ : ¬ a2.toInt = 3 := by rw [i_eq_iff] at c10_; omega
            have l_m1000000002 : (-1000000002 : Int32).toInt = -1000000002 := by decide
            exact sf_some (show (True) from trivial)
set_option maxRecDepth 20000 in
set_option maxHeartbeats 2000000 in
theorem sf_X1_mostWaiting {g : Nat → Int} (b0 : Nat) (hb0 : BrO b0) (a1 : Int32) (w : Mem) (hI : Inv g w) : Sf (fun (q : Int32) => (True)) (f_X1_mostWaiting b0 a1 w) := by
  have hbb_b0 : b0 = 112 ∨ b0 = 119 := hb0
  obtain ⟨hg0, hg1⟩ := hI.1
  unfold f_X1_mostWaiting
  have zz1_l : -2147483648 ≤ a1.toInt := Int32.le_toInt a1
  have zz1_h : a1.toInt ≤ 2147483647 := Int32.toInt_le a1
  refine sf_bind (sf_X1_hasTraveller b0 hb0 a1 w hI) (fun r1 hqr1 hpr1 => ?_)
  obtain ⟨hpr1_0, hpr1_1⟩ := hpr1
  have l_0 : (0 : Int32).toInt = 0 := by decide
  refine sf_ite (fun c2_ => ?_) (fun c2_ => ?_)
  · have rc2_ : r1.toInt = 0 := by rw [i_eq_iff] at c2_; omega
    exact sf_some (show (True) from trivial)
  · have rc2_ : ¬ r1.toInt = 0 := by rw [i_eq_iff] at c2_; omega
    refine sf_rd (by omega) (by omega) (fun x2 ex2 => ?_)
    have l_60 : (60 : Int32).toInt = 60 := by decide
    have l_5 : (5 : Int32).toInt = 5 := by decide
    have zz3_l : -2147483648 ≤ x2.toInt := Int32.le_toInt x2
    have zz3_h : x2.toInt ≤ 2147483647 := Int32.toInt_le x2
    exact sf_some (show (True) from trivial)
set_option maxRecDepth 20000 in
set_option maxHeartbeats 2000000 in
theorem sf_X3_patienceOf {g : Nat → Int} (b1 : Nat) (hb1 : BrO b1) (a2 : Int32) (w : Mem) (hI : Inv g w) : Sf (fun (q : Int32) => (True)) (f_X3_patienceOf b1 a2 w) := by
  have hbb_b1 : b1 = 112 ∨ b1 = 119 := hb1
  obtain ⟨hg0, hg1⟩ := hI.1
  unfold f_X3_patienceOf
  have zz1_l : -2147483648 ≤ a2.toInt := Int32.le_toInt a2
  have zz1_h : a2.toInt ≤ 2147483647 := Int32.toInt_le a2
  refine sf_bind (sf_X1_hasTraveller b1 hb1 a2 w hI) (fun r1 hqr1 hpr1 => ?_)
  obtain ⟨hpr1_0, hpr1_1⟩ := hpr1
  have l_0 : (0 : Int32).toInt = 0 := by decide
  refine sf_ite (fun c2_ => ?_) (fun c2_ => ?_)
  · have rc2_ : r1.toInt = 0 := by rw [i_eq_iff] at c2_; omega
    exact sf_some (show (True) from trivial)
  · have rc2_ : ¬ r1.toInt = 0 := by rw [i_eq_iff] at c2_; omega
    have zz3_l : -2147483648 ≤ (w 3 7).toInt := Int32.le_toInt (w 3 7)
    have zz3_h : (w 3 7).toInt ≤ 2147483647 := Int32.toInt_le (w 3 7)
    refine sf_bind (sf_X9_holds (w 3 7) a2) (fun r2 hqr2 hpr2 => ?_)
    have hpr2_0 := hpr2
    refine sf_ite (fun c4_ => ?_) (fun c4_ => ?_)
    · have rc4_ : r2.toInt = 0 := by rw [i_eq_iff] at c4_; omega
      exact sf_some (show (True) from trivial)
    · have rc4_ : ¬ r2.toInt = 0 := by rw [i_eq_iff] at c4_; omega
      refine sf_bind (sf_X1_mostWaiting b1 hb1 a2 w hI) (fun r3 hqr3 hpr3 => ?_)
      refine sf_rd (by omega) (by omega) (fun x4 ex4 => ?_)
      have zz5_l : -2147483648 ≤ r3.toInt := Int32.le_toInt r3
      have zz5_h : r3.toInt ≤ 2147483647 := Int32.toInt_le r3
      have zz6_l : -2147483648 ≤ x4.toInt := Int32.le_toInt x4
      have zz6_h : x4.toInt ≤ 2147483647 := Int32.toInt_le x4
      exact sf_some (show (True) from trivial)
set_option maxRecDepth 20000 in
set_option maxHeartbeats 2000000 in
theorem sf_X1_favouriteOf {g : Nat → Int} (b0 : Nat) (hb0 : BrO b0) (a1 : Int32) (w : Mem) (hI : Inv g w) : Sf (fun (q : Int32) => (True)) (f_X1_favouriteOf b0 a1 w) := by
  have hbb_b0 : b0 = 112 ∨ b0 = 119 := hb0
  obtain ⟨hg0, hg1⟩ := hI.1
  unfold f_X1_favouriteOf
  refine sf_bind (Q := fun (v3 : Int32) => (-1 ≤ v3.toInt) ∧ (v3.toInt ≤ 7)) ?_ (fun v3 hqv3 hvv3 => ?_)
  · have l_m1 : (-1 : Int32).toInt = -1 := by decide
    have l_0 : (0 : Int32).toInt = 0 := by decide
    refine sf_lp (fun (s7 : (Int32 × Int32 × Int32)) => (-1 ≤ s7.1.toInt) ∧ (s7.1.toInt ≤ 7) ∧ (0 ≤ s7.2.1.toInt) ∧ (0 ≤ s7.2.2.toInt) ∧ (s7.2.2.toInt ≤ 8)) (fun (s7 : (Int32 × Int32 × Int32)) => (9 - s7.2.2.toInt).toNat) (fun s7 hss7 => ?_) _ _ (show (-1 ≤ (-1 : Int32).toInt) ∧ ((-1 : Int32).toInt ≤ 7) ∧ (0 ≤ (0 : Int32).toInt) ∧ (0 ≤ (0 : Int32).toInt) ∧ ((0 : Int32).toInt ≤ 8) from ⟨by omega, by omega, by omega, by omega, by omega⟩) (show (9 - (0 : Int32).toInt).toNat < 5000000000 from by omega)
    obtain ⟨hss7_0, hss7_1, hss7_2, hss7_3, hss7_4⟩ := hss7
    refine (?_ : Sf (lpP _ _ (9 - s7.2.2.toInt).toNat _) _)
    have h1_ : 0 ≤ (w b0 2).toInt ∧ (w b0 2).toInt ≤ 8 := ivX1_2 hb0 hI
    refine sf_ite (fun c2_ => ?_) (fun c2_ => ?_)
    · have rc2_ : s7.2.2.toInt < (w b0 2).toInt := by rw [Int32.lt_iff_toInt_lt] at c2_; omega
      have zz3_l : -2147483648 ≤ a1.toInt := Int32.le_toInt a1
      have zz3_h : a1.toInt ≤ 2147483647 := Int32.toInt_le a1
      refine sf_bind (sf_X1_stayOf b0 hb0 a1 s7.2.2 w hI) (fun r1 hqr1 hpr1 => ?_)
      refine sf_bind (Q := fun (v2 : (Int32 × Int32)) => (-1 ≤ v2.1.toInt) ∧ (v2.1.toInt ≤ 7) ∧ (0 ≤ v2.2.toInt)) ?_ (fun v2 hqv2 hvv2 => ?_)
      · have zz4_l : -2147483648 ≤ s7.2.1.toInt := Int32.le_toInt s7.2.1
        have zz4_h : s7.2.1.toInt ≤ 2147483647 := Int32.toInt_le s7.2.1
        have zz5_l : -2147483648 ≤ r1.toInt := Int32.le_toInt r1
        have zz5_h : r1.toInt ≤ 2147483647 := Int32.toInt_le r1
        refine sf_ite (fun c6_ => ?_) (fun c6_ => ?_)
        · have rc6_ : s7.2.1.toInt < r1.toInt := by rw [Int32.lt_iff_toInt_lt] at c6_; omega
          exact sf_some (show (-1 ≤ s7.2.2.toInt) ∧ (s7.2.2.toInt ≤ 7) ∧ (0 ≤ r1.toInt) from ⟨by omega, by omega, by omega⟩)
        · have rc6_ : ¬ s7.2.1.toInt < r1.toInt := by rw [Int32.lt_iff_toInt_lt] at c6_; omega
          exact sf_some (show (-1 ≤ s7.1.toInt) ∧ (s7.1.toInt ≤ 7) ∧ (0 ≤ s7.2.1.toInt) from ⟨by omega, by omega, by omega⟩)
      · obtain ⟨hvv2_0, hvv2_1, hvv2_2⟩ := hvv2
        have zz7_l : -2147483648 ≤ v2.2.toInt := Int32.le_toInt v2.2
        have zz7_h : v2.2.toInt ≤ 2147483647 := Int32.toInt_le v2.2
        have l_1 : (1 : Int32).toInt = 1 := by decide
        have e8_ : (s7.2.2 + (1 : Int32)).toInt = s7.2.2.toInt + (1 : Int32).toInt := i_add (by omega) (by omega)
        exact sf_some (show ((-1 ≤ v2.1.toInt) ∧ (v2.1.toInt ≤ 7) ∧ (0 ≤ v2.2.toInt) ∧ (0 ≤ (s7.2.2 + (1 : Int32)).toInt) ∧ ((s7.2.2 + (1 : Int32)).toInt ≤ 8)) ∧ (9 - (s7.2.2 + (1 : Int32)).toInt).toNat < (9 - s7.2.2.toInt).toNat from ⟨⟨by omega, by omega, by omega, by omega, by omega⟩, by omega⟩)
    · have rc2_ : ¬ s7.2.2.toInt < (w b0 2).toInt := by rw [Int32.lt_iff_toInt_lt] at c2_; omega
      exact sf_some (show (-1 ≤ s7.1.toInt) ∧ (s7.1.toInt ≤ 7) from ⟨by omega, by omega⟩)
  · obtain ⟨hvv3_0, hvv3_1⟩ := hvv3
    exact sf_some (show (True) from trivial)
set_option maxRecDepth 20000 in
set_option maxHeartbeats 2000000 in
theorem sf_X9_traveller {g : Nat → Int} (a1 : Int32) (a2 : Int32) (w : Mem) (hI : Inv g w) : Sf (fun (q : Int32) => (True)) (f_X9_traveller a1 a2 w) := by
  obtain ⟨hg0, hg1⟩ := hI.1
  unfold f_X9_traveller
  have zz1_l : -2147483648 ≤ a1.toInt := Int32.le_toInt a1
  have zz1_h : a1.toInt ≤ 2147483647 := Int32.toInt_le a1
  refine sf_bind (sf_X1_hasTraveller (brp (w 0 8)) (brp_ok (w 0 8)) a1 w hI) (fun r1 hqr1 hpr1 => ?_)
  obtain ⟨hpr1_0, hpr1_1⟩ := hpr1
  have l_0 : (0 : Int32).toInt = 0 := by decide
  refine sf_ite (fun c2_ => ?_) (fun c2_ => ?_)
  · have rc2_ : r1.toInt = 0 := by rw [i_eq_iff] at c2_; omega
    have l_m1000000001 : (-1000000001 : Int32).toInt = -1000000001 := by decide
    exact sf_some (show (True) from trivial)
  · have rc2_ : ¬ r1.toInt = 0 := by rw [i_eq_iff] at c2_; omega
    have zz3_l : -2147483648 ≤ a2.toInt := Int32.le_toInt a2
    have zz3_h : a2.toInt ≤ 2147483647 := Int32.toInt_le a2
    refine sf_ite (fun c4_ => ?_) (fun c4_ => ?_)
    · have rc4_ : a2.toInt = 0 := by rw [i_eq_iff] at c4_; omega
      refine sf_rd (by omega) (by omega) (fun x2 ex2 => ?_)
      have zz5_l : -2147483648 ≤ x2.toInt := Int32.le_toInt x2
      have zz5_h : x2.toInt ≤ 2147483647 := Int32.toInt_le x2
      exact sf_some (show (True) from trivial)
    · have rc4_ : ¬ a2.toInt = 0 := by rw [i_eq_iff] at c4_; omega
      have l_1 : (1 : Int32).toInt = 1 := by decide
      refine sf_ite (fun c6_ => ?_) (fun c6_ => ?_)
      · have rc6_ : a2.toInt = 1 := by rw [i_eq_iff] at c6_; omega
        refine sf_rd (by omega) (by omega) (fun x4 ex4 => ?_)
        have zz7_l : -2147483648 ≤ x4.toInt := Int32.le_toInt x4
        have zz7_h : x4.toInt ≤ 2147483647 := Int32.toInt_le x4
        exact sf_some (show (True) from trivial)
      · have rc6_ : ¬ a2.toInt = 1 := by rw [i_eq_iff] at c6_; omega
        have l_2 : (2 : Int32).toInt = 2 := by decide
        refine sf_ite (fun c8_ => ?_) (fun c8_ => ?_)
        · have rc8_ : a2.toInt = 2 := by rw [i_eq_iff] at c8_; omega
          refine sf_rd (by omega) (by omega) (fun x6 ex6 => ?_)
          have zz9_l : -2147483648 ≤ x6.toInt := Int32.le_toInt x6
          have zz9_h : x6.toInt ≤ 2147483647 := Int32.toInt_le x6
          exact sf_some (show (True) from trivial)
        · have rc8_ : ¬ a2.toInt = 2 := by rw [i_eq_iff] at c8_; omega
          have l_3 : (3 : Int32).toInt = 3 := by decide
          refine sf_ite (fun c10_ => ?_) (fun c10_ => ?_)
          · have rc10_ : a2.toInt = 3 := by rw [i_eq_iff] at c10_; omega
            refine sf_rd (by omega) (by omega) (fun x8 ex8 => ?_)
            have zz11_l : -2147483648 ≤ x8.toInt := Int32.le_toInt x8
            have zz11_h : x8.toInt ≤ 2147483647 := Int32.toInt_le x8
            exact sf_some (show (True) from trivial)
          · have rc10_ : ¬ a2.toInt = 3 := by rw [i_eq_iff] at c10_; omega
            have l_4 : (4 : Int32).toInt = 4 := by decide
            refine sf_ite (fun c12_ => ?_) (fun c12_ => ?_)
            · have rc12_ : a2.toInt = 4 := by rw [i_eq_iff] at c12_; omega
              refine sf_rd (by omega) (by omega) (fun x10 ex10 => ?_)
              have zz13_l : -2147483648 ≤ x10.toInt := Int32.le_toInt x10
              have zz13_h : x10.toInt ≤ 2147483647 := Int32.toInt_le x10
              exact sf_some (show (True) from trivial)
            · have rc12_ : ¬ a2.toInt = 4 := by rw [i_eq_iff] at c12_; omega
              have l_5 : (5 : Int32).toInt = 5 := by decide
              refine sf_ite (fun c14_ => ?_) (fun c14_ => ?_)
              · have rc14_ : a2.toInt = 5 := by rw [i_eq_iff] at c14_; omega
                refine sf_bind (sf_X3_patienceOf (brp (w 0 8)) (brp_ok (w 0 8)) a1 w hI) (fun r12 hqr12 hpr12 => ?_)
                have zz15_l : -2147483648 ≤ r12.toInt := Int32.le_toInt r12
                have zz15_h : r12.toInt ≤ 2147483647 := Int32.toInt_le r12
                exact sf_some (show (True) from trivial)
              · have rc14_ : ¬ a2.toInt = 5 := by rw [i_eq_iff] at c14_; omega
                have l_6 : (6 : Int32).toInt = 6 := by decide
                refine sf_ite (fun c16_ => ?_) (fun c16_ => ?_)
                · have rc16_ : a2.toInt = 6 := by rw [i_eq_iff] at c16_; omega
                  refine sf_bind (sf_X1_favouriteOf (brp (w 0 8)) (brp_ok (w 0 8)) a1 w hI) (fun r14 hqr14 hpr14 => ?_)
                  have zz17_l : -2147483648 ≤ r14.toInt := Int32.le_toInt r14
                  have zz17_h : r14.toInt ≤ 2147483647 := Int32.toInt_le r14
                  exact sf_some (show (True) from trivial)
                · have rc16_ : ¬ a2.toInt = 6 := by rw [i_eq_iff] at c16_; omega
                  have l_m1000000002 : (-1000000002 : Int32).toInt = -1000000002 := by decide
                  exact sf_some (show (True) from trivial)
set_option maxRecDepth 20000 in
set_option maxHeartbeats 2000000 in
theorem sf_X3_copyFrom {g : Nat → Int} (b0 : Nat) (hb0 : EvO b0) (b1 : Nat) (hb1 : EvO b1) (w : Mem) (hI : Inv g w) : Sf (fun (q : Mem) => (Inv g q)) (f_X3_copyFrom b0 b1 w) := by
  obtain ⟨hg0, hg1⟩ := hI.1
  unfold f_X3_copyFrom
  have zz1_l : -2147483648 ≤ (w b1 0).toInt := Int32.le_toInt (w b1 0)
  have zz1_h : (w b1 0).toInt ≤ 2147483647 := Int32.toInt_le (w b1 0)
  refine sf_pw (fun w1 ew1 => ?_)
  have hIw1 : Inv g w1 := by rw [ew1]; exact uqX3_0 hb0 hI
  have zz2_l : -2147483648 ≤ (w1 b1 1).toInt := Int32.le_toInt (w1 b1 1)
  have zz2_h : (w1 b1 1).toInt ≤ 2147483647 := Int32.toInt_le (w1 b1 1)
  refine sf_pw (fun w2 ew2 => ?_)
  have hIw2 : Inv g w2 := by rw [ew2]; exact uqX3_1 hb0 hIw1
  have zz3_l : -2147483648 ≤ (w2 b1 2).toInt := Int32.le_toInt (w2 b1 2)
  have zz3_h : (w2 b1 2).toInt ≤ 2147483647 := Int32.toInt_le (w2 b1 2)
  refine sf_pw (fun w3 ew3 => ?_)
  have hIw3 : Inv g w3 := by rw [ew3]; exact uqX3_2 hb0 hIw2
  have zz4_l : -2147483648 ≤ (w3 b1 3).toInt := Int32.le_toInt (w3 b1 3)
  have zz4_h : (w3 b1 3).toInt ≤ 2147483647 := Int32.toInt_le (w3 b1 3)
  refine sf_pw (fun w4 ew4 => ?_)
  have hIw4 : Inv g w4 := by rw [ew4]; exact uqX3_3 hb0 hIw3
  have zz5_l : -2147483648 ≤ (w4 b1 4).toInt := Int32.le_toInt (w4 b1 4)
  have zz5_h : (w4 b1 4).toInt ≤ 2147483647 := Int32.toInt_le (w4 b1 4)
  refine sf_pw (fun w5 ew5 => ?_)
  have hIw5 : Inv g w5 := by rw [ew5]; exact uqX3_4 hb0 hIw4
  have zz6_l : -2147483648 ≤ (w5 b1 5).toInt := Int32.le_toInt (w5 b1 5)
  have zz6_h : (w5 b1 5).toInt ≤ 2147483647 := Int32.toInt_le (w5 b1 5)
  refine sf_pw (fun w6 ew6 => ?_)
  have hIw6 : Inv g w6 := by rw [ew6]; exact uqX3_5 hb0 hIw5
  have zz7_l : -2147483648 ≤ (w6 b1 6).toInt := Int32.le_toInt (w6 b1 6)
  have zz7_h : (w6 b1 6).toInt ≤ 2147483647 := Int32.toInt_le (w6 b1 6)
  refine sf_pw (fun w7 ew7 => ?_)
  have hIw7 : Inv g w7 := by rw [ew7]; exact uqX3_6 hb0 hIw6
  have zz8_l : -2147483648 ≤ (w7 b1 7).toInt := Int32.le_toInt (w7 b1 7)
  have zz8_h : (w7 b1 7).toInt ≤ 2147483647 := Int32.toInt_le (w7 b1 7)
  refine sf_pw (fun w8 ew8 => ?_)
  have hIw8 : Inv g w8 := by rw [ew8]; exact uqX3_7 hb0 hIw7
  have zz9_l : -2147483648 ≤ (w8 b1 8).toInt := Int32.le_toInt (w8 b1 8)
  have zz9_h : (w8 b1 8).toInt ≤ 2147483647 := Int32.toInt_le (w8 b1 8)
  refine sf_pw (fun w9 ew9 => ?_)
  have hIw9 : Inv g w9 := by rw [ew9]; exact uqX3_8 hb0 hIw8
  have zz10_l : -2147483648 ≤ (w9 b1 9).toInt := Int32.le_toInt (w9 b1 9)
  have zz10_h : (w9 b1 9).toInt ≤ 2147483647 := Int32.toInt_le (w9 b1 9)
  refine sf_pw (fun w10 ew10 => ?_)
  have hIw10 : Inv g w10 := by rw [ew10]; exact uqX3_9 hb0 hIw9
  refine sf_bind (Q := fun (v15 : Mem) => (Inv g v15)) ?_ (fun v15 hqv15 hvv15 => ?_)
  · have l_0 : (0 : Int32).toInt = 0 := by decide
    refine sf_lp (fun (s82 : (Int32 × Mem)) => (Inv g s82.2) ∧ (0 ≤ s82.1.toInt) ∧ (s82.1.toInt ≤ 6)) (fun (s82 : (Int32 × Mem)) => (7 - s82.1.toInt).toNat) (fun s82 hss82 => ?_) _ _ (show (Inv g w10) ∧ (0 ≤ (0 : Int32).toInt) ∧ ((0 : Int32).toInt ≤ 6) from ⟨hIw10, by omega, by omega⟩) (show (7 - (0 : Int32).toInt).toNat < 5000000000 from by omega)
    obtain ⟨hIs82, hss82_1, hss82_2⟩ := hss82
    refine (?_ : Sf (lpP _ _ (7 - s82.1.toInt).toNat _) _)
    have l_6 : (6 : Int32).toInt = 6 := by decide
    refine sf_ite (fun c11_ => ?_) (fun c11_ => ?_)
    · have rc11_ : s82.1.toInt < 6 := by rw [Int32.lt_iff_toInt_lt] at c11_; omega
      refine sf_rd (by omega) (by omega) (fun x11 ex11 => ?_)
      have zz12_l : -2147483648 ≤ x11.toInt := Int32.le_toInt x11
      have zz12_h : x11.toInt ≤ 2147483647 := Int32.toInt_le x11
      refine sf_wr (by omega) (by omega) (fun w12 ew12 => ?_)
      have n13_ : (s82.1.toNatClampNeg : Int) = s82.1.toInt := i_clq (by omega)
      have hIw12 : Inv g w12 := by rw [ew12]; exact ubEv_1 hb0 hIs82
      refine sf_rd (by omega) (by omega) (fun x13 ex13 => ?_)
      have zz14_l : -2147483648 ≤ x13.toInt := Int32.le_toInt x13
      have zz14_h : x13.toInt ≤ 2147483647 := Int32.toInt_le x13
      refine sf_wr (by omega) (by omega) (fun w14 ew14 => ?_)
      have hIw14 : Inv g w14 := by rw [ew14]; exact ubEv_2 hb0 hIw12
      have l_1 : (1 : Int32).toInt = 1 := by decide
      have e15_ : (s82.1 + (1 : Int32)).toInt = s82.1.toInt + (1 : Int32).toInt := i_add (by omega) (by omega)
      exact sf_some (show ((Inv g w14) ∧ (0 ≤ (s82.1 + (1 : Int32)).toInt) ∧ ((s82.1 + (1 : Int32)).toInt ≤ 6)) ∧ (7 - (s82.1 + (1 : Int32)).toInt).toNat < (7 - s82.1.toInt).toNat from ⟨⟨hIw14, by omega, by omega⟩, by omega⟩)
    · have rc11_ : ¬ s82.1.toInt < 6 := by rw [Int32.lt_iff_toInt_lt] at c11_; omega
      exact sf_some (show (Inv g s82.2) from hIs82)
  · have hIv15 := hvv15
    exact sf_some (show (Inv g v15) from hIv15)
set_option maxRecDepth 20000 in
set_option maxHeartbeats 2000000 in
theorem sf_X6_remember {g : Nat → Int} (w : Mem) (hI : Inv g w) : Sf (fun (q : Mem) => (Inv g q)) (f_X6_remember w) := by
  obtain ⟨hg0, hg1⟩ := hI.1
  unfold f_X6_remember
  have h1_ : 0 ≤ (w 6 2).toInt ∧ (w 6 2).toInt ≤ 29 := iv_6_2 hI
  refine sf_rg (by omega) (by omega) (fun o1 eo1 ho1 mo1 => ?_)
  refine sf_bind (sf_X3_copyFrom o1 ho1 3 (Or.inl rfl) w hI) (fun w2 hqw2 hpw2 => ?_)
  have hIw2 := hpw2
  have h2_ : 0 ≤ (w2 6 2).toInt ∧ (w2 6 2).toInt ≤ 29 := iv_6_2 hIw2
  have k3_ : (w2 6 2).toInt = (w 6 2).toInt := congrArg Int32.toInt (fr_X3_copyFrom o1 ho1 3 (Or.inl rfl) w w2 hqw2 6 2 (by omega))
  have l_1 : (1 : Int32).toInt = 1 := by decide
  have e4_ : ((w2 6 2) + (1 : Int32)).toInt = (w2 6 2).toInt + (1 : Int32).toInt := i_add (by omega) (by omega)
  have l_30 : (30 : Int32).toInt = 30 := by decide
  have e5_ : (((w2 6 2) + (1 : Int32)) - ((w2 6 2) + (1 : Int32)) / (30 : Int32) * (30 : Int32)).toInt = ((w2 6 2) + (1 : Int32)).toInt % 30 := i_remk (by decide) (by decide) (by omega)
  refine sf_pw (fun w3 ew3 => ?_)
  have hIw3 : Inv g w3 := by rw [ew3]; exact up_6_2 hIw2 (show 0 ≤ (((w2 6 2) + (1 : Int32)) - ((w2 6 2) + (1 : Int32)) / (30 : Int32) * (30 : Int32)).toInt ∧ (((w2 6 2) + (1 : Int32)) - ((w2 6 2) + (1 : Int32)) / (30 : Int32) * (30 : Int32)).toInt ≤ 29 from by omega)
  have h6_ : 0 ≤ (w3 6 1).toInt ∧ (w3 6 1).toInt ≤ 30 := iv_6_1 hIw3
  have h7_ : 0 ≤ (w2 6 1).toInt ∧ (w2 6 1).toInt ≤ 30 := iv_6_1 hIw2
  have h8_ : 0 ≤ (w 6 1).toInt ∧ (w 6 1).toInt ≤ 30 := iv_6_1 hI
  have k9_ : (w2 6 1).toInt = (w 6 1).toInt := congrArg Int32.toInt (fr_X3_copyFrom o1 ho1 3 (Or.inl rfl) w w2 hqw2 6 1 (by omega))
  have k10_ : (w3 6 1).toInt = (w2 6 1).toInt := by rw [ew3, wu_ne (by omega)]
  have e11_ : ((w3 6 1) + (1 : Int32)).toInt = (w3 6 1).toInt + (1 : Int32).toInt := i_add (by omega) (by omega)
  have e12_ : ((if (30 : Int32) < ((w3 6 1) + (1 : Int32)) then (30 : Int32) else ((w3 6 1) + (1 : Int32))).toInt = ((w3 6 1) + (1 : Int32)).toInt ∨ (if (30 : Int32) < ((w3 6 1) + (1 : Int32)) then (30 : Int32) else ((w3 6 1) + (1 : Int32))).toInt = (30 : Int32).toInt) ∧ (if (30 : Int32) < ((w3 6 1) + (1 : Int32)) then (30 : Int32) else ((w3 6 1) + (1 : Int32))).toInt ≤ ((w3 6 1) + (1 : Int32)).toInt ∧ (if (30 : Int32) < ((w3 6 1) + (1 : Int32)) then (30 : Int32) else ((w3 6 1) + (1 : Int32))).toInt ≤ (30 : Int32).toInt := i_min _ _
  refine sf_pw (fun w4 ew4 => ?_)
  have hIw4 : Inv g w4 := by rw [ew4]; exact up_6_1 hIw3 (show 0 ≤ (if (30 : Int32) < ((w3 6 1) + (1 : Int32)) then (30 : Int32) else ((w3 6 1) + (1 : Int32))).toInt ∧ (if (30 : Int32) < ((w3 6 1) + (1 : Int32)) then (30 : Int32) else ((w3 6 1) + (1 : Int32))).toInt ≤ 30 from by omega)
  exact sf_some (show (Inv g w4) from hIw4)
set_option maxRecDepth 20000 in
set_option maxHeartbeats 2000000 in
theorem sf_X3_takeSeat {g : Nat → Int} (a1 : Int32) (w : Mem) (hI : Inv g w) : Sf (fun (q : Mem) => (Inv g q)) (f_X3_takeSeat a1 w) := by
  obtain ⟨hg0, hg1⟩ := hI.1
  unfold f_X3_takeSeat
  have zz1_l : -2147483648 ≤ (w 3 7).toInt := Int32.le_toInt (w 3 7)
  have zz1_h : (w 3 7).toInt ≤ 2147483647 := Int32.toInt_le (w 3 7)
  refine sf_pw (fun w1 ew1 => ?_)
  have hIw1 : Inv g w1 := by rw [ew1]; exact uq_3_7 hI
  have zz2_l : -2147483648 ≤ a1.toInt := Int32.le_toInt a1
  have zz2_h : a1.toInt ≤ 2147483647 := Int32.toInt_le a1
  refine sf_pw (fun w2 ew2 => ?_)
  have hIw2 : Inv g w2 := by rw [ew2]; exact uq_3_4 hIw1
  exact sf_some (show (Inv g w2) from hIw2)
set_option maxRecDepth 20000 in
set_option maxHeartbeats 2000000 in
theorem sf_X9_seat {g : Nat → Int} (a1 : Int32) (w : Mem) (hI : Inv g w) : Sf (fun (q : Int32 × Mem) => (Inv g q.2)) (f_X9_seat a1 w) := by
  obtain ⟨hg0, hg1⟩ := hI.1
  unfold f_X9_seat
  have zz1_l : -2147483648 ≤ a1.toInt := Int32.le_toInt a1
  have zz1_h : a1.toInt ≤ 2147483647 := Int32.toInt_le a1
  refine sf_bind (sf_X1_hasTraveller (brp (w 0 8)) (brp_ok (w 0 8)) a1 w hI) (fun r1 hqr1 hpr1 => ?_)
  obtain ⟨hpr1_0, hpr1_1⟩ := hpr1
  have l_0 : (0 : Int32).toInt = 0 := by decide
  refine sf_ite (fun c2_ => ?_) (fun c2_ => ?_)
  · have rc2_ : r1.toInt = 0 := by rw [i_eq_iff] at c2_; omega
    have l_m1000000001 : (-1000000001 : Int32).toInt = -1000000001 := by decide
    exact sf_some (show (Inv g w) from hI)
  · have rc2_ : ¬ r1.toInt = 0 := by rw [i_eq_iff] at c2_; omega
    have zz3_l : -2147483648 ≤ (w 3 4).toInt := Int32.le_toInt (w 3 4)
    have zz3_h : (w 3 4).toInt ≤ 2147483647 := Int32.toInt_le (w 3 4)
    have l_m1 : (-1 : Int32).toInt = -1 := by decide
    refine sf_ite (fun c4_ => ?_) (fun c4_ => ?_)
    · have rc4_ : (w 3 4).toInt = -1 := by rw [i_eq_iff] at c4_; omega
      have zz5_l : -2147483648 ≤ (w 3 7).toInt := Int32.le_toInt (w 3 7)
      have zz5_h : (w 3 7).toInt ≤ 2147483647 := Int32.toInt_le (w 3 7)
      refine sf_bind (sf_X9_holds (w 3 7) a1) (fun r2 hqr2 hpr2 => ?_)
      have hpr2_0 := hpr2
      refine sf_ite (fun c6_ => ?_) (fun c6_ => ?_)
      · have rc6_ : r2.toInt = 0 := by rw [i_eq_iff] at c6_; omega
        have l_m1000000003 : (-1000000003 : Int32).toInt = -1000000003 := by decide
        exact sf_some (show (Inv g w) from hI)
      · have rc6_ : ¬ r2.toInt = 0 := by rw [i_eq_iff] at c6_; omega
        refine sf_bind (sf_X6_remember  w hI) (fun w3 hqw3 hpw3 => ?_)
        have hIw3 := hpw3
        refine sf_bind (sf_X3_takeSeat a1 w3 hIw3) (fun w4 hqw4 hpw4 => ?_)
        have hIw4 := hpw4
        refine sf_rd (by omega) (by omega) (fun x5 ex5 => ?_)
        have zz7_l : -2147483648 ≤ x5.toInt := Int32.le_toInt x5
        have zz7_h : x5.toInt ≤ 2147483647 := Int32.toInt_le x5
        exact sf_some (show (Inv g w4) from hIw4)
    · have rc4_ : ¬ (w 3 4).toInt = -1 := by rw [i_eq_iff] at c4_; omega
      have l_m1000000003 : (-1000000003 : Int32).toInt = -1000000003 := by decide
      exact sf_some (show (Inv g w) from hI)
set_option maxRecDepth 20000 in
set_option maxHeartbeats 2000000 in
theorem sf_X3_canHear {g : Nat → Int} (a1 : Int32) (w : Mem) (hI : Inv g w) : Sf (fun (q : Int32) => (0 ≤ q.toInt ∧ q.toInt ≤ 1)) (f_X3_canHear a1 w) := by
  obtain ⟨hg0, hg1⟩ := hI.1
  unfold f_X3_canHear
  have zz1_l : -2147483648 ≤ (w 3 4).toInt := Int32.le_toInt (w 3 4)
  have zz1_h : (w 3 4).toInt ≤ 2147483647 := Int32.toInt_le (w 3 4)
  have l_m1 : (-1 : Int32).toInt = -1 := by decide
  refine sf_ite (fun c2_ => ?_) (fun c2_ => ?_)
  · have rc2_ : (w 3 4).toInt = -1 := by rw [i_eq_iff] at c2_; omega
    have l_0 : (0 : Int32).toInt = 0 := by decide
    exact sf_some (show (0 ≤ (0 : Int32).toInt ∧ (0 : Int32).toInt ≤ 1) from by omega)
  · have rc2_ : ¬ (w 3 4).toInt = -1 := by rw [i_eq_iff] at c2_; omega
    have zz3_l : -2147483648 ≤ (w 3 3).toInt := Int32.le_toInt (w 3 3)
    have zz3_h : (w 3 3).toInt ≤ 2147483647 := Int32.toInt_le (w 3 3)
    have zz4_l : -2147483648 ≤ a1.toInt := Int32.le_toInt a1
    have zz4_h : a1.toInt ≤ 2147483647 := Int32.toInt_le a1
    refine sf_bind (sf_X9_holds (w 3 3) a1) (fun r1 hqr1 hpr1 => ?_)
    have hpr1_0 := hpr1
    have l_0 : (0 : Int32).toInt = 0 := by decide
    refine sf_ite (fun c5_ => ?_) (fun c5_ => ?_)
    · have rc5_ : r1.toInt = 0 := by rw [i_eq_iff] at c5_; omega
      exact sf_some (show (0 ≤ (0 : Int32).toInt ∧ (0 : Int32).toInt ≤ 1) from by omega)
    · have rc5_ : ¬ r1.toInt = 0 := by rw [i_eq_iff] at c5_; omega
      have zz6_l : -2147483648 ≤ (w 3 5).toInt := Int32.le_toInt (w 3 5)
      have zz6_h : (w 3 5).toInt ≤ 2147483647 := Int32.toInt_le (w 3 5)
      refine sf_bind (sf_X9_holds (w 3 5) a1) (fun r2 hqr2 hpr2 => ?_)
      have hpr2_0 := hpr2
      refine sf_ite (fun c7_ => ?_) (fun c7_ => ?_)
      · have rc7_ : r2.toInt = 0 := by rw [i_eq_iff] at c7_; omega
        have l_1 : (1 : Int32).toInt = 1 := by decide
        exact sf_some (show (0 ≤ (1 : Int32).toInt ∧ (1 : Int32).toInt ≤ 1) from by omega)
      · have rc7_ : ¬ r2.toInt = 0 := by rw [i_eq_iff] at c7_; omega
        exact sf_some (show (0 ≤ (0 : Int32).toInt ∧ (0 : Int32).toInt ≤ 1) from by omega)
set_option maxRecDepth 20000 in
set_option maxHeartbeats 2000000 in
theorem sf_X1_isProfessor {g : Nat → Int} (b0 : Nat) (hb0 : BrO b0) (a1 : Int32) (w : Mem) (hI : Inv g w) : Sf (fun (q : Int32) => (0 ≤ q.toInt ∧ q.toInt ≤ 1)) (f_X1_isProfessor b0 a1 w) := by
  have hbb_b0 : b0 = 112 ∨ b0 = 119 := hb0
  obtain ⟨hg0, hg1⟩ := hI.1
  unfold f_X1_isProfessor
  have zz1_l : -2147483648 ≤ a1.toInt := Int32.le_toInt a1
  have zz1_h : a1.toInt ≤ 2147483647 := Int32.toInt_le a1
  refine sf_bind (sf_X1_hasTraveller b0 hb0 a1 w hI) (fun r1 hqr1 hpr1 => ?_)
  obtain ⟨hpr1_0, hpr1_1⟩ := hpr1
  have l_0 : (0 : Int32).toInt = 0 := by decide
  refine sf_ite (fun c2_ => ?_) (fun c2_ => ?_)
  · have rc2_ : r1.toInt = 0 := by rw [i_eq_iff] at c2_; omega
    exact sf_some (show (0 ≤ (0 : Int32).toInt ∧ (0 : Int32).toInt ≤ 1) from by omega)
  · have rc2_ : ¬ r1.toInt = 0 := by rw [i_eq_iff] at c2_; omega
    refine sf_rd (by omega) (by omega) (fun x2 ex2 => ?_)
    have zz3_l : -2147483648 ≤ x2.toInt := Int32.le_toInt x2
    have zz3_h : x2.toInt ≤ 2147483647 := Int32.toInt_le x2
    have l_3 : (3 : Int32).toInt = 3 := by decide
    refine sf_ite (fun c4_ => ?_) (fun c4_ => ?_)
    · have rc4_ : x2.toInt = 3 := by rw [i_eq_iff] at c4_; omega
      have l_1 : (1 : Int32).toInt = 1 := by decide
      exact sf_some (show (0 ≤ (1 : Int32).toInt ∧ (1 : Int32).toInt ≤ 1) from by omega)
    · have rc4_ : ¬ x2.toInt = 3 := by rw [i_eq_iff] at c4_; omega
      exact sf_some (show (0 ≤ (0 : Int32).toInt ∧ (0 : Int32).toInt ≤ 1) from by omega)
