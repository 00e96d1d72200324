set_option maxRecDepth 20000 in
set_option maxHeartbeats 2000000 in
theorem sf_X7_readInto {g : Nat → Int} (b1 : Nat) (hb1 : BrO b1) (w : Mem) (hI : Inv g w) : Sf (fun (q : Mem) => (Inv g q)) (f_X7_readInto b1 w) := by
  have hbb_b1 : b1 = 112 ∨ b1 = 119 := hb1
  obtain ⟨hg0, hg1⟩ := hI.1
  unfold f_X7_readInto
  have l_0 : (0 : Int32).toInt = 0 := by decide
  refine sf_pw (fun w1 ew1 => ?_)
  have hIw1 : Inv g w1 := by rw [ew1]; exact uq_1_2 hI
  refine sf_pw (fun w2 ew2 => ?_)
  have hIw2 : Inv g w2 := by rw [ew2]; exact uq_1_3 hIw1
  have l_m1 : (-1 : Int32).toInt = -1 := by decide
  refine sf_pw (fun w3 ew3 => ?_)
  have hIw3 : Inv g w3 := by rw [ew3]; exact uq_1_4 hIw2
  refine sf_bind (sf_X1_clear b1 hb1 w3 hIw3) (fun w4 hqw4 hpw4 => ?_)
  have hIw4 := hpw4
  refine sf_bind (sf_X7_skipBlanks  w4 hIw4) (fun w5 hqw5 hpw5 => ?_)
  have hIw5 := hpw5
  refine sf_bind (Q := fun (v8 : Mem) => (Inv g v8) ∧ ((v8 1 1).toInt = (w5 1 1).toInt)) ?_ (fun v8 hqv8 hvv8 => ?_)
  · have h1_ : 0 ≤ (w5 1 1).toInt ∧ (w5 1 1).toInt ≤ 240 := iv_1_1 hIw5
    have h2_ : 0 ≤ (w4 1 1).toInt ∧ (w4 1 1).toInt ≤ 240 := iv_1_1 hIw4
    have h3_ : 0 ≤ (w3 1 1).toInt ∧ (w3 1 1).toInt ≤ 240 := iv_1_1 hIw3
    have h4_ : 0 ≤ (w2 1 1).toInt ∧ (w2 1 1).toInt ≤ 240 := iv_1_1 hIw2
    have h5_ : 0 ≤ (w1 1 1).toInt ∧ (w1 1 1).toInt ≤ 240 := iv_1_1 hIw1
    have h6_ : 0 ≤ (w 1 1).toInt ∧ (w 1 1).toInt ≤ 240 := iv_1_1 hI
    have k7_ : (w1 1 1).toInt = (w 1 1).toInt := by rw [ew1, wu_ne (by omega)]
    have k8_ : (w2 1 1).toInt = (w1 1 1).toInt := by rw [ew2, wu_ne (by omega)]
    have k9_ : (w3 1 1).toInt = (w2 1 1).toInt := by rw [ew3, wu_ne (by omega)]
    have k10_ : (w4 1 1).toInt = (w3 1 1).toInt := congrArg Int32.toInt (fr_X1_clear b1 hb1 w3 w4 hqw4 1 1 (by omega))
    have k11_ : (w5 1 1).toInt = (w4 1 1).toInt := congrArg Int32.toInt (fr_X7_skipBlanks  w4 w5 hqw5 1 1 (by omega))
    refine sf_lp (fun (s25 : (Int32 × Mem)) => (Inv g s25.2) ∧ (0 ≤ s25.1.toInt) ∧ (s25.1.toInt ≤ 240) ∧ ((s25.2 1 1).toInt = (w5 1 1).toInt)) (fun (s25 : (Int32 × Mem)) => (241 - s25.1.toInt).toNat) (fun s25 hss25 => ?_) _ _ (show (Inv g w5) ∧ (0 ≤ (0 : Int32).toInt) ∧ ((0 : Int32).toInt ≤ 240) ∧ ((w5 1 1).toInt = (w5 1 1).toInt) from ⟨hIw5, by omega, by omega, rfl⟩) (show (241 - (0 : Int32).toInt).toNat < 5000000000 from by omega)
    obtain ⟨hIs25, hss25_1, hss25_2, hss25_3⟩ := hss25
    refine (?_ : Sf (lpP _ _ (241 - s25.1.toInt).toNat _) _)
    have h12_ : 0 ≤ (s25.2 1 1).toInt ∧ (s25.2 1 1).toInt ≤ 240 := iv_1_1 hIs25
    have l_240 : (240 : Int32).toInt = 240 := by decide
    refine sf_ite (fun c13_ => ?_) (fun c13_ => ?_)
    · have rc13_ : s25.1.toInt < 240 := by rw [Int32.lt_iff_toInt_lt] at c13_; omega
      have zz14_l : -2147483648 ≤ (s25.2 1 2).toInt := Int32.le_toInt (s25.2 1 2)
      have zz14_h : (s25.2 1 2).toInt ≤ 2147483647 := Int32.toInt_le (s25.2 1 2)
      refine sf_ite (fun c15_ => ?_) (fun c15_ => ?_)
      · have rc15_ : (s25.2 1 2).toInt < (s25.2 1 1).toInt := by rw [Int32.lt_iff_toInt_lt] at c15_; omega
        have zz16_l : -2147483648 ≤ (s25.2 1 3).toInt := Int32.le_toInt (s25.2 1 3)
        have zz16_h : (s25.2 1 3).toInt ≤ 2147483647 := Int32.toInt_le (s25.2 1 3)
        refine sf_ite (fun c17_ => ?_) (fun c17_ => ?_)
        · have rc17_ : (s25.2 1 3).toInt = 0 := by rw [i_eq_iff] at c17_; omega
          refine sf_bind (sf_X7_readClause b1 hb1 s25.2 hIs25) (fun w6 hqw6 hpw6 => ?_)
          have hIw6 := hpw6
          refine sf_bind (sf_X7_skipBlanks  w6 hIw6) (fun w7 hqw7 hpw7 => ?_)
          have hIw7 := hpw7
          have l_1 : (1 : Int32).toInt = 1 := by decide
          have e18_ : (s25.1 + (1 : Int32)).toInt = s25.1.toInt + (1 : Int32).toInt := i_add (by omega) (by omega)
          have h19_ : 0 ≤ (w7 1 1).toInt ∧ (w7 1 1).toInt ≤ 240 := iv_1_1 hIw7
          have h20_ : 0 ≤ (w6 1 1).toInt ∧ (w6 1 1).toInt ≤ 240 := iv_1_1 hIw6
          have k21_ : (w6 1 1).toInt = (s25.2 1 1).toInt := congrArg Int32.toInt (fr_X7_readClause b1 hb1 s25.2 w6 hqw6 1 1 (by omega))
          have k22_ : (w7 1 1).toInt = (w6 1 1).toInt := congrArg Int32.toInt (fr_X7_skipBlanks  w6 w7 hqw7 1 1 (by omega))
          exact sf_some (show ((Inv g w7) ∧ (0 ≤ (s25.1 + (1 : Int32)).toInt) ∧ ((s25.1 + (1 : Int32)).toInt ≤ 240) ∧ ((w7 1 1).toInt = (w5 1 1).toInt)) ∧ (241 - (s25.1 + (1 : Int32)).toInt).toNat < (241 - s25.1.toInt).toNat from ⟨⟨hIw7, by omega, by omega, by omega⟩, by omega⟩)
        · have rc17_ : ¬ (s25.2 1 3).toInt = 0 := by rw [i_eq_iff] at c17_; omega
          exact sf_some (show (Inv g s25.2) ∧ ((s25.2 1 1).toInt = (w5 1 1).toInt) from ⟨hIs25, by omega⟩)
      · have rc15_ : ¬ (s25.2 1 2).toInt < (s25.2 1 1).toInt := by rw [Int32.lt_iff_toInt_lt] at c15_; omega
        exact sf_some (show (Inv g s25.2) ∧ ((s25.2 1 1).toInt = (w5 1 1).toInt) from ⟨hIs25, by omega⟩)
    · have rc13_ : ¬ s25.1.toInt < 240 := by rw [Int32.lt_iff_toInt_lt] at c13_; omega
      exact sf_some (show (Inv g s25.2) ∧ ((s25.2 1 1).toInt = (w5 1 1).toInt) from ⟨hIs25, by omega⟩)
  · obtain ⟨hIv8, hvv8_1⟩ := hvv8
    have h23_ : 0 ≤ (w5 1 1).toInt ∧ (w5 1 1).toInt ≤ 240 := iv_1_1 hIw5
    have h24_ : 0 ≤ (w4 1 1).toInt ∧ (w4 1 1).toInt ≤ 240 := iv_1_1 hIw4
    have h25_ : 0 ≤ (w3 1 1).toInt ∧ (w3 1 1).toInt ≤ 240 := iv_1_1 hIw3
    have h26_ : 0 ≤ (w2 1 1).toInt ∧ (w2 1 1).toInt ≤ 240 := iv_1_1 hIw2
    have h27_ : 0 ≤ (w1 1 1).toInt ∧ (w1 1 1).toInt ≤ 240 := iv_1_1 hIw1
    have h28_ : 0 ≤ (w 1 1).toInt ∧ (w 1 1).toInt ≤ 240 := iv_1_1 hI
    have k29_ : (w1 1 1).toInt = (w 1 1).toInt := by rw [ew1, wu_ne (by omega)]
    have k30_ : (w2 1 1).toInt = (w1 1 1).toInt := by rw [ew2, wu_ne (by omega)]
    have k31_ : (w3 1 1).toInt = (w2 1 1).toInt := by rw [ew3, wu_ne (by omega)]
    have k32_ : (w4 1 1).toInt = (w3 1 1).toInt := congrArg Int32.toInt (fr_X1_clear b1 hb1 w3 w4 hqw4 1 1 (by omega))
    have k33_ : (w5 1 1).toInt = (w4 1 1).toInt := congrArg Int32.toInt (fr_X7_skipBlanks  w4 w5 hqw5 1 1 (by omega))
    have h34_ : 0 ≤ (v8 1 1).toInt ∧ (v8 1 1).toInt ≤ 240 := iv_1_1 hIv8
    have zz35_l : -2147483648 ≤ (v8 1 3).toInt := Int32.le_toInt (v8 1 3)
    have zz35_h : (v8 1 3).toInt ≤ 2147483647 := Int32.toInt_le (v8 1 3)
    refine sf_ite (fun c36_ => ?_) (fun c36_ => ?_)
    · have rc36_ : (v8 1 3).toInt = 0 := by rw [i_eq_iff] at c36_; omega
      refine sf_bind (sf_X1_settle b1 hb1 v8 hIv8) (fun w9 hqw9 hpw9 => ?_)
      have hIw9 := hpw9
      exact sf_some (show (Inv g w9) from hIw9)
    · have rc36_ : ¬ (v8 1 3).toInt = 0 := by rw [i_eq_iff] at c36_; omega
      exact sf_some (show (Inv g v8) from hIv8)
set_option maxRecDepth 20000 in
set_option maxHeartbeats 2000000 in
theorem sf_X7_empty {g : Nat → Int} (w : Mem) (hI : Inv g w) : Sf (fun (q : Mem) => (Inv g q) ∧ ((q 1 1).toInt = 0)) (f_X7_empty w) := by
  obtain ⟨hg0, hg1⟩ := hI.1
  unfold f_X7_empty
  have l_0 : (0 : Int32).toInt = 0 := by decide
  refine sf_pw (fun w1 ew1 => ?_)
  have hIw1 : Inv g w1 := by rw [ew1]; exact up_1_1 hI (show 0 ≤ (0 : Int32).toInt ∧ (0 : Int32).toInt ≤ 240 from by omega)
  have h1_ : 0 ≤ (w1 1 1).toInt ∧ (w1 1 1).toInt ≤ 240 := iv_1_1 hIw1
  have k2_ : (w1 1 1).toInt = (0 : Int32).toInt := by rw [ew1, wu_at]
  exact sf_some (show (Inv g w1) ∧ ((w1 1 1).toInt = 0) from ⟨hIw1, by omega⟩)
set_option maxRecDepth 20000 in
set_option maxHeartbeats 2000000 in
theorem sf_X3_emptySeat {g : Nat → Int} (w : Mem) (hI : Inv g w) : Sf (fun (q : Mem) => (Inv g q)) (f_X3_emptySeat w) := by
  obtain ⟨hg0, hg1⟩ := hI.1
  unfold f_X3_emptySeat
  have l_m1 : (-1 : Int32).toInt = -1 := by decide
  refine sf_pw (fun w1 ew1 => ?_)
  have hIw1 : Inv g w1 := by rw [ew1]; exact uq_3_4 hI
  have l_0 : (0 : Int32).toInt = 0 := by decide
  refine sf_pw (fun w2 ew2 => ?_)
  have hIw2 : Inv g w2 := by rw [ew2]; exact uq_3_5 hIw1
  refine sf_pw (fun w3 ew3 => ?_)
  have hIw3 : Inv g w3 := by rw [ew3]; exact uq_3_6 hIw2
  exact sf_some (show (Inv g w3) from hIw3)
set_option maxRecDepth 20000 in
set_option maxHeartbeats 2000000 in
theorem sf_X3_gather {g : Nat → Int} (b1 : Nat) (hb1 : BrO b1) (w : Mem) (hI : Inv g w) : Sf (fun (q : Mem) => (Inv g q)) (f_X3_gather b1 w) := by
  have hbb_b1 : b1 = 112 ∨ b1 = 119 := hb1
  obtain ⟨hg0, hg1⟩ := hI.1
  unfold f_X3_gather
  refine sf_bind (sf_X3_emptySeat  w hI) (fun w1 hqw1 hpw1 => ?_)
  have hIw1 := hpw1
  have h1_ : 0 ≤ (w1 b1 3).toInt ∧ (w1 b1 3).toInt ≤ 6 := ivX1_3 hb1 hIw1
  have h2_ : 0 ≤ (w b1 3).toInt ∧ (w b1 3).toInt ≤ 6 := ivX1_3 hb1 hI
  have k3_ : (w1 b1 3).toInt = (w b1 3).toInt := congrArg Int32.toInt (fr_X3_emptySeat  w w1 hqw1 b1 3 (by omega))
  refine sf_bind (sf_X9_setOfFirst (w1 b1 3) (by omega) (by omega)) (fun r2 hqr2 hpr2 => ?_)
  obtain ⟨hpr2_0, hpr2_1⟩ := hpr2
  refine sf_pw (fun w3 ew3 => ?_)
  have hIw3 : Inv g w3 := by rw [ew3]; exact uq_3_7 hIw1
  have l_0 : (0 : Int32).toInt = 0 := by decide
  refine sf_pw (fun w4 ew4 => ?_)
  have hIw4 : Inv g w4 := by rw [ew4]; exact uq_3_8 hIw3
  refine sf_pw (fun w5 ew5 => ?_)
  have hIw5 : Inv g w5 := by rw [ew5]; exact uq_3_9 hIw4
  refine sf_bind (Q := fun (v8 : Mem) => (Inv g v8) ∧ ((v8 b1 3).toInt = (w5 b1 3).toInt)) ?_ (fun v8 hqv8 hvv8 => ?_)
  · have h4_ : 0 ≤ (w5 b1 3).toInt ∧ (w5 b1 3).toInt ≤ 6 := ivX1_3 hb1 hIw5
    have h5_ : 0 ≤ (w4 b1 3).toInt ∧ (w4 b1 3).toInt ≤ 6 := ivX1_3 hb1 hIw4
    have h6_ : 0 ≤ (w3 b1 3).toInt ∧ (w3 b1 3).toInt ≤ 6 := ivX1_3 hb1 hIw3
    have k7_ : (w3 b1 3).toInt = (w1 b1 3).toInt := by rw [ew3, wu_ne (by omega)]
    have k8_ : (w4 b1 3).toInt = (w3 b1 3).toInt := by rw [ew4, wu_ne (by omega)]
    have k9_ : (w5 b1 3).toInt = (w4 b1 3).toInt := by rw [ew5, wu_ne (by omega)]
    refine sf_lp (fun (s27 : (Int32 × Mem)) => (Inv g s27.2) ∧ (0 ≤ s27.1.toInt) ∧ (s27.1.toInt ≤ 6) ∧ ((s27.2 b1 3).toInt = (w5 b1 3).toInt)) (fun (s27 : (Int32 × Mem)) => (7 - s27.1.toInt).toNat) (fun s27 hss27 => ?_) _ _ (show (Inv g w5) ∧ (0 ≤ (0 : Int32).toInt) ∧ ((0 : Int32).toInt ≤ 6) ∧ ((w5 b1 3).toInt = (w5 b1 3).toInt) from ⟨hIw5, by omega, by omega, rfl⟩) (show (7 - (0 : Int32).toInt).toNat < 5000000000 from by omega)
    obtain ⟨hIs27, hss27_1, hss27_2, hss27_3⟩ := hss27
    refine (?_ : Sf (lpP _ _ (7 - s27.1.toInt).toNat _) _)
    have h10_ : 0 ≤ (s27.2 b1 3).toInt ∧ (s27.2 b1 3).toInt ≤ 6 := ivX1_3 hb1 hIs27
    have l_6 : (6 : Int32).toInt = 6 := by decide
    refine sf_ite (fun c11_ => ?_) (fun c11_ => ?_)
    · have rc11_ : s27.1.toInt < 6 := by rw [Int32.lt_iff_toInt_lt] at c11_; omega
      refine sf_wr (by omega) (by omega) (fun w6 ew6 => ?_)
      have n12_ : (s27.1.toNatClampNeg : Int) = s27.1.toInt := i_clq (by omega)
      have hIw6 : Inv g w6 := by rw [ew6]; exact ub_4 hIs27
      refine sf_wr (by omega) (by omega) (fun w7 ew7 => ?_)
      have hIw7 : Inv g w7 := by rw [ew7]; exact ub_5 hIw6
      have l_1 : (1 : Int32).toInt = 1 := by decide
      have e13_ : (s27.1 + (1 : Int32)).toInt = s27.1.toInt + (1 : Int32).toInt := i_add (by omega) (by omega)
      have h14_ : 0 ≤ (w7 b1 3).toInt ∧ (w7 b1 3).toInt ≤ 6 := ivX1_3 hb1 hIw7
      have h15_ : 0 ≤ (w6 b1 3).toInt ∧ (w6 b1 3).toInt ≤ 6 := ivX1_3 hb1 hIw6
      have k16_ : (w6 b1 3).toInt = (s27.2 b1 3).toInt := by rw [ew6, wu_ne (by omega)]
      have k17_ : (w7 b1 3).toInt = (w6 b1 3).toInt := by rw [ew7, wu_ne (by omega)]
      exact sf_some (show ((Inv g w7) ∧ (0 ≤ (s27.1 + (1 : Int32)).toInt) ∧ ((s27.1 + (1 : Int32)).toInt ≤ 6) ∧ ((w7 b1 3).toInt = (w5 b1 3).toInt)) ∧ (7 - (s27.1 + (1 : Int32)).toInt).toNat < (7 - s27.1.toInt).toNat from ⟨⟨hIw7, by omega, by omega, by omega⟩, by omega⟩)
    · have rc11_ : ¬ s27.1.toInt < 6 := by rw [Int32.lt_iff_toInt_lt] at c11_; omega
      exact sf_some (show (Inv g s27.2) ∧ ((s27.2 b1 3).toInt = (w5 b1 3).toInt) from ⟨hIs27, by omega⟩)
  · obtain ⟨hIv8, hvv8_1⟩ := hvv8
    have h18_ : 0 ≤ (w5 b1 3).toInt ∧ (w5 b1 3).toInt ≤ 6 := ivX1_3 hb1 hIw5
    have h19_ : 0 ≤ (w4 b1 3).toInt ∧ (w4 b1 3).toInt ≤ 6 := ivX1_3 hb1 hIw4
    have h20_ : 0 ≤ (w3 b1 3).toInt ∧ (w3 b1 3).toInt ≤ 6 := ivX1_3 hb1 hIw3
    have k21_ : (w3 b1 3).toInt = (w1 b1 3).toInt := by rw [ew3, wu_ne (by omega)]
    have k22_ : (w4 b1 3).toInt = (w3 b1 3).toInt := by rw [ew4, wu_ne (by omega)]
    have k23_ : (w5 b1 3).toInt = (w4 b1 3).toInt := by rw [ew5, wu_ne (by omega)]
    have h24_ : 0 ≤ (v8 b1 3).toInt ∧ (v8 b1 3).toInt ≤ 6 := ivX1_3 hb1 hIv8
    exact sf_some (show (Inv g v8) from hIv8)
set_option maxRecDepth 20000 in
set_option maxHeartbeats 2000000 in
theorem sf_X3_begin {g : Nat → Int} (b1 : Nat) (hb1 : BrO b1) (w : Mem) (hI : Inv g w) : Sf (fun (q : Mem) => (Inv g q)) (f_X3_begin b1 w) := by
  have hbb_b1 : b1 = 112 ∨ b1 = 119 := hb1
  obtain ⟨hg0, hg1⟩ := hI.1
  unfold f_X3_begin
  have l_0 : (0 : Int32).toInt = 0 := by decide
  refine sf_pw (fun w1 ew1 => ?_)
  have hIw1 : Inv g w1 := by rw [ew1]; exact uq_3_0 hI
  refine sf_pw (fun w2 ew2 => ?_)
  have hIw2 : Inv g w2 := by rw [ew2]; exact uq_3_1 hIw1
  refine sf_pw (fun w3 ew3 => ?_)
  have hIw3 : Inv g w3 := by rw [ew3]; exact uq_3_2 hIw2
  refine sf_bind (Q := fun (v4 : Int32) => (0 ≤ v4.toInt) ∧ (v4.toInt ≤ 1)) ?_ (fun v4 hqv4 hvv4 => ?_)
  · have h1_ : 0 ≤ (w3 b1 2).toInt ∧ (w3 b1 2).toInt ≤ 8 := ivX1_2 hb1 hIw3
    have h2_ : 0 ≤ (w2 b1 2).toInt ∧ (w2 b1 2).toInt ≤ 8 := ivX1_2 hb1 hIw2
    have h3_ : 0 ≤ (w1 b1 2).toInt ∧ (w1 b1 2).toInt ≤ 8 := ivX1_2 hb1 hIw1
    have h4_ : 0 ≤ (w b1 2).toInt ∧ (w b1 2).toInt ≤ 8 := ivX1_2 hb1 hI
    have k5_ : (w1 b1 2).toInt = (w b1 2).toInt := by rw [ew1, wu_ne (by omega)]
    have k6_ : (w2 b1 2).toInt = (w1 b1 2).toInt := by rw [ew2, wu_ne (by omega)]
    have k7_ : (w3 b1 2).toInt = (w2 b1 2).toInt := by rw [ew3, wu_ne (by omega)]
    refine sf_ite (fun c8_ => ?_) (fun c8_ => ?_)
    · have rc8_ : 0 < (w3 b1 2).toInt := by rw [Int32.lt_iff_toInt_lt] at c8_; omega
      have l_1 : (1 : Int32).toInt = 1 := by decide
      exact sf_some (show (0 ≤ (1 : Int32).toInt) ∧ ((1 : Int32).toInt ≤ 1) from ⟨by omega, by omega⟩)
    · have rc8_ : ¬ 0 < (w3 b1 2).toInt := by rw [Int32.lt_iff_toInt_lt] at c8_; omega
      exact sf_some (show (0 ≤ (0 : Int32).toInt) ∧ ((0 : Int32).toInt ≤ 1) from ⟨by omega, by omega⟩)
  · obtain ⟨hvv4_0, hvv4_1⟩ := hvv4
    refine sf_pw (fun w5 ew5 => ?_)
    have hIw5 : Inv g w5 := by rw [ew5]; exact uq_3_3 hIw3
    refine sf_bind (sf_X3_gather b1 hb1 w5 hIw5) (fun w6 hqw6 hpw6 => ?_)
    have hIw6 := hpw6
    exact sf_some (show (Inv g w6) from hIw6)
set_option maxRecDepth 20000 in
set_option maxHeartbeats 2000000 in
theorem sf_X6_forget {g : Nat → Int} (w : Mem) (hI : Inv g w) : Sf (fun (q : Mem) => (Inv g q)) (f_X6_forget w) := by
  obtain ⟨hg0, hg1⟩ := hI.1
  unfold f_X6_forget
  have l_0 : (0 : Int32).toInt = 0 := by decide
  refine sf_pw (fun w1 ew1 => ?_)
  have hIw1 : Inv g w1 := by rw [ew1]; exact up_6_1 hI (show 0 ≤ (0 : Int32).toInt ∧ (0 : Int32).toInt ≤ 30 from by omega)
  exact sf_some (show (Inv g w1) from hIw1)
set_option maxRecDepth 20000 in
set_option maxHeartbeats 2000000 in
theorem sf_X2_forget_106 {g : Nat → Int} (w : Mem) (hI : Inv g w) : Sf (fun (q : Mem) => (Inv g q)) (f_X2_forget_106 w) := by
  obtain ⟨hg0, hg1⟩ := hI.1
  unfold f_X2_forget_106
  have l_0 : (0 : Int32).toInt = 0 := by decide
  refine sf_pw (fun w1 ew1 => ?_)
  have hIw1 : Inv g w1 := by rw [ew1]; exact up_106_2 hI (show 0 ≤ (0 : Int32).toInt ∧ (0 : Int32).toInt ≤ 6 from by omega)
  exact sf_some (show (Inv g w1) from hIw1)
set_option maxRecDepth 20000 in
set_option maxHeartbeats 2000000 in
theorem sf_X2_forget_109 {g : Nat → Int} (w : Mem) (hI : Inv g w) : Sf (fun (q : Mem) => (Inv g q)) (f_X2_forget_109 w) := by
  obtain ⟨hg0, hg1⟩ := hI.1
  unfold f_X2_forget_109
  have l_0 : (0 : Int32).toInt = 0 := by decide
  refine sf_pw (fun w1 ew1 => ?_)
  have hIw1 : Inv g w1 := by rw [ew1]; exact up_109_2 hI (show 0 ≤ (0 : Int32).toInt ∧ (0 : Int32).toInt ≤ 20 from by omega)
  exact sf_some (show (Inv g w1) from hIw1)
set_option maxRecDepth 20000 in
set_option maxHeartbeats 2000000 in
theorem sf_X9_beginBridge {g : Nat → Int} (w : Mem) (hI : Inv g w) : Sf (fun (q : Mem) => (Inv g q)) (f_X9_beginBridge w) := by
  obtain ⟨hg0, hg1⟩ := hI.1
  unfold f_X9_beginBridge
  refine sf_bind (sf_X3_begin (brp (w 0 8)) (brp_ok (w 0 8)) w hI) (fun w1 hqw1 hpw1 => ?_)
  have hIw1 := hpw1
  refine sf_bind (sf_X6_forget  w1 hIw1) (fun w2 hqw2 hpw2 => ?_)
  have hIw2 := hpw2
  refine sf_bind (sf_X2_forget_106  w2 hIw2) (fun w3 hqw3 hpw3 => ?_)
  have hIw3 := hpw3
  refine sf_bind (sf_X2_forget_109  w3 hIw3) (fun w4 hqw4 hpw4 => ?_)
  have hIw4 := hpw4
  refine sf_bind (Q := fun (v7 : Mem) => (Inv g v7)) ?_ (fun v7 hqv7 hvv7 => ?_)
  · have l_0 : (0 : Int32).toInt = 0 := by decide
    refine sf_lp (fun (s34 : (Int32 × Mem)) => (Inv g s34.2) ∧ (0 ≤ s34.1.toInt) ∧ (s34.1.toInt ≤ 2)) (fun (s34 : (Int32 × Mem)) => (3 - s34.1.toInt).toNat) (fun s34 hss34 => ?_) _ _ (show (Inv g w4) ∧ (0 ≤ (0 : Int32).toInt) ∧ ((0 : Int32).toInt ≤ 2) from ⟨hIw4, by omega, by omega⟩) (show (3 - (0 : Int32).toInt).toNat < 5000000000 from by omega)
    obtain ⟨hIs34, hss34_1, hss34_2⟩ := hss34
    refine (?_ : Sf (lpP _ _ (3 - s34.1.toInt).toNat _) _)
    have l_2 : (2 : Int32).toInt = 2 := by decide
    refine sf_ite (fun c1_ => ?_) (fun c1_ => ?_)
    · have rc1_ : s34.1.toInt < 2 := by rw [Int32.lt_iff_toInt_lt] at c1_; omega
      refine sf_ri (by omega) (by omega) (fun o5 eo5 ho5 mo5 => ?_)
      refine sf_pw (fun w6 ew6 => ?_)
      have hIw6 : Inv g w6 := by rw [ew6]; exact upX4_2 ho5 hIs34 (show 0 ≤ (0 : Int32).toInt ∧ (0 : Int32).toInt ≤ 1 from by omega)
      have l_1 : (1 : Int32).toInt = 1 := by decide
      have e2_ : (s34.1 + (1 : Int32)).toInt = s34.1.toInt + (1 : Int32).toInt := i_add (by omega) (by omega)
      exact sf_some (show ((Inv g w6) ∧ (0 ≤ (s34.1 + (1 : Int32)).toInt) ∧ ((s34.1 + (1 : Int32)).toInt ≤ 2)) ∧ (3 - (s34.1 + (1 : Int32)).toInt).toNat < (3 - s34.1.toInt).toNat from ⟨⟨hIw6, by omega, by omega⟩, by omega⟩)
    · have rc1_ : ¬ s34.1.toInt < 2 := by rw [Int32.lt_iff_toInt_lt] at c1_; omega
      exact sf_some (show (Inv g s34.2) from hIs34)
  · have hIv7 := hvv7
    exact sf_some (show (Inv g v7) from hIv7)
set_option maxRecDepth 20000 in
set_option maxHeartbeats 2000000 in
theorem sf_X9_bridge {g : Nat → Int} (w : Mem) (hI : Inv g w) : Sf (fun (q : Int32 × Mem) => (Inv g q.2) ∧ ((q.2 1 1).toInt = 0)) (f_X9_bridge w) := by
  obtain ⟨hg0, hg1⟩ := hI.1
  unfold f_X9_bridge
  refine sf_bind (sf_X7_readInto (brp (w 0 9)) (brp_ok (w 0 9)) w hI) (fun w1 hqw1 hpw1 => ?_)
  have hIw1 := hpw1
  refine sf_bind (sf_X7_empty  w1 hIw1) (fun w2 hqw2 hpw2 => ?_)
  obtain ⟨hIw2, hpw2_0⟩ := hpw2
  have h1_ : 0 ≤ (w2 1 1).toInt ∧ (w2 1 1).toInt ≤ 240 := iv_1_1 hIw2
  have zz2_l : -2147483648 ≤ (w1 1 4).toInt := Int32.le_toInt (w1 1 4)
  have zz2_h : (w1 1 4).toInt ≤ 2147483647 := Int32.toInt_le (w1 1 4)
  have k3_ : (w2 1 4).toInt = (w1 1 4).toInt := congrArg Int32.toInt (fr_X7_empty  w1 w2 hqw2 1 4 (by omega))
  have zz4_l : -2147483648 ≤ (w2 1 4).toInt := Int32.le_toInt (w2 1 4)
  have zz4_h : (w2 1 4).toInt ≤ 2147483647 := Int32.toInt_le (w2 1 4)
  refine sf_pw (fun w3 ew3 => ?_)
  have hIw3 : Inv g w3 := by rw [ew3]; exact uq_0_11 hIw2
  have zz5_l : -2147483648 ≤ (w1 1 3).toInt := Int32.le_toInt (w1 1 3)
  have zz5_h : (w1 1 3).toInt ≤ 2147483647 := Int32.toInt_le (w1 1 3)
  have k6_ : (w2 1 3).toInt = (w1 1 3).toInt := congrArg Int32.toInt (fr_X7_empty  w1 w2 hqw2 1 3 (by omega))
  have zz7_l : -2147483648 ≤ (w2 1 3).toInt := Int32.le_toInt (w2 1 3)
  have zz7_h : (w2 1 3).toInt ≤ 2147483647 := Int32.toInt_le (w2 1 3)
  have k8_ : (w3 1 3).toInt = (w2 1 3).toInt := by rw [ew3, wu_ne (by omega)]
  have zz9_l : -2147483648 ≤ (w3 1 3).toInt := Int32.le_toInt (w3 1 3)
  have zz9_h : (w3 1 3).toInt ≤ 2147483647 := Int32.toInt_le (w3 1 3)
  have l_0 : (0 : Int32).toInt = 0 := by decide
  refine sf_ite (fun c10_ => ?_) (fun c10_ => ?_)
  · have rc10_ : (w3 1 3).toInt = 0 := by rw [i_eq_iff] at c10_; omega
    refine sf_pr (brp_or _) (fun w4 ew4 => ?_)
    have hIw4 : Inv g w4 := by rw [ew4]; exact uq_0_8 hIw3
    refine sf_pr (brp_or _) (fun w5 ew5 => ?_)
    have hIw5 : Inv g w5 := by rw [ew5]; exact uq_0_9 hIw4
    refine sf_bind (sf_X9_beginBridge  w5 hIw5) (fun w6 hqw6 hpw6 => ?_)
    have hIw6 := hpw6
    have h11_ : 0 ≤ (w6 (brp (w6 0 8)) 3).toInt ∧ (w6 (brp (w6 0 8)) 3).toInt ≤ 6 := ivX1_3 (brp_ok (w6 0 8)) hIw6
    have h12_ : 0 ≤ (w6 1 1).toInt ∧ (w6 1 1).toInt ≤ 240 := iv_1_1 hIw6
    have h13_ : 0 ≤ (w5 1 1).toInt ∧ (w5 1 1).toInt ≤ 240 := iv_1_1 hIw5
    have h14_ : 0 ≤ (w4 1 1).toInt ∧ (w4 1 1).toInt ≤ 240 := iv_1_1 hIw4
    have h15_ : 0 ≤ (w3 1 1).toInt ∧ (w3 1 1).toInt ≤ 240 := iv_1_1 hIw3
    have k16_ : (w3 1 1).toInt = (w2 1 1).toInt := by rw [ew3, wu_ne (by omega)]
    have k17_ : (w4 1 1).toInt = (w3 1 1).toInt := by rw [ew4, wu_ne (by omega)]
    have k18_ : (w5 1 1).toInt = (w4 1 1).toInt := by rw [ew5, wu_ne (by omega)]
    have k19_ : (w6 1 1).toInt = (w5 1 1).toInt := congrArg Int32.toInt (fr_X9_beginBridge  w5 w6 hqw6 1 1 (by omega))
    exact sf_some (show (Inv g w6) ∧ ((w6 1 1).toInt = 0) from ⟨hIw6, by omega⟩)
  · have rc10_ : ¬ (w3 1 3).toInt = 0 := by rw [i_eq_iff] at c10_; omega
    have l_m10 : (-10 : Int32).toInt = -10 := by decide
    have h20_ : 0 ≤ (w3 1 1).toInt ∧ (w3 1 1).toInt ≤ 240 := iv_1_1 hIw3
    have k21_ : (w3 1 1).toInt = (w2 1 1).toInt := by rw [ew3, wu_ne (by omega)]
    exact sf_some (show (Inv g w3) ∧ ((w3 1 1).toInt = 0) from ⟨hIw3, by omega⟩)
set_option maxRecDepth 20000 in
set_option maxHeartbeats 2000000 in
theorem sf_X9_fault {g : Nat → Int} (w : Mem) (hI : Inv g w) : Sf (fun (q : Int32) => (True)) (f_X9_fault w) := by
  obtain ⟨hg0, hg1⟩ := hI.1
  unfold f_X9_fault
  have zz1_l : -2147483648 ≤ (w 0 11).toInt := Int32.le_toInt (w 0 11)
  have zz1_h : (w 0 11).toInt ≤ 2147483647 := Int32.toInt_le (w 0 11)
  exact sf_some (show (True) from trivial)
set_option maxRecDepth 20000 in
set_option maxHeartbeats 2000000 in
theorem sf_X9_toldOfEvening {g : Nat → Int} (a1 : Int32) (w : Mem) (hI : Inv g w) : Sf (fun (q : Int32) => (True)) (f_X9_toldOfEvening a1 w) := by
  obtain ⟨hg0, hg1⟩ := hI.1
  unfold f_X9_toldOfEvening
  have zz1_l : -2147483648 ≤ a1.toInt := Int32.le_toInt a1
  have zz1_h : a1.toInt ≤ 2147483647 := Int32.toInt_le a1
  have l_5 : (5 : Int32).toInt = 5 := by decide
  refine sf_ite (fun c2_ => ?_) (fun c2_ => ?_)
  · have rc2_ : a1.toInt = 5 := by rw [i_eq_iff] at c2_; omega
    have zz3_l : -2147483648 ≤ (w 3 0).toInt := Int32.le_toInt (w 3 0)
    have zz3_h : (w 3 0).toInt ≤ 2147483647 := Int32.toInt_le (w 3 0)
    exact sf_some (show (True) from trivial)
  · have rc2_ : ¬ a1.toInt = 5 := by rw [i_eq_iff] at c2_; omega
    have l_6 : (6 : Int32).toInt = 6 := by decide
    refine sf_ite (fun c4_ => ?_) (fun c4_ => ?_)
    · have rc4_ : a1.toInt = 6 := by rw [i_eq_iff] at c4_; omega
      have zz5_l : -2147483648 ≤ (w 3 1).toInt := Int32.le_toInt (w 3 1)
      have zz5_h : (w 3 1).toInt ≤ 2147483647 := Int32.toInt_le (w 3 1)
      exact sf_some (show (True) from trivial)
    · have rc4_ : ¬ a1.toInt = 6 := by rw [i_eq_iff] at c4_; omega
      have l_7 : (7 : Int32).toInt = 7 := by decide
      refine sf_ite (fun c6_ => ?_) (fun c6_ => ?_)
      · have rc6_ : a1.toInt = 7 := by rw [i_eq_iff] at c6_; omega
        have zz7_l : -2147483648 ≤ (w 3 2).toInt := Int32.le_toInt (w 3 2)
        have zz7_h : (w 3 2).toInt ≤ 2147483647 := Int32.toInt_le (w 3 2)
        exact sf_some (show (True) from trivial)
      · have rc6_ : ¬ a1.toInt = 7 := by rw [i_eq_iff] at c6_; omega
        have l_8 : (8 : Int32).toInt = 8 := by decide
        refine sf_ite (fun c8_ => ?_) (fun c8_ => ?_)
        · have rc8_ : a1.toInt = 8 := by rw [i_eq_iff] at c8_; omega
          have zz9_l : -2147483648 ≤ (w 3 3).toInt := Int32.le_toInt (w 3 3)
          have zz9_h : (w 3 3).toInt ≤ 2147483647 := Int32.toInt_le (w 3 3)
          exact sf_some (show (True) from trivial)
        · have rc8_ : ¬ a1.toInt = 8 := by rw [i_eq_iff] at c8_; omega
          have l_9 : (9 : Int32).toInt = 9 := by decide
          refine sf_ite (fun c10_ => ?_) (fun c10_ => ?_)
          · have rc10_ : a1.toInt = 9 := by rw [i_eq_iff] at c10_; omega
            have zz11_l : -2147483648 ≤ (w 3 4).toInt := Int32.le_toInt (w 3 4)
            have zz11_h : (w 3 4).toInt ≤ 2147483647 := Int32.toInt_le (w 3 4)
            exact sf_some (show (True) from trivial)
          · have rc10_ : ¬ a1.toInt = 9 := by rw [i_eq_iff] at c10_; omega
            have l_10 : (10 : Int32).toInt = 10 := by decide
            refine sf_ite (fun c12_ => ?_) (fun c12_ => ?_)
            · have rc12_ : a1.toInt = 10 := by rw [i_eq_iff] at c12_; omega
              have zz13_l : -2147483648 ≤ (w 3 5).toInt := Int32.le_toInt (w 3 5)
              have zz13_h : (w 3 5).toInt ≤ 2147483647 := Int32.toInt_le (w 3 5)
              exact sf_some (show (True) from trivial)
            · have rc12_ : ¬ a1.toInt = 10 := by rw [i_eq_iff] at c12_; omega
              have l_11 : (11 : Int32).toInt = 11 := by decide
              refine sf_ite (fun c14_ => ?_) (fun c14_ => ?_)
              · have rc14_ : a1.toInt = 11 := by rw [i_eq_iff] at c14_; omega
                have zz15_l : -2147483648 ≤ (w 3 6).toInt := Int32.le_toInt (w 3 6)
                have zz15_h : (w 3 6).toInt ≤ 2147483647 := Int32.toInt_le (w 3 6)
                exact sf_some (show (True) from trivial)
              · have rc14_ : ¬ a1.toInt = 11 := by rw [i_eq_iff] at c14_; omega
                have l_12 : (12 : Int32).toInt = 12 := by decide
                refine sf_ite (fun c16_ => ?_) (fun c16_ => ?_)
                · have rc16_ : a1.toInt = 12 := by rw [i_eq_iff] at c16_; omega
                  have zz17_l : -2147483648 ≤ (w 3 7).toInt := Int32.le_toInt (w 3 7)
                  have zz17_h : (w 3 7).toInt ≤ 2147483647 := Int32.toInt_le (w 3 7)
                  exact sf_some (show (True) from trivial)
                · have rc16_ : ¬ a1.toInt = 12 := by rw [i_eq_iff] at c16_; omega
                  have l_13 : (13 : Int32).toInt = 13 := by decide
                  refine sf_ite (fun c18_ => ?_) (fun c18_ => ?_)
                  · have rc18_ : a1.toInt = 13 := by rw [i_eq_iff] at c18_; omega
                    have zz19_l : -2147483648 ≤ (w 3 8).toInt := Int32.le_toInt (w 3 8)
                    have zz19_h : (w 3 8).toInt ≤ 2147483647 := Int32.toInt_le (w 3 8)
                    exact sf_some (show (True) from trivial)
                  · have rc18_ : ¬ a1.toInt = 13 := by rw [i_eq_iff] at c18_; omega
                    have l_14 : (14 : Int32).toInt = 14 := by decide
                    refine sf_ite (fun c20_ => ?_) (fun c20_ => ?_)
                    · have rc20_ : a1.toInt = 14 := by rw [i_eq_iff] at c20_; omega
                      have zz21_l : -2147483648 ≤ (w 3 9).toInt := Int32.le_toInt (w 3 9)
                      have zz21_h : (w 3 9).toInt ≤ 2147483647 := Int32.toInt_le (w 3 9)
                      exact sf_some (show (True) from trivial)
                    · have rc20_ : ¬ a1.toInt = 14 := by rw [i_eq_iff] at c20_; omega
                      have l_m1000000002 : (-1000000002 : Int32).toInt = -1000000002 := by decide
                      exact sf_some (show (True) from trivial)
set_option maxRecDepth 20000 in
set_option maxHeartbeats 2000000 in
theorem sf_X1_nobodys {g : Nat → Int} (b0 : Nat) (hb0 : BrO b0) (w : Mem) (hI : Inv g w) : Sf (fun (q : Int32) => (True)) (f_X1_nobodys b0 w) := by
  have hbb_b0 : b0 = 112 ∨ b0 = 119 := hb0
  obtain ⟨hg0, hg1⟩ := hI.1
  unfold f_X1_nobodys
  refine sf_bind (Q := fun (v2 : Int32) => (True)) ?_ (fun v2 hqv2 hvv2 => ?_)
  · have l_0 : (0 : Int32).toInt = 0 := by decide
    refine sf_lp (fun (s4 : (Int32 × Int32)) => (0 ≤ s4.2.toInt) ∧ (s4.2.toInt ≤ 6)) (fun (s4 : (Int32 × Int32)) => (7 - s4.2.toInt).toNat) (fun s4 hss4 => ?_) _ _ (show (0 ≤ (0 : Int32).toInt) ∧ ((0 : Int32).toInt ≤ 6) from ⟨by omega, by omega⟩) (show (7 - (0 : Int32).toInt).toNat < 5000000000 from by omega)
    obtain ⟨hss4_0, hss4_1⟩ := hss4
    refine (?_ : Sf (lpP _ _ (7 - s4.2.toInt).toNat _) _)
    have h1_ : 0 ≤ (w b0 3).toInt ∧ (w b0 3).toInt ≤ 6 := ivX1_3 hb0 hI
    refine sf_ite (fun c2_ => ?_) (fun c2_ => ?_)
    · have rc2_ : s4.2.toInt < (w b0 3).toInt := by rw [Int32.lt_iff_toInt_lt] at c2_; omega
      refine sf_rd (by omega) (by omega) (fun x1 ex1 => ?_)
      have zz3_l : -2147483648 ≤ s4.1.toInt := Int32.le_toInt s4.1
      have zz3_h : s4.1.toInt ≤ 2147483647 := Int32.toInt_le s4.1
      have zz4_l : -2147483648 ≤ x1.toInt := Int32.le_toInt x1
      have zz4_h : x1.toInt ≤ 2147483647 := Int32.toInt_le x1
      have l_1 : (1 : Int32).toInt = 1 := by decide
      have e5_ : (s4.2 + (1 : Int32)).toInt = s4.2.toInt + (1 : Int32).toInt := i_add (by omega) (by omega)
      exact sf_some (show ((0 ≤ (s4.2 + (1 : Int32)).toInt) ∧ ((s4.2 + (1 : Int32)).toInt ≤ 6)) ∧ (7 - (s4.2 + (1 : Int32)).toInt).toNat < (7 - s4.2.toInt).toNat from ⟨⟨by omega, by omega⟩, by omega⟩)
    · have rc2_ : ¬ s4.2.toInt < (w b0 3).toInt := by rw [Int32.lt_iff_toInt_lt] at c2_; omega
      have zz6_l : -2147483648 ≤ s4.1.toInt := Int32.le_toInt s4.1
      have zz6_h : s4.1.toInt ≤ 2147483647 := Int32.toInt_le s4.1
      exact sf_some (show (True) from trivial)
  · have hvv2_0 := hvv2
    have h7_ : 0 ≤ (w b0 2).toInt ∧ (w b0 2).toInt ≤ 8 := ivX1_2 hb0 hI
    refine sf_bind (sf_X9_setOfFirst (w b0 2) (by omega) (by omega)) (fun r3 hqr3 hpr3 => ?_)
    obtain ⟨hpr3_0, hpr3_1⟩ := hpr3
    have e8_ : 0 ≤ (r3 &&& (v2 ^^^ (-1 : Int32))).toInt ∧ (r3 &&& (v2 ^^^ (-1 : Int32))).toInt ≤ r3.toInt := i_and_l (by omega)
    exact sf_some (show (True) from trivial)
set_option maxRecDepth 20000 in
set_option maxHeartbeats 2000000 in
theorem sf_X3_longestSat {g : Nat → Int} (b1 : Nat) (hb1 : BrO b1) (w : Mem) (hI : Inv g w) : Sf (fun (q : Int32) => (True)) (f_X3_longestSat b1 w) := by
  have hbb_b1 : b1 = 112 ∨ b1 = 119 := hb1
  obtain ⟨hg0, hg1⟩ := hI.1
  unfold f_X3_longestSat
  refine sf_bind (Q := fun (v4 : Int32) => (-1 ≤ v4.toInt) ∧ (v4.toInt ≤ 5)) ?_ (fun v4 hqv4 hvv4 => ?_)
  · have l_m1 : (-1 : Int32).toInt = -1 := by decide
    have l_0 : (0 : Int32).toInt = 0 := by decide
    refine sf_lp (fun (s7 : (Int32 × Int32 × Int32)) => (-1 ≤ s7.1.toInt) ∧ (s7.1.toInt ≤ 5) ∧ (0 ≤ s7.2.2.toInt) ∧ (s7.2.2.toInt ≤ 6)) (fun (s7 : (Int32 × Int32 × Int32)) => (7 - s7.2.2.toInt).toNat) (fun s7 hss7 => ?_) _ _ (show (-1 ≤ (-1 : Int32).toInt) ∧ ((-1 : Int32).toInt ≤ 5) ∧ (0 ≤ (0 : Int32).toInt) ∧ ((0 : Int32).toInt ≤ 6) from ⟨by omega, by omega, by omega, by omega⟩) (show (7 - (0 : Int32).toInt).toNat < 5000000000 from by omega)
    obtain ⟨hss7_0, hss7_1, hss7_2, hss7_3⟩ := hss7
    refine (?_ : Sf (lpP _ _ (7 - s7.2.2.toInt).toNat _) _)
    have h1_ : 0 ≤ (w b1 3).toInt ∧ (w b1 3).toInt ≤ 6 := ivX1_3 hb1 hI
    refine sf_ite (fun c2_ => ?_) (fun c2_ => ?_)
    · have rc2_ : s7.2.2.toInt < (w b1 3).toInt := by rw [Int32.lt_iff_toInt_lt] at c2_; omega
      refine sf_rd (by omega) (by omega) (fun x1 ex1 => ?_)
      refine sf_bind (Q := fun (v2 : (Int32 × Int32)) => (-1 ≤ v2.1.toInt) ∧ (v2.1.toInt ≤ 5)) ?_ (fun v2 hqv2 hvv2 => ?_)
      · have zz3_l : -2147483648 ≤ s7.2.1.toInt := Int32.le_toInt s7.2.1
        have zz3_h : s7.2.1.toInt ≤ 2147483647 := Int32.toInt_le s7.2.1
        have zz4_l : -2147483648 ≤ x1.toInt := Int32.le_toInt x1
        have zz4_h : x1.toInt ≤ 2147483647 := Int32.toInt_le x1
        refine sf_ite (fun c5_ => ?_) (fun c5_ => ?_)
        · have rc5_ : s7.2.1.toInt < x1.toInt := by rw [Int32.lt_iff_toInt_lt] at c5_; omega
          refine sf_rd (by omega) (by omega) (fun x3 ex3 => ?_)
          have zz6_l : -2147483648 ≤ x3.toInt := Int32.le_toInt x3
          have zz6_h : x3.toInt ≤ 2147483647 := Int32.toInt_le x3
          exact sf_some (show (-1 ≤ s7.2.2.toInt) ∧ (s7.2.2.toInt ≤ 5) from ⟨by omega, by omega⟩)
        · have rc5_ : ¬ s7.2.1.toInt < x1.toInt := by rw [Int32.lt_iff_toInt_lt] at c5_; omega
          exact sf_some (show (-1 ≤ s7.1.toInt) ∧ (s7.1.toInt ≤ 5) from ⟨by omega, by omega⟩)
      · obtain ⟨hvv2_0, hvv2_1⟩ := hvv2
        have zz7_l : -2147483648 ≤ v2.2.toInt := Int32.le_toInt v2.2
        have zz7_h : v2.2.toInt ≤ 2147483647 := Int32.toInt_le v2.2
        have l_1 : (1 : Int32).toInt = 1 := by decide
        have e8_ : (s7.2.2 + (1 : Int32)).toInt = s7.2.2.toInt + (1 : Int32).toInt := i_add (by omega) (by omega)
        exact sf_some (show ((-1 ≤ v2.1.toInt) ∧ (v2.1.toInt ≤ 5) ∧ (0 ≤ (s7.2.2 + (1 : Int32)).toInt) ∧ ((s7.2.2 + (1 : Int32)).toInt ≤ 6)) ∧ (7 - (s7.2.2 + (1 : Int32)).toInt).toNat < (7 - s7.2.2.toInt).toNat from ⟨⟨by omega, by omega, by omega, by omega⟩, by omega⟩)
    · have rc2_ : ¬ s7.2.2.toInt < (w b1 3).toInt := by rw [Int32.lt_iff_toInt_lt] at c2_; omega
      exact sf_some (show (-1 ≤ s7.1.toInt) ∧ (s7.1.toInt ≤ 5) from ⟨by omega, by omega⟩)
  · obtain ⟨hvv4_0, hvv4_1⟩ := hvv4
    exact sf_some (show (True) from trivial)
set_option maxRecDepth 20000 in
set_option maxHeartbeats 2000000 in
theorem sf_X9_leastOf (a0 : Int32) : Sf (fun (q : Int32) => (True)) (f_X9_leastOf a0) := by
  unfold f_X9_leastOf
  have l_0 : (0 : Int32).toInt = 0 := by decide
  refine sf_lp (fun (s2 : Int32) => (0 ≤ s2.toInt) ∧ (s2.toInt ≤ 31)) (fun (s2 : Int32) => (32 - s2.toInt).toNat) (fun s2 hss2 => ?_) _ _ (show (0 ≤ (0 : Int32).toInt) ∧ ((0 : Int32).toInt ≤ 31) from ⟨by omega, by omega⟩) (show (32 - (0 : Int32).toInt).toNat < 5000000000 from by omega)
  obtain ⟨hss2_0, hss2_1⟩ := hss2
  refine (?_ : Sf (lpP _ _ (32 - s2.toInt).toNat _) _)
  have l_31 : (31 : Int32).toInt = 31 := by decide
  refine sf_ite (fun c1_ => ?_) (fun c1_ => ?_)
  · have rc1_ : s2.toInt < 31 := by rw [Int32.lt_iff_toInt_lt] at c1_; omega
    have zz2_l : -2147483648 ≤ a0.toInt := Int32.le_toInt a0
    have zz2_h : a0.toInt ≤ 2147483647 := Int32.toInt_le a0
    refine sf_bind (sf_X9_holds a0 s2) (fun r1 hqr1 hpr1 => ?_)
    have hpr1_0 := hpr1
    refine sf_ite (fun c3_ => ?_) (fun c3_ => ?_)
    · have rc3_ : r1.toInt = 0 := by rw [i_eq_iff] at c3_; omega
      have l_1 : (1 : Int32).toInt = 1 := by decide
      have e4_ : (s2 + (1 : Int32)).toInt = s2.toInt + (1 : Int32).toInt := i_add (by omega) (by omega)
      exact sf_some (show ((0 ≤ (s2 + (1 : Int32)).toInt) ∧ ((s2 + (1 : Int32)).toInt ≤ 31)) ∧ (32 - (s2 + (1 : Int32)).toInt).toNat < (32 - s2.toInt).toNat from ⟨⟨by omega, by omega⟩, by omega⟩)
    · have rc3_ : ¬ r1.toInt = 0 := by rw [i_eq_iff] at c3_; omega
      exact sf_some (show (True) from trivial)
  · have rc1_ : ¬ s2.toInt < 31 := by rw [Int32.lt_iff_toInt_lt] at c1_; omega
    have l_m1 : (-1 : Int32).toInt = -1 := by decide
    exact sf_some (show (True) from trivial)
set_option maxRecDepth 20000 in
set_option maxHeartbeats 2000000 in
theorem sf_X1_hasTraveller {g : Nat → Int} (b0 : Nat) (hb0 : BrO b0) (a1 : Int32) (w : Mem) (hI : Inv g w) : Sf (fun (q : Int32) => (0 ≤ q.toInt ∧ q.toInt ≤ 1) ∧ (q.toInt = 0 ∨ (0 ≤ a1.toInt ∧ a1.toInt ≤ 5))) (f_X1_hasTraveller b0 a1 w) := by
  have hbb_b0 : b0 = 112 ∨ b0 = 119 := hb0
  obtain ⟨hg0, hg1⟩ := hI.1
  unfold f_X1_hasTraveller
  have zz1_l : -2147483648 ≤ a1.toInt := Int32.le_toInt a1
  have zz1_h : a1.toInt ≤ 2147483647 := Int32.toInt_le a1
  have l_0 : (0 : Int32).toInt = 0 := by decide
  refine sf_ite (fun c2_ => ?_) (fun c2_ => ?_)
  · have rc2_ : a1.toInt < 0 := by rw [Int32.lt_iff_toInt_lt] at c2_; omega
    exact sf_some (show (0 ≤ (0 : Int32).toInt ∧ (0 : Int32).toInt ≤ 1) ∧ ((0 : Int32).toInt = 0 ∨ (0 ≤ a1.toInt ∧ a1.toInt ≤ 5)) from ⟨by omega, by omega⟩)
  · have rc2_ : ¬ a1.toInt < 0 := by rw [Int32.lt_iff_toInt_lt] at c2_; omega
    have h3_ : 0 ≤ (w b0 3).toInt ∧ (w b0 3).toInt ≤ 6 := ivX1_3 hb0 hI
    refine sf_ite (fun c4_ => ?_) (fun c4_ => ?_)
    · have rc4_ : a1.toInt < (w b0 3).toInt := by rw [Int32.lt_iff_toInt_lt] at c4_; omega
      have l_6 : (6 : Int32).toInt = 6 := by decide
      refine sf_ite (fun c5_ => ?_) (fun c5_ => ?_)
      · have rc5_ : a1.toInt < 6 := by rw [Int32.lt_iff_toInt_lt] at c5_; omega
        have l_1 : (1 : Int32).toInt = 1 := by decide
        exact sf_some (show (0 ≤ (1 : Int32).toInt ∧ (1 : Int32).toInt ≤ 1) ∧ ((1 : Int32).toInt = 0 ∨ (0 ≤ a1.toInt ∧ a1.toInt ≤ 5)) from ⟨by omega, by omega⟩)
      · have rc5_ : ¬ a1.toInt < 6 := by rw [Int32.lt_iff_toInt_lt] at c5_; omega
        exfalso; omega
    · have rc4_ : ¬ a1.toInt < (w b0 3).toInt := by rw [Int32.lt_iff_toInt_lt] at c4_; omega
      exact sf_some (show (0 ≤ (0 : Int32).toInt ∧ (0 : Int32).toInt ≤ 1) ∧ ((0 : Int32).toInt = 0 ∨ (0 ≤ a1.toInt ∧ a1.toInt ≤ 5)) from ⟨by omega, by omega⟩)
set_option maxRecDepth 20000 in
set_option maxHeartbeats 2000000 in
theorem sf_X1_hasMatter {g : Nat → Int} (b0 : Nat) (hb0 : BrO b0) (a1 : Int32) (w : Mem) (hI : Inv g w) : Sf (fun (q : Int32) => (0 ≤ q.toInt ∧ q.toInt ≤ 1) ∧ (q.toInt = 0 ∨ (0 ≤ a1.toInt ∧ a1.toInt ≤ 7))) (f_X1_hasMatter b0 a1 w) := by
  have hbb_b0 : b0 = 112 ∨ b0 = 119 := hb0
  obtain ⟨hg0, hg1⟩ := hI.1
  unfold f_X1_hasMatter
  have zz1_l : -2147483648 ≤ a1.toInt := Int32.le_toInt a1
  have zz1_h : a1.toInt ≤ 2147483647 := Int32.toInt_le a1
  have l_0 : (0 : Int32).toInt = 0 := by decide
  refine sf_ite (fun c2_ => ?_) (fun c2_ => ?_)
  · have rc2_ : a1.toInt < 0 := by rw [Int32.lt_iff_toInt_lt] at c2_; omega
    exact sf_some (show (0 ≤ (0 : Int32).toInt ∧ (0 : Int32).toInt ≤ 1) ∧ ((0 : Int32).toInt = 0 ∨ (0 ≤ a1.toInt ∧ a1.toInt ≤ 7)) from ⟨by omega, by omega⟩)
  · have rc2_ : ¬ a1.toInt < 0 := by rw [Int32.lt_iff_toInt_lt] at c2_; omega
    have h3_ : 0 ≤ (w b0 2).toInt ∧ (w b0 2).toInt ≤ 8 := ivX1_2 hb0 hI
    refine sf_ite (fun c4_ => ?_) (fun c4_ => ?_)
    · have rc4_ : a1.toInt < (w b0 2).toInt := by rw [Int32.lt_iff_toInt_lt] at c4_; omega
      have l_8 : (8 : Int32).toInt = 8 := by decide
      refine sf_ite (fun c5_ => ?_) (fun c5_ => ?_)
      · have rc5_ : a1.toInt < 8 := by rw [Int32.lt_iff_toInt_lt] at c5_; omega
        have l_1 : (1 : Int32).toInt = 1 := by decide
        exact sf_some (show (0 ≤ (1 : Int32).toInt ∧ (1 : Int32).toInt ≤ 1) ∧ ((1 : Int32).toInt = 0 ∨ (0 ≤ a1.toInt ∧ a1.toInt ≤ 7)) from ⟨by omega, by omega⟩)
      · have rc5_ : ¬ a1.toInt < 8 := by rw [Int32.lt_iff_toInt_lt] at c5_; omega
        exfalso; omega
    · have rc4_ : ¬ a1.toInt < (w b0 2).toInt := by rw [Int32.lt_iff_toInt_lt] at c4_; omega
      exact sf_some (show (0 ≤ (0 : Int32).toInt ∧ (0 : Int32).toInt ≤ 1) ∧ ((0 : Int32).toInt = 0 ∨ (0 ≤ a1.toInt ∧ a1.toInt ≤ 7)) from ⟨by omega, by omega⟩)
set_option maxRecDepth 20000 in
set_option maxHeartbeats 2000000 in
theorem sf_J6_bitCount_0f7a4 (a0 : Int32) : Sf (fun (q : Int32) => (True)) (f_J6_bitCount_0f7a4 a0) := by
  unfold f_J6_bitCount_0f7a4
  refine sf_lt (fun t1 et1 => ?_)
  have zz3_l : -2147483648 ≤ t1.toInt := Int32.le_toInt t1
  have zz3_h : t1.toInt ≤ 2147483647 := Int32.toInt_le t1
  refine sf_lt (fun t2 et2 => ?_)
  have ft2 : (0 ≤ t2.toInt) ∧ (t2.toInt ≤ 1717986918) := by
    have l_858993459 : (858993459 : Int32).toInt = 858993459 := by decide
    have e4_ : 0 ≤ (t1 &&& (858993459 : Int32)).toInt ∧ (t1 &&& (858993459 : Int32)).toInt ≤ (858993459 : Int32).toInt := i_and_r (by omega)
    have e5_ : 0 ≤ (((t1).toUInt32 >>> (((2 : Int32)).toUInt32 &&& Int32.toUInt32 31)).toInt32 &&& (858993459 : Int32)).toInt ∧ (((t1).toUInt32 >>> (((2 : Int32)).toUInt32 &&& Int32.toUInt32 31)).toInt32 &&& (858993459 : Int32)).toInt ≤ (858993459 : Int32).toInt := i_and_r (by omega)
    have e6_ : ((t1 &&& (858993459 : Int32)) + (((t1).toUInt32 >>> (((2 : Int32)).toUInt32 &&& Int32.toUInt32 31)).toInt32 &&& (858993459 : Int32))).toInt = (t1 &&& (858993459 : Int32)).toInt + (((t1).toUInt32 >>> (((2 : Int32)).toUInt32 &&& Int32.toUInt32 31)).toInt32 &&& (858993459 : Int32)).toInt := i_add (by omega) (by omega)
    have f9 : t2.toInt = ((t1 &&& (858993459 : Int32)) + (((t1).toUInt32 >>> (((2 : Int32)).toUInt32 &&& Int32.toUInt32 31)).toInt32 &&& (858993459 : Int32))).toInt := by rw [et2]
    exact ⟨by omega, by omega⟩
  refine sf_lt (fun t3 et3 => ?_)
  have ft3 : (0 ≤ t3.toInt) ∧ (t3.toInt ≤ 252645135) := by
    have l_252645135 : (252645135 : Int32).toInt = 252645135 := by decide
    have e7_ : 0 ≤ ((t2 + ((t2).toUInt32 >>> (((4 : Int32)).toUInt32 &&& Int32.toUInt32 31)).toInt32) &&& (252645135 : Int32)).toInt ∧ ((t2 + ((t2).toUInt32 >>> (((4 : Int32)).toUInt32 &&& Int32.toUInt32 31)).toInt32) &&& (252645135 : Int32)).toInt ≤ (252645135 : Int32).toInt := i_and_r (by omega)
    have f9 : t3.toInt = ((t2 + ((t2).toUInt32 >>> (((4 : Int32)).toUInt32 &&& Int32.toUInt32 31)).toInt32) &&& (252645135 : Int32)).toInt := by rw [et3]
    exact ⟨by omega, by omega⟩
  refine sf_lt (fun t4 et4 => ?_)
  have zz8_l : -2147483648 ≤ t4.toInt := Int32.le_toInt t4
  have zz8_h : t4.toInt ≤ 2147483647 := Int32.toInt_le t4
  refine sf_lt (fun t5 et5 => ?_)
  have zz9_l : -2147483648 ≤ t5.toInt := Int32.le_toInt t5
  have zz9_h : t5.toInt ≤ 2147483647 := Int32.toInt_le t5
  have l_63 : (63 : Int32).toInt = 63 := by decide
  have e10_ : 0 ≤ (t5 &&& (63 : Int32)).toInt ∧ (t5 &&& (63 : Int32)).toInt ≤ (63 : Int32).toInt := i_and_r (by omega)
  exact sf_some (show (True) from trivial)
set_option maxRecDepth 20000 in
set_option maxHeartbeats 2000000 in
theorem sf_X1_stayOf {g : Nat → Int} (b0 : Nat) (hb0 : BrO b0) (a1 : Int32) (a2 : Int32) (w : Mem) (hI : Inv g w) : Sf (fun (q : Int32) => (True)) (f_X1_stayOf b0 a1 a2 w) := by
  have hbb_b0 : b0 = 112 ∨ b0 = 119 := hb0
  obtain ⟨hg0, hg1⟩ := hI.1
  unfold f_X1_stayOf
  have zz1_l : -2147483648 ≤ a1.toInt := Int32.le_toInt a1
  have zz1_h : a1.toInt ≤ 2147483647 := Int32.toInt_le a1
  refine sf_bind (sf_X1_hasTraveller b0 hb0 a1 w hI) (fun r1 hqr1 hpr1 => ?_)
  obtain ⟨hpr1_0, hpr1_1⟩ := hpr1
  have l_0 : (0 : Int32).toInt = 0 := by decide
  refine sf_ite (fun c2_ => ?_) (fun c2_ => ?_)
  · have rc2_ : r1.toInt = 0 := by rw [i_eq_iff] at c2_; omega
    exact sf_some (show (True) from trivial)
  · have rc2_ : ¬ r1.toInt = 0 := by rw [i_eq_iff] at c2_; omega
    have zz3_l : -2147483648 ≤ a2.toInt := Int32.le_toInt a2
    have zz3_h : a2.toInt ≤ 2147483647 := Int32.toInt_le a2
    refine sf_bind (sf_X1_hasMatter b0 hb0 a2 w hI) (fun r2 hqr2 hpr2 => ?_)
    obtain ⟨hpr2_0, hpr2_1⟩ := hpr2
    refine sf_ite (fun c4_ => ?_) (fun c4_ => ?_)
    · have rc4_ : r2.toInt = 0 := by rw [i_eq_iff] at c4_; omega
      exact sf_some (show (True) from trivial)
    · have rc4_ : ¬ r2.toInt = 0 := by rw [i_eq_iff] at c4_; omega
      refine sf_rd (by omega) (by omega) (fun x3 ex3 => ?_)
      have zz5_l : -2147483648 ≤ x3.toInt := Int32.le_toInt x3
      have zz5_h : x3.toInt ≤ 2147483647 := Int32.toInt_le x3
      refine sf_bind (sf_X9_holds x3 a2) (fun r4 hqr4 hpr4 => ?_)
      have hpr4_0 := hpr4
      refine sf_ite (fun c6_ => ?_) (fun c6_ => ?_)
      · have rc6_ : r4.toInt = 0 := by rw [i_eq_iff] at c6_; omega
        exact sf_some (show (True) from trivial)
      · have rc6_ : ¬ r4.toInt = 0 := by rw [i_eq_iff] at c6_; omega
        refine sf_rd (by omega) (by omega) (fun x5 ex5 => ?_)
        have zz7_l : -2147483648 ≤ x5.toInt := Int32.le_toInt x5
        have zz7_h : x5.toInt ≤ 2147483647 := Int32.toInt_le x5
        refine sf_ite (fun c8_ => ?_) (fun c8_ => ?_)
        · have rc8_ : x5.toInt = 0 := by rw [i_eq_iff] at c8_; omega
          refine sf_rd (by omega) (by omega) (fun x6 ex6 => ?_)
          refine sf_rd (by omega) (by omega) (fun x7 ex7 => ?_)
          have l_1 : (1 : Int32).toInt = 1 := by decide
          have zz9_l : -2147483648 ≤ x6.toInt := Int32.le_toInt x6
          have zz9_h : x6.toInt ≤ 2147483647 := Int32.toInt_le x6
          have zz10_l : -2147483648 ≤ x7.toInt := Int32.le_toInt x7
          have zz10_h : x7.toInt ≤ 2147483647 := Int32.toInt_le x7
          have e11_ : ((if (1 : Int32) < (x6 - x7) then (x6 - x7) else (1 : Int32)).toInt = (1 : Int32).toInt ∨ (if (1 : Int32) < (x6 - x7) then (x6 - x7) else (1 : Int32)).toInt = (x6 - x7).toInt) ∧ (if (1 : Int32) < (x6 - x7) then (x6 - x7) else (1 : Int32)).toInt ≥ (1 : Int32).toInt ∧ (if (1 : Int32) < (x6 - x7) then (x6 - x7) else (1 : Int32)).toInt ≥ (x6 - x7).toInt := i_max _ _
          exact sf_some (show (True) from trivial)
        · have rc8_ : ¬ x5.toInt = 0 := by rw [i_eq_iff] at c8_; omega
          have l_1 : (1 : Int32).toInt = 1 := by decide
          refine sf_ite (fun c12_ => ?_) (fun c12_ => ?_)
          · have rc12_ : x5.toInt = 1 := by rw [i_eq_iff] at c12_; omega
            refine sf_rd (by omega) (by omega) (fun x9 ex9 => ?_)
            have zz13_l : -2147483648 ≤ x9.toInt := Int32.le_toInt x9
            have zz13_h : x9.toInt ≤ 2147483647 := Int32.toInt_le x9
            exact sf_some (show (True) from trivial)
          · have rc12_ : ¬ x5.toInt = 1 := by rw [i_eq_iff] at c12_; omega
            have l_2 : (2 : Int32).toInt = 2 := by decide
            refine sf_ite (fun c14_ => ?_) (fun c14_ => ?_)
            · have rc14_ : x5.toInt = 2 := by rw [i_eq_iff] at c14_; omega
              refine sf_rd (by omega) (by omega) (fun x11 ex11 => ?_)
              refine sf_rd (by omega) (by omega) (fun x12 ex12 => ?_)
              have zz15_l : -2147483648 ≤ x11.toInt := Int32.le_toInt x11
              have zz15_h : x11.toInt ≤ 2147483647 := Int32.toInt_le x11
              have zz16_l : -2147483648 ≤ x12.toInt := Int32.le_toInt x12
              have zz16_h : x12.toInt ≤ 2147483647 := Int32.toInt_le x12
              have e17_ : ((if (0 : Int32) < ((x11 / (2 : Int32)) - x12) then ((x11 / (2 : Int32)) - x12) else (0 : Int32)).toInt = (0 : Int32).toInt ∨ (if (0 : Int32) < ((x11 / (2 : Int32)) - x12) then ((x11 / (2 : Int32)) - x12) else (0 : Int32)).toInt = ((x11 / (2 : Int32)) - x12).toInt) ∧ (if (0 : Int32) < ((x11 / (2 : Int32)) - x12) then ((x11 / (2 : Int32)) - x12) else (0 : Int32)).toInt ≥ (0 : Int32).toInt ∧ (if (0 : Int32) < ((x11 / (2 : Int32)) - x12) then ((x11 / (2 : Int32)) - x12) else (0 : Int32)).toInt ≥ ((x11 / (2 : Int32)) - x12).toInt := i_max _ _
              exact sf_some (show (True) from trivial)
            · have rc14_ : ¬ x5.toInt = 2 := by rw [i_eq_iff] at c14_; omega
              have l_3 : (3 : Int32).toInt = 3 := by decide
              refine sf_ite (fun c18_ => ?_) (fun c18_ => ?_)
              · have rc18_ : x5.toInt = 3 := by rw [i_eq_iff] at c18_; omega
                refine sf_rd (by omega) (by omega) (fun x14 ex14 => ?_)
                refine sf_rd (by omega) (by omega) (fun x15 ex15 => ?_)
                have zz19_l : -2147483648 ≤ x15.toInt := Int32.le_toInt x15
                have zz19_h : x15.toInt ≤ 2147483647 := Int32.toInt_le x15
                refine sf_bind (sf_J6_bitCount_0f7a4 x15) (fun r16 hqr16 hpr16 => ?_)
                have zz20_l : -2147483648 ≤ x14.toInt := Int32.le_toInt x14
                have zz20_h : x14.toInt ≤ 2147483647 := Int32.toInt_le x14
                have l_5 : (5 : Int32).toInt = 5 := by decide
                have zz21_l : -2147483648 ≤ r16.toInt := Int32.le_toInt r16
                have zz21_h : r16.toInt ≤ 2147483647 := Int32.toInt_le r16
                exact sf_some (show (True) from trivial)
              · have rc18_ : ¬ x5.toInt = 3 := by rw [i_eq_iff] at c18_; omega
                exact sf_some (show (True) from trivial)
set_option maxRecDepth 20000 in
set_option maxHeartbeats 2000000 in
theorem sf_X8_weigh {g : Nat → Int} (a1 : Int32) (a2 : Int32) (w : Mem) (hI : Inv g w) (pre0 : 0 ≤ a1.toInt) (pre1 : a1.toInt ≤ 255) : Sf (fun (q : Mem) => (Inv g q)) (f_X8_weigh a1 a2 w) := by
  obtain ⟨hg0, hg1⟩ := hI.1
  unfold f_X8_weigh
  have zz1_l : -2147483648 ≤ a2.toInt := Int32.le_toInt a2
  have zz1_h : a2.toInt ≤ 2147483647 := Int32.toInt_le a2
  have l_0 : (0 : Int32).toInt = 0 := by decide
  refine sf_ite (fun c2_ => ?_) (fun c2_ => ?_)
  · have rc2_ : a2.toInt = 0 := by rw [i_eq_iff] at c2_; omega
    exact sf_some (show (Inv g w) from hI)
  · have rc2_ : ¬ a2.toInt = 0 := by rw [i_eq_iff] at c2_; omega
    refine sf_rd (by omega) (by omega) (fun x1 ex1 => ?_)
    have zz3_l : -2147483648 ≤ x1.toInt := Int32.le_toInt x1
    have zz3_h : x1.toInt ≤ 2147483647 := Int32.toInt_le x1
    refine sf_ite (fun c4_ => ?_) (fun c4_ => ?_)
    · have rc4_ : x1.toInt = 0 := by rw [i_eq_iff] at c4_; omega
      exact sf_some (show (Inv g w) from hI)
    · have rc4_ : ¬ x1.toInt = 0 := by rw [i_eq_iff] at c4_; omega
      refine sf_rd (by omega) (by omega) (fun x2 ex2 => ?_)
      have zz5_l : -2147483648 ≤ x2.toInt := Int32.le_toInt x2
      have zz5_h : x2.toInt ≤ 2147483647 := Int32.toInt_le x2
      have zz6_l : -2147483648 ≤ (w 99 1).toInt := Int32.le_toInt (w 99 1)
      have zz6_h : (w 99 1).toInt ≤ 2147483647 := Int32.toInt_le (w 99 1)
      refine sf_ite (fun c7_ => ?_) (fun c7_ => ?_)
      · have rc7_ : x2.toInt < (w 99 1).toInt := by rw [Int32.lt_iff_toInt_lt] at c7_; omega
        exact sf_some (show (Inv g w) from hI)
      · have rc7_ : ¬ x2.toInt < (w 99 1).toInt := by rw [Int32.lt_iff_toInt_lt] at c7_; omega
        refine sf_bind (sf_J6_bitCount_0f7a4 a1) (fun r3 hqr3 hpr3 => ?_)
        refine sf_bind (sf_X9_leastOf a2) (fun r4 hqr4 hpr4 => ?_)
        refine sf_rd (by omega) (by omega) (fun x5 ex5 => ?_)
        have zz8_l : -2147483648 ≤ x5.toInt := Int32.le_toInt x5
        have zz8_h : x5.toInt ≤ 2147483647 := Int32.toInt_le x5
        refine sf_ite (fun c9_ => ?_) (fun c9_ => ?_)
        · have rc9_ : (w 99 1).toInt < x5.toInt := by rw [Int32.lt_iff_toInt_lt] at c9_; omega
          refine sf_rd (by omega) (by omega) (fun x6 ex6 => ?_)
          have zz10_l : -2147483648 ≤ x6.toInt := Int32.le_toInt x6
          have zz10_h : x6.toInt ≤ 2147483647 := Int32.toInt_le x6
          refine sf_pw (fun w7 ew7 => ?_)
          have hIw7 : Inv g w7 := by rw [ew7]; exact uq_99_1 hI
          have zz11_l : -2147483648 ≤ r4.toInt := Int32.le_toInt r4
          have zz11_h : r4.toInt ≤ 2147483647 := Int32.toInt_le r4
          refine sf_pw (fun w8 ew8 => ?_)
          have hIw8 : Inv g w8 := by rw [ew8]; exact uq_99_2 hIw7
          have zz12_l : -2147483648 ≤ r3.toInt := Int32.le_toInt r3
          have zz12_h : r3.toInt ≤ 2147483647 := Int32.toInt_le r3
          refine sf_pw (fun w9 ew9 => ?_)
          have hIw9 : Inv g w9 := by rw [ew9]; exact uq_99_3 hIw8
          exact sf_some (show (Inv g w9) from hIw9)
        · have rc9_ : ¬ (w 99 1).toInt < x5.toInt := by rw [Int32.lt_iff_toInt_lt] at c9_; omega
          have zz13_l : -2147483648 ≤ r3.toInt := Int32.le_toInt r3
          have zz13_h : r3.toInt ≤ 2147483647 := Int32.toInt_le r3
          have zz14_l : -2147483648 ≤ (w 99 3).toInt := Int32.le_toInt (w 99 3)
          have zz14_h : (w 99 3).toInt ≤ 2147483647 := Int32.toInt_le (w 99 3)
          refine sf_ite (fun c15_ => ?_) (fun c15_ => ?_)
          · have rc15_ : r3.toInt < (w 99 3).toInt := by rw [Int32.lt_iff_toInt_lt] at c15_; omega
            refine sf_rd (by omega) (by omega) (fun x10 ex10 => ?_)
            have zz16_l : -2147483648 ≤ x10.toInt := Int32.le_toInt x10
            have zz16_h : x10.toInt ≤ 2147483647 := Int32.toInt_le x10
            refine sf_pw (fun w11 ew11 => ?_)
            have hIw11 : Inv g w11 := by rw [ew11]; exact uq_99_1 hI
            have zz17_l : -2147483648 ≤ r4.toInt := Int32.le_toInt r4
            have zz17_h : r4.toInt ≤ 2147483647 := Int32.toInt_le r4
            refine sf_pw (fun w12 ew12 => ?_)
            have hIw12 : Inv g w12 := by rw [ew12]; exact uq_99_2 hIw11
            refine sf_pw (fun w13 ew13 => ?_)
            have hIw13 : Inv g w13 := by rw [ew13]; exact uq_99_3 hIw12
            exact sf_some (show (Inv g w13) from hIw13)
          · have rc15_ : ¬ r3.toInt < (w 99 3).toInt := by rw [Int32.lt_iff_toInt_lt] at c15_; omega
            refine sf_ite (fun c18_ => ?_) (fun c18_ => ?_)
            · have rc18_ : r3.toInt = (w 99 3).toInt := by rw [i_eq_iff] at c18_; omega
              have zz19_l : -2147483648 ≤ r4.toInt := Int32.le_toInt r4
              have zz19_h : r4.toInt ≤ 2147483647 := Int32.toInt_le r4
              have zz20_l : -2147483648 ≤ (w 99 2).toInt := Int32.le_toInt (w 99 2)
              have zz20_h : (w 99 2).toInt ≤ 2147483647 := Int32.toInt_le (w 99 2)
              refine sf_ite (fun c21_ => ?_) (fun c21_ => ?_)
              · have rc21_ : r4.toInt < (w 99 2).toInt := by rw [Int32.lt_iff_toInt_lt] at c21_; omega
                refine sf_rd (by omega) (by omega) (fun x14 ex14 => ?_)
                have zz22_l : -2147483648 ≤ x14.toInt := Int32.le_toInt x14
                have zz22_h : x14.toInt ≤ 2147483647 := Int32.toInt_le x14
                refine sf_pw (fun w15 ew15 => ?_)
                have hIw15 : Inv g w15 := by rw [ew15]; exact uq_99_1 hI
                refine sf_pw (fun w16 ew16 => ?_)
                have hIw16 : Inv g w16 := by rw [ew16]; exact uq_99_2 hIw15
                refine sf_pw (fun w17 ew17 => ?_)
                have hIw17 : Inv g w17 := by rw [ew17]; exact uq_99_3 hIw16
                exact sf_some (show (Inv g w17) from hIw17)
              · have rc21_ : ¬ r4.toInt < (w 99 2).toInt := by rw [Int32.lt_iff_toInt_lt] at c21_; omega
                exact sf_some (show (Inv g w) from hI)
            · have rc18_ : ¬ r3.toInt = (w 99 3).toInt := by rw [i_eq_iff] at c18_; omega
              exact sf_some (show (Inv g w) from hI)
set_option maxRecDepth 20000 in
set_option maxHeartbeats 2000000 in
theorem sf_X8_tryWith {g : Nat → Int} (b1 : Nat) (hb1 : BrO b1) (a2 : Int32) (a3 : Int32) (w : Mem) (hI : Inv g w) : Sf (fun (q : Mem) => (Inv g q)) (f_X8_tryWith b1 a2 a3 w) := by
  have hbb_b1 : b1 = 112 ∨ b1 = 119 := hb1
  obtain ⟨hg0, hg1⟩ := hI.1
  unfold f_X8_tryWith
  have l_0 : (0 : Int32).toInt = 0 := by decide
  refine sf_pw (fun w1 ew1 => ?_)
  have hIw1 : Inv g w1 := by rw [ew1]; exact uq_99_1 hI
  have l_m1 : (-1 : Int32).toInt = -1 := by decide
  refine sf_pw (fun w2 ew2 => ?_)
  have hIw2 : Inv g w2 := by rw [ew2]; exact uq_99_2 hIw1
  refine sf_pw (fun w3 ew3 => ?_)
  have hIw3 : Inv g w3 := by rw [ew3]; exact uq_99_3 hIw2
  have h1_ : 0 ≤ (w3 b1 2).toInt ∧ (w3 b1 2).toInt ≤ 8 := ivX1_2 hb1 hIw3
  have h2_ : 0 ≤ (w2 b1 2).toInt ∧ (w2 b1 2).toInt ≤ 8 := ivX1_2 hb1 hIw2
  have h3_ : 0 ≤ (w1 b1 2).toInt ∧ (w1 b1 2).toInt ≤ 8 := ivX1_2 hb1 hIw1
  have h4_ : 0 ≤ (w b1 2).toInt ∧ (w b1 2).toInt ≤ 8 := ivX1_2 hb1 hI
  have k5_ : (w1 b1 2).toInt = (w b1 2).toInt := by rw [ew1, wu_ne (by omega)]
  have k6_ : (w2 b1 2).toInt = (w1 b1 2).toInt := by rw [ew2, wu_ne (by omega)]
  have k7_ : (w3 b1 2).toInt = (w2 b1 2).toInt := by rw [ew3, wu_ne (by omega)]
  refine sf_bind (sf_X9_setOfFirst (w3 b1 2) (by omega) (by omega)) (fun r4 hqr4 hpr4 => ?_)
  obtain ⟨hpr4_0, hpr4_1⟩ := hpr4
  refine sf_bind (Q := fun (v12 : Mem) => (Inv g v12) ∧ ((v12 b1 2).toInt = (w3 b1 2).toInt)) ?_ (fun v12 hqv12 hvv12 => ?_)
  · have l_1 : (1 : Int32).toInt = 1 := by decide
    refine sf_lp (fun (s27 : (Int32 × Mem)) => (Inv g s27.2) ∧ (1 ≤ s27.1.toInt) ∧ (s27.1.toInt ≤ 256) ∧ ((s27.2 b1 2).toInt = (w3 b1 2).toInt)) (fun (s27 : (Int32 × Mem)) => (257 - s27.1.toInt).toNat) (fun s27 hss27 => ?_) _ _ (show (Inv g w3) ∧ (1 ≤ (1 : Int32).toInt) ∧ ((1 : Int32).toInt ≤ 256) ∧ ((w3 b1 2).toInt = (w3 b1 2).toInt) from ⟨hIw3, by omega, by omega, rfl⟩) (show (257 - (1 : Int32).toInt).toNat < 5000000000 from by omega)
    obtain ⟨hIs27, hss27_1, hss27_2, hss27_3⟩ := hss27
    refine (?_ : Sf (lpP _ _ (257 - s27.1.toInt).toNat _) _)
    have h8_ : 0 ≤ (s27.2 b1 2).toInt ∧ (s27.2 b1 2).toInt ≤ 8 := ivX1_2 hb1 hIs27
    refine sf_ite (fun c9_ => ?_) (fun c9_ => ?_)
    · have rc9_ : r4.toInt < s27.1.toInt := by rw [Int32.lt_iff_toInt_lt] at c9_; omega
      exact sf_some (show (Inv g s27.2) ∧ ((s27.2 b1 2).toInt = (w3 b1 2).toInt) from ⟨hIs27, by omega⟩)
    · have rc9_ : ¬ r4.toInt < s27.1.toInt := by rw [Int32.lt_iff_toInt_lt] at c9_; omega
      refine sf_bind (Q := fun (v5 : Mem) => (Inv g v5) ∧ ((v5 b1 2).toInt = (s27.2 b1 2).toInt)) ?_ (fun v5 hqv5 hvv5 => ?_)
      · have e10_ : 0 ≤ (s27.1 &&& (a3 ^^^ (-1 : Int32))).toInt ∧ (s27.1 &&& (a3 ^^^ (-1 : Int32))).toInt ≤ s27.1.toInt := i_and_l (by omega)
        refine sf_ite (fun c11_ => ?_) (fun c11_ => ?_)
        · have rc11_ : (s27.1 &&& (a3 ^^^ (-1 : Int32))).toInt = 0 := by rw [i_eq_iff] at c11_; omega
          have e12_ : (s27.1 - (1 : Int32)).toInt = s27.1.toInt - (1 : Int32).toInt := i_sub (by omega) (by omega)
          have e13_ : 0 ≤ (s27.1 &&& (s27.1 - (1 : Int32))).toInt ∧ (s27.1 &&& (s27.1 - (1 : Int32))).toInt ≤ s27.1.toInt := i_and_l (by omega)
          refine sf_rd (by omega) (by omega) (fun x6 ex6 => ?_)
          refine sf_bind (sf_X9_leastOf s27.1) (fun r7 hqr7 hpr7 => ?_)
          have zz14_l : -2147483648 ≤ a2.toInt := Int32.le_toInt a2
          have zz14_h : a2.toInt ≤ 2147483647 := Int32.toInt_le a2
          have zz15_l : -2147483648 ≤ r7.toInt := Int32.le_toInt r7
          have zz15_h : r7.toInt ≤ 2147483647 := Int32.toInt_le r7
          refine sf_bind (sf_X1_stayOf b1 hb1 a2 r7 s27.2 hIs27) (fun r8 hqr8 hpr8 => ?_)
          have zz16_l : -2147483648 ≤ x6.toInt := Int32.le_toInt x6
          have zz16_h : x6.toInt ≤ 2147483647 := Int32.toInt_le x6
          have zz17_l : -2147483648 ≤ r8.toInt := Int32.le_toInt r8
          have zz17_h : r8.toInt ≤ 2147483647 := Int32.toInt_le r8
          refine sf_wr (by omega) (by omega) (fun w9 ew9 => ?_)
          have n18_ : (s27.1.toNatClampNeg : Int) = s27.1.toInt := i_clq (by omega)
          have hIw9 : Inv g w9 := by rw [ew9]; exact ub_100 hIs27
          refine sf_rd (by omega) (by omega) (fun x10 ex10 => ?_)
          have zz19_l : -2147483648 ≤ x10.toInt := Int32.le_toInt x10
          have zz19_h : x10.toInt ≤ 2147483647 := Int32.toInt_le x10
          refine sf_bind (sf_X8_weigh s27.1 x10 w9 hIw9 (by omega) (by omega)) (fun w11 hqw11 hpw11 => ?_)
          have hIw11 := hpw11
          have h20_ : 0 ≤ (w11 b1 2).toInt ∧ (w11 b1 2).toInt ≤ 8 := ivX1_2 hb1 hIw11
          have h21_ : 0 ≤ (w9 b1 2).toInt ∧ (w9 b1 2).toInt ≤ 8 := ivX1_2 hb1 hIw9
          have k22_ : (w9 b1 2).toInt = (s27.2 b1 2).toInt := by rw [ew9, wu_ne (by omega)]
          have k23_ : (w11 b1 2).toInt = (w9 b1 2).toInt := congrArg Int32.toInt (fr_X8_weigh s27.1 x10 w9 w11 hqw11 b1 2 (by omega))
          exact sf_some (show (Inv g w11) ∧ ((w11 b1 2).toInt = (s27.2 b1 2).toInt) from ⟨hIw11, by omega⟩)
        · have rc11_ : ¬ (s27.1 &&& (a3 ^^^ (-1 : Int32))).toInt = 0 := by rw [i_eq_iff] at c11_; omega
          exact sf_some (show (Inv g s27.2) ∧ ((s27.2 b1 2).toInt = (s27.2 b1 2).toInt) from ⟨hIs27, rfl⟩)
      · obtain ⟨hIv5, hvv5_1⟩ := hvv5
        have h24_ : 0 ≤ (v5 b1 2).toInt ∧ (v5 b1 2).toInt ≤ 8 := ivX1_2 hb1 hIv5
        have e25_ : (s27.1 + (1 : Int32)).toInt = s27.1.toInt + (1 : Int32).toInt := i_add (by omega) (by omega)
        exact sf_some (show ((Inv g v5) ∧ (1 ≤ (s27.1 + (1 : Int32)).toInt) ∧ ((s27.1 + (1 : Int32)).toInt ≤ 256) ∧ ((v5 b1 2).toInt = (w3 b1 2).toInt)) ∧ (257 - (s27.1 + (1 : Int32)).toInt).toNat < (257 - s27.1.toInt).toNat from ⟨⟨hIv5, by omega, by omega, by omega⟩, by omega⟩)
  · obtain ⟨hIv12, hvv12_1⟩ := hvv12
    have h26_ : 0 ≤ (v12 b1 2).toInt ∧ (v12 b1 2).toInt ≤ 8 := ivX1_2 hb1 hIv12
    exact sf_some (show (Inv g v12) from hIv12)
set_option maxRecDepth 20000 in
set_option maxHeartbeats 2000000 in
theorem sf_X1_payFor {g : Nat → Int} (b0 : Nat) (hb0 : BrO b0) (a1 : Int32) (w : Mem) (hI : Inv g w) : Sf (fun (q : Int32) => (True)) (f_X1_payFor b0 a1 w) := by
  have hbb_b0 : b0 = 112 ∨ b0 = 119 := hb0
  obtain ⟨hg0, hg1⟩ := hI.1
  unfold f_X1_payFor
  have zz1_l : -2147483648 ≤ (w b0 0).toInt := Int32.le_toInt (w b0 0)
  have zz1_h : (w b0 0).toInt ≤ 2147483647 := Int32.toInt_le (w b0 0)
  have l_1 : (1 : Int32).toInt = 1 := by decide
  refine sf_ite (fun c2_ => ?_) (fun c2_ => ?_)
  · have rc2_ : (w b0 0).toInt < 1 := by rw [Int32.lt_iff_toInt_lt] at c2_; omega
    have l_0 : (0 : Int32).toInt = 0 := by decide
    exact sf_some (show (True) from trivial)
  · have rc2_ : ¬ (w b0 0).toInt < 1 := by rw [Int32.lt_iff_toInt_lt] at c2_; omega
    have l_0 : (0 : Int32).toInt = 0 := by decide
    refine sf_nz (by rw [i_eq_iff]; omega) ?_
    have zz3_l : -2147483648 ≤ a1.toInt := Int32.le_toInt a1
    have zz3_h : a1.toInt ≤ 2147483647 := Int32.toInt_le a1
    have zz4_l : -2147483648 ≤ (w b0 1).toInt := Int32.le_toInt (w b0 1)
    have zz4_h : (w b0 1).toInt ≤ 2147483647 := Int32.toInt_le (w b0 1)
    exact sf_some (show (True) from trivial)
