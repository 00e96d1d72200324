set_option maxRecDepth 20000 in
set_option maxHeartbeats 2000000 in
theorem sf_X7_add {g : Nat → Int} (a1 : Int32) (w : Mem) (hI : Inv g w) : Sf (fun (q : Int32 × Mem) => (Inv g q.2) ∧ (0 ≤ q.1.toInt ∧ q.1.toInt ≤ 1) ∧ ((q.1.toInt = 1 ∧ (w 1 1).toInt ≤ 239 ∧ (q.2 1 1).toInt = (w 1 1).toInt + 1) ∨ (q.1.toInt = 0 ∧ (w 1 1).toInt = 240 ∧ (q.2 1 1).toInt = (w 1 1).toInt))) (f_X7_add a1 w) := by
  obtain ⟨hg0, hg1⟩ := hI.1
  unfold f_X7_add
  have h1_ : 0 ≤ (w 1 1).toInt ∧ (w 1 1).toInt ≤ 240 := iv_1_1 hI
  have l_240 : (240 : Int32).toInt = 240 := by decide
  refine sf_ite (fun c2_ => ?_) (fun c2_ => ?_)
  · have rc2_ : (w 1 1).toInt < 240 := by rw [Int32.lt_iff_toInt_lt] at c2_; omega
    have zz3_l : -2147483648 ≤ a1.toInt := Int32.le_toInt a1
    have zz3_h : a1.toInt ≤ 2147483647 := Int32.toInt_le a1
    refine sf_wr (by omega) (by omega) (fun w1 ew1 => ?_)
    have n4_ : ((w 1 1).toNatClampNeg : Int) = (w 1 1).toInt := i_clq (by omega)
    have hIw1 : Inv g w1 := by rw [ew1]; exact ub_2 hI
    have h5_ : 0 ≤ (w1 1 1).toInt ∧ (w1 1 1).toInt ≤ 240 := iv_1_1 hIw1
    have k6_ : (w1 1 1).toInt = (w 1 1).toInt := by rw [ew1, wu_ne (by omega)]
    have l_1 : (1 : Int32).toInt = 1 := by decide
    have e7_ : ((w1 1 1) + (1 : Int32)).toInt = (w1 1 1).toInt + (1 : Int32).toInt := i_add (by omega) (by omega)
    refine sf_pw (fun w2 ew2 => ?_)
    have hIw2 : Inv g w2 := by rw [ew2]; exact up_1_1 hIw1 (show 0 ≤ ((w1 1 1) + (1 : Int32)).toInt ∧ ((w1 1 1) + (1 : Int32)).toInt ≤ 240 from by omega)
    have h8_ : 0 ≤ (w2 1 1).toInt ∧ (w2 1 1).toInt ≤ 240 := iv_1_1 hIw2
    have k9_ : (w2 1 1).toInt = ((w1 1 1) + (1 : Int32)).toInt := by rw [ew2, wu_at]
    exact sf_some (show (Inv g w2) ∧ (0 ≤ (1 : Int32).toInt ∧ (1 : Int32).toInt ≤ 1) ∧ (((1 : Int32).toInt = 1 ∧ (w 1 1).toInt ≤ 239 ∧ (w2 1 1).toInt = (w 1 1).toInt + 1) ∨ ((1 : Int32).toInt = 0 ∧ (w 1 1).toInt = 240 ∧ (w2 1 1).toInt = (w 1 1).toInt)) from ⟨hIw2, by omega, by omega⟩)
  · have rc2_ : ¬ (w 1 1).toInt < 240 := by rw [Int32.lt_iff_toInt_lt] at c2_; omega
    have l_0 : (0 : Int32).toInt = 0 := by decide
    exact sf_some (show (Inv g w) ∧ (0 ≤ (0 : Int32).toInt ∧ (0 : Int32).toInt ≤ 1) ∧ (((0 : Int32).toInt = 1 ∧ (w 1 1).toInt ≤ 239 ∧ (w 1 1).toInt = (w 1 1).toInt + 1) ∨ ((0 : Int32).toInt = 0 ∧ (w 1 1).toInt = 240 ∧ (w 1 1).toInt = (w 1 1).toInt)) from ⟨hI, by omega, by omega⟩)
set_option maxRecDepth 20000 in
set_option maxHeartbeats 2000000 in
theorem sf_X9_feed {g : Nat → Int} (a1 : Int32) (w : Mem) (hI : Inv g w) : Sf (fun (q : Int32 × Mem) => (Inv g q.2) ∧ (((a1.toInt < 0 ∨ 255 < a1.toInt) ∧ q.1.toInt = -1000000002 ∧ (q.2 1 1).toInt = (w 1 1).toInt) ∨ (0 ≤ a1.toInt ∧ a1.toInt ≤ 255 ∧ (w 1 1).toInt ≤ 239 ∧ q.1.toInt = (w 1 1).toInt + 1 ∧ (q.2 1 1).toInt = (w 1 1).toInt + 1) ∨ (0 ≤ a1.toInt ∧ a1.toInt ≤ 255 ∧ (w 1 1).toInt = 240 ∧ q.1.toInt = -1000000004 ∧ (q.2 1 1).toInt = (w 1 1).toInt))) (f_X9_feed a1 w) := by
  obtain ⟨hg0, hg1⟩ := hI.1
  unfold f_X9_feed
  have zz1_l : -2147483648 ≤ a1.toInt := Int32.le_toInt a1
  have zz1_h : a1.toInt ≤ 2147483647 := Int32.toInt_le a1
  have l_0 : (0 : Int32).toInt = 0 := by decide
  refine sf_ite (fun c2_ => ?_) (fun c2_ => ?_)
  · have rc2_ : a1.toInt < 0 := by rw [Int32.lt_iff_toInt_lt] at c2_; omega
    have l_m1000000002 : (-1000000002 : Int32).toInt = -1000000002 := by decide
    have h3_ : 0 ≤ (w 1 1).toInt ∧ (w 1 1).toInt ≤ 240 := iv_1_1 hI
    exact sf_some (show (Inv g w) ∧ (((a1.toInt < 0 ∨ 255 < a1.toInt) ∧ (-1000000002 : Int32).toInt = -1000000002 ∧ (w 1 1).toInt = (w 1 1).toInt) ∨ (0 ≤ a1.toInt ∧ a1.toInt ≤ 255 ∧ (w 1 1).toInt ≤ 239 ∧ (-1000000002 : Int32).toInt = (w 1 1).toInt + 1 ∧ (w 1 1).toInt = (w 1 1).toInt + 1) ∨ (0 ≤ a1.toInt ∧ a1.toInt ≤ 255 ∧ (w 1 1).toInt = 240 ∧ (-1000000002 : Int32).toInt = -1000000004 ∧ (w 1 1).toInt = (w 1 1).toInt)) from ⟨hI, by omega⟩)
  · have rc2_ : ¬ a1.toInt < 0 := by rw [Int32.lt_iff_toInt_lt] at c2_; omega
    have l_255 : (255 : Int32).toInt = 255 := by decide
    refine sf_ite (fun c4_ => ?_) (fun c4_ => ?_)
    · have rc4_ : 255 < a1.toInt := by rw [Int32.lt_iff_toInt_lt] at c4_; omega
      have l_m1000000002 : (-1000000002 : Int32).toInt = -1000000002 := by decide
      have h5_ : 0 ≤ (w 1 1).toInt ∧ (w 1 1).toInt ≤ 240 := iv_1_1 hI
      exact sf_some (show (Inv g w) ∧ (((a1.toInt < 0 ∨ 255 < a1.toInt) ∧ (-1000000002 : Int32).toInt = -1000000002 ∧ (w 1 1).toInt = (w 1 1).toInt) ∨ (0 ≤ a1.toInt ∧ a1.toInt ≤ 255 ∧ (w 1 1).toInt ≤ 239 ∧ (-1000000002 : Int32).toInt = (w 1 1).toInt + 1 ∧ (w 1 1).toInt = (w 1 1).toInt + 1) ∨ (0 ≤ a1.toInt ∧ a1.toInt ≤ 255 ∧ (w 1 1).toInt = 240 ∧ (-1000000002 : Int32).toInt = -1000000004 ∧ (w 1 1).toInt = (w 1 1).toInt)) from ⟨hI, by omega⟩)
    · have rc4_ : ¬ 255 < a1.toInt := by rw [Int32.lt_iff_toInt_lt] at c4_; omega
      refine sf_bind (sf_X7_add a1 w hI) (fun q1 hqq1 hpq1 => ?_)
      obtain ⟨hIq1, hpq1_0, hpq1_1⟩ := hpq1
      have h6_ : 0 ≤ (w 1 1).toInt ∧ (w 1 1).toInt ≤ 240 := iv_1_1 hI
      have h7_ : 0 ≤ (q1.2 1 1).toInt ∧ (q1.2 1 1).toInt ≤ 240 := iv_1_1 hIq1
      refine sf_ite (fun c8_ => ?_) (fun c8_ => ?_)
      · have rc8_ : q1.1.toInt = 0 := by rw [i_eq_iff] at c8_; omega
        have l_m1000000004 : (-1000000004 : Int32).toInt = -1000000004 := by decide
        exact sf_some (show (Inv g q1.2) ∧ (((a1.toInt < 0 ∨ 255 < a1.toInt) ∧ (-1000000004 : Int32).toInt = -1000000002 ∧ (q1.2 1 1).toInt = (w 1 1).toInt) ∨ (0 ≤ a1.toInt ∧ a1.toInt ≤ 255 ∧ (w 1 1).toInt ≤ 239 ∧ (-1000000004 : Int32).toInt = (w 1 1).toInt + 1 ∧ (q1.2 1 1).toInt = (w 1 1).toInt + 1) ∨ (0 ≤ a1.toInt ∧ a1.toInt ≤ 255 ∧ (w 1 1).toInt = 240 ∧ (-1000000004 : Int32).toInt = -1000000004 ∧ (q1.2 1 1).toInt = (w 1 1).toInt)) from ⟨hIq1, by omega⟩)
      · have rc8_ : ¬ q1.1.toInt = 0 := by rw [i_eq_iff] at c8_; omega
        exact sf_some (show (Inv g q1.2) ∧ (((a1.toInt < 0 ∨ 255 < a1.toInt) ∧ (q1.2 1 1).toInt = -1000000002 ∧ (q1.2 1 1).toInt = (w 1 1).toInt) ∨ (0 ≤ a1.toInt ∧ a1.toInt ≤ 255 ∧ (w 1 1).toInt ≤ 239 ∧ (q1.2 1 1).toInt = (w 1 1).toInt + 1 ∧ (q1.2 1 1).toInt = (w 1 1).toInt + 1) ∨ (0 ≤ a1.toInt ∧ a1.toInt ≤ 255 ∧ (w 1 1).toInt = 240 ∧ (q1.2 1 1).toInt = -1000000004 ∧ (q1.2 1 1).toInt = (w 1 1).toInt)) from ⟨hIq1, by omega⟩)
set_option maxRecDepth 20000 in
set_option maxHeartbeats 2000000 in
theorem sf_X1_clear {g : Nat → Int} (b0 : Nat) (hb0 : BrO b0) (w : Mem) (hI : Inv g w) : Sf (fun (q : Mem) => (Inv g q)) (f_X1_clear b0 w) := by
  have hbb_b0 : b0 = 112 ∨ b0 = 119 := hb0
  obtain ⟨hg0, hg1⟩ := hI.1
  unfold f_X1_clear
  have l_0 : (0 : Int32).toInt = 0 := by decide
  refine sf_pw (fun w1 ew1 => ?_)
  have hIw1 : Inv g w1 := by rw [ew1]; exact uqX1_0 hb0 hI
  refine sf_pw (fun w2 ew2 => ?_)
  have hIw2 : Inv g w2 := by rw [ew2]; exact uqX1_1 hb0 hIw1
  refine sf_pw (fun w3 ew3 => ?_)
  have hIw3 : Inv g w3 := by rw [ew3]; exact upX1_2 hb0 hIw2 (show 0 ≤ (0 : Int32).toInt ∧ (0 : Int32).toInt ≤ 8 from by omega)
  refine sf_pw (fun w4 ew4 => ?_)
  have hIw4 : Inv g w4 := by rw [ew4]; exact upX1_3 hb0 hIw3 (show 0 ≤ (0 : Int32).toInt ∧ (0 : Int32).toInt ≤ 6 from by omega)
  exact sf_some (show (Inv g w4) from hIw4)
set_option maxRecDepth 20000 in
set_option maxHeartbeats 2000000 in
theorem sf_X7_nextLetter {g : Nat → Int} (w : Mem) (hI : Inv g w) : Sf (fun (q : Int32) => (True)) (f_X7_nextLetter w) := by
  obtain ⟨hg0, hg1⟩ := hI.1
  unfold f_X7_nextLetter
  have zz1_l : -2147483648 ≤ (w 1 2).toInt := Int32.le_toInt (w 1 2)
  have zz1_h : (w 1 2).toInt ≤ 2147483647 := Int32.toInt_le (w 1 2)
  have l_0 : (0 : Int32).toInt = 0 := by decide
  refine sf_ite (fun c2_ => ?_) (fun c2_ => ?_)
  · have rc2_ : (w 1 2).toInt < 0 := by rw [Int32.lt_iff_toInt_lt] at c2_; omega
    have l_m1 : (-1 : Int32).toInt = -1 := by decide
    exact sf_some (show (True) from trivial)
  · have rc2_ : ¬ (w 1 2).toInt < 0 := by rw [Int32.lt_iff_toInt_lt] at c2_; omega
    have h3_ : 0 ≤ (w 1 1).toInt ∧ (w 1 1).toInt ≤ 240 := iv_1_1 hI
    refine sf_ite (fun c4_ => ?_) (fun c4_ => ?_)
    · have rc4_ : (w 1 2).toInt < (w 1 1).toInt := by rw [Int32.lt_iff_toInt_lt] at c4_; omega
      have l_240 : (240 : Int32).toInt = 240 := by decide
      refine sf_ite (fun c5_ => ?_) (fun c5_ => ?_)
      · have rc5_ : (w 1 2).toInt < 240 := by rw [Int32.lt_iff_toInt_lt] at c5_; omega
        refine sf_rd (by omega) (by omega) (fun x1 ex1 => ?_)
        have zz6_l : -2147483648 ≤ x1.toInt := Int32.le_toInt x1
        have zz6_h : x1.toInt ≤ 2147483647 := Int32.toInt_le x1
        exact sf_some (show (True) from trivial)
      · have rc5_ : ¬ (w 1 2).toInt < 240 := by rw [Int32.lt_iff_toInt_lt] at c5_; omega
        exfalso; omega
    · have rc4_ : ¬ (w 1 2).toInt < (w 1 1).toInt := by rw [Int32.lt_iff_toInt_lt] at c4_; omega
      have l_m1 : (-1 : Int32).toInt = -1 := by decide
      exact sf_some (show (True) from trivial)
set_option maxRecDepth 20000 in
set_option maxHeartbeats 2000000 in
theorem sf_X7_skipBlanks {g : Nat → Int} (w : Mem) (hI : Inv g w) : Sf (fun (q : Mem) => (Inv g q)) (f_X7_skipBlanks w) := by
  obtain ⟨hg0, hg1⟩ := hI.1
  unfold f_X7_skipBlanks
  refine sf_bind (Q := fun (v3 : Mem) => (Inv g v3) ∧ ((v3 1 1).toInt = (w 1 1).toInt)) ?_ (fun v3 hqv3 hvv3 => ?_)
  · have h1_ : 0 ≤ (w 1 1).toInt ∧ (w 1 1).toInt ≤ 240 := iv_1_1 hI
    have zz2_l : -2147483648 ≤ (w 1 2).toInt := Int32.le_toInt (w 1 2)
    have zz2_h : (w 1 2).toInt ≤ 2147483647 := Int32.toInt_le (w 1 2)
    refine sf_lp (fun (s0 : Mem) => (Inv g s0) ∧ ((s0 1 1).toInt = (w 1 1).toInt)) (fun (s0 : Mem) => (241 - (s0 1 2).toInt).toNat) (fun s0 hss0 => ?_) _ _ (show (Inv g w) ∧ ((w 1 1).toInt = (w 1 1).toInt) from ⟨hI, rfl⟩) (show (241 - (w 1 2).toInt).toNat < 5000000000 from by omega)
    obtain ⟨hIs0, hss0_1⟩ := hss0
    refine (?_ : Sf (lpP _ _ (241 - (s0 1 2).toInt).toNat _) _)
    have h3_ : 0 ≤ (s0 1 1).toInt ∧ (s0 1 1).toInt ≤ 240 := iv_1_1 hIs0
    have zz4_l : -2147483648 ≤ (s0 1 2).toInt := Int32.le_toInt (s0 1 2)
    have zz4_h : (s0 1 2).toInt ≤ 2147483647 := Int32.toInt_le (s0 1 2)
    refine sf_ite (fun c5_ => ?_) (fun c5_ => ?_)
    · have rc5_ : (s0 1 2).toInt < (s0 1 1).toInt := by rw [Int32.lt_iff_toInt_lt] at c5_; omega
      refine sf_bind (sf_X7_nextLetter  s0 hIs0) (fun r1 hqr1 hpr1 => ?_)
      have zz6_l : -2147483648 ≤ r1.toInt := Int32.le_toInt r1
      have zz6_h : r1.toInt ≤ 2147483647 := Int32.toInt_le r1
      have l_32 : (32 : Int32).toInt = 32 := by decide
      refine sf_ite (fun c7_ => ?_) (fun c7_ => ?_)
      · have rc7_ : r1.toInt = 32 := by rw [i_eq_iff] at c7_; omega
        have l_1 : (1 : Int32).toInt = 1 := by decide
        have e8_ : ((s0 1 2) + (1 : Int32)).toInt = (s0 1 2).toInt + (1 : Int32).toInt := i_add (by omega) (by omega)
        refine sf_pw (fun w2 ew2 => ?_)
        have hIw2 : Inv g w2 := by rw [ew2]; exact uq_1_2 hIs0
        have h9_ : 0 ≤ (w2 1 1).toInt ∧ (w2 1 1).toInt ≤ 240 := iv_1_1 hIw2
        have k10_ : (w2 1 1).toInt = (s0 1 1).toInt := by rw [ew2, wu_ne (by omega)]
        have k11_ : (w2 1 2).toInt = ((s0 1 2) + (1 : Int32)).toInt := by rw [ew2, wu_at]
        exact sf_some (show ((Inv g w2) ∧ ((w2 1 1).toInt = (w 1 1).toInt)) ∧ (241 - (w2 1 2).toInt).toNat < (241 - (s0 1 2).toInt).toNat from ⟨⟨hIw2, by omega⟩, by omega⟩)
      · have rc7_ : ¬ r1.toInt = 32 := by rw [i_eq_iff] at c7_; omega
        exact sf_some (show (Inv g s0) ∧ ((s0 1 1).toInt = (w 1 1).toInt) from ⟨hIs0, by omega⟩)
    · have rc5_ : ¬ (s0 1 2).toInt < (s0 1 1).toInt := by rw [Int32.lt_iff_toInt_lt] at c5_; omega
      exact sf_some (show (Inv g s0) ∧ ((s0 1 1).toInt = (w 1 1).toInt) from ⟨hIs0, by omega⟩)
  · obtain ⟨hIv3, hvv3_1⟩ := hvv3
    have h12_ : 0 ≤ (w 1 1).toInt ∧ (w 1 1).toInt ≤ 240 := iv_1_1 hI
    have h13_ : 0 ≤ (v3 1 1).toInt ∧ (v3 1 1).toInt ≤ 240 := iv_1_1 hIv3
    exact sf_some (show (Inv g v3) from hIv3)
set_option maxRecDepth 20000 in
set_option maxHeartbeats 2000000 in
theorem sf_X1_isThere {g : Nat → Int} (b0 : Nat) (hb0 : BrO b0) (w : Mem) (hI : Inv g w) : Sf (fun (q : Int32) => (0 ≤ q.toInt ∧ q.toInt ≤ 1)) (f_X1_isThere b0 w) := by
  have hbb_b0 : b0 = 112 ∨ b0 = 119 := hb0
  obtain ⟨hg0, hg1⟩ := hI.1
  unfold f_X1_isThere
  have l_0 : (0 : Int32).toInt = 0 := by decide
  have zz1_l : -2147483648 ≤ (w b0 0).toInt := Int32.le_toInt (w b0 0)
  have zz1_h : (w b0 0).toInt ≤ 2147483647 := Int32.toInt_le (w b0 0)
  refine sf_ite (fun c2_ => ?_) (fun c2_ => ?_)
  · have rc2_ : 0 < (w b0 0).toInt := by rw [Int32.lt_iff_toInt_lt] at c2_; omega
    have l_1 : (1 : Int32).toInt = 1 := by decide
    exact sf_some (show (0 ≤ (1 : Int32).toInt ∧ (1 : Int32).toInt ≤ 1) from by omega)
  · have rc2_ : ¬ 0 < (w b0 0).toInt := by rw [Int32.lt_iff_toInt_lt] at c2_; omega
    exact sf_some (show (0 ≤ (0 : Int32).toInt ∧ (0 : Int32).toInt ≤ 1) from by omega)
set_option maxRecDepth 20000 in
set_option maxHeartbeats 2000000 in
theorem sf_X7_faultOfWord {g : Nat → Int} (b0 : Nat) (hb0 : BrO b0) (a1 : Int32) (w : Mem) (hI : Inv g w) : Sf (fun (q : Int32) => (True)) (f_X7_faultOfWord b0 a1 w) := by
  have hbb_b0 : b0 = 112 ∨ b0 = 119 := hb0
  obtain ⟨hg0, hg1⟩ := hI.1
  unfold f_X7_faultOfWord
  have zz1_l : -2147483648 ≤ a1.toInt := Int32.le_toInt a1
  have zz1_h : a1.toInt ≤ 2147483647 := Int32.toInt_le a1
  have l_107 : (107 : Int32).toInt = 107 := by decide
  refine sf_ite (fun c2_ => ?_) (fun c2_ => ?_)
  · have rc2_ : a1.toInt = 107 := by rw [i_eq_iff] at c2_; omega
    refine sf_bind (sf_X1_isThere b0 hb0 w hI) (fun r2 hqr2 hpr2 => ?_)
    have hpr2_0 := hpr2
    have l_0 : (0 : Int32).toInt = 0 := by decide
    refine sf_ite (fun c3_ => ?_) (fun c3_ => ?_)
    · have rc3_ : r2.toInt = 0 := by rw [i_eq_iff] at c3_; omega
      exact sf_some (show (True) from trivial)
    · have rc3_ : ¬ r2.toInt = 0 := by rw [i_eq_iff] at c3_; omega
      have l_3 : (3 : Int32).toInt = 3 := by decide
      exact sf_some (show (True) from trivial)
  · have rc2_ : ¬ a1.toInt = 107 := by rw [i_eq_iff] at c2_; omega
    refine sf_bind (sf_X1_isThere b0 hb0 w hI) (fun r1 hqr1 hpr1 => ?_)
    have hpr1_0 := hpr1
    have l_0 : (0 : Int32).toInt = 0 := by decide
    refine sf_ite (fun c4_ => ?_) (fun c4_ => ?_)
    · have rc4_ : r1.toInt = 0 := by rw [i_eq_iff] at c4_; omega
      have l_1 : (1 : Int32).toInt = 1 := by decide
      exact sf_some (show (True) from trivial)
    · have rc4_ : ¬ r1.toInt = 0 := by rw [i_eq_iff] at c4_; omega
      have l_109 : (109 : Int32).toInt = 109 := by decide
      refine sf_ite (fun c5_ => ?_) (fun c5_ => ?_)
      · have rc5_ : a1.toInt = 109 := by rw [i_eq_iff] at c5_; omega
        have h6_ : 0 ≤ (w b0 2).toInt ∧ (w b0 2).toInt ≤ 8 := ivX1_2 hb0 hI
        have l_8 : (8 : Int32).toInt = 8 := by decide
        refine sf_ite (fun c7_ => ?_) (fun c7_ => ?_)
        · have rc7_ : (w b0 2).toInt < 8 := by rw [Int32.lt_iff_toInt_lt] at c7_; omega
          exact sf_some (show (True) from trivial)
        · have rc7_ : ¬ (w b0 2).toInt < 8 := by rw [Int32.lt_iff_toInt_lt] at c7_; omega
          have l_3 : (3 : Int32).toInt = 3 := by decide
          exact sf_some (show (True) from trivial)
      · have rc5_ : ¬ a1.toInt = 109 := by rw [i_eq_iff] at c5_; omega
        have l_116 : (116 : Int32).toInt = 116 := by decide
        refine sf_ite (fun c8_ => ?_) (fun c8_ => ?_)
        · have rc8_ : a1.toInt = 116 := by rw [i_eq_iff] at c8_; omega
          have h9_ : 0 ≤ (w b0 3).toInt ∧ (w b0 3).toInt ≤ 6 := ivX1_3 hb0 hI
          have l_6 : (6 : Int32).toInt = 6 := by decide
          refine sf_ite (fun c10_ => ?_) (fun c10_ => ?_)
          · have rc10_ : (w b0 3).toInt < 6 := by rw [Int32.lt_iff_toInt_lt] at c10_; omega
            exact sf_some (show (True) from trivial)
          · have rc10_ : ¬ (w b0 3).toInt < 6 := by rw [Int32.lt_iff_toInt_lt] at c10_; omega
            have l_3 : (3 : Int32).toInt = 3 := by decide
            exact sf_some (show (True) from trivial)
        · have rc8_ : ¬ a1.toInt = 116 := by rw [i_eq_iff] at c8_; omega
          have l_1 : (1 : Int32).toInt = 1 := by decide
          exact sf_some (show (True) from trivial)
set_option maxRecDepth 20000 in
set_option maxHeartbeats 2000000 in
theorem sf_X7_isFigure (a0 : Int32) : Sf (fun (q : Int32) => (0 ≤ q.toInt ∧ q.toInt ≤ 1)) (f_X7_isFigure a0) := by
  unfold f_X7_isFigure
  have zz1_l : -2147483648 ≤ a0.toInt := Int32.le_toInt a0
  have zz1_h : a0.toInt ≤ 2147483647 := Int32.toInt_le a0
  have l_48 : (48 : Int32).toInt = 48 := by decide
  refine sf_ite (fun c2_ => ?_) (fun c2_ => ?_)
  · have rc2_ : a0.toInt < 48 := by rw [Int32.lt_iff_toInt_lt] at c2_; omega
    have l_0 : (0 : Int32).toInt = 0 := by decide
    exact sf_some (show (0 ≤ (0 : Int32).toInt ∧ (0 : Int32).toInt ≤ 1) from by omega)
  · have rc2_ : ¬ a0.toInt < 48 := by rw [Int32.lt_iff_toInt_lt] at c2_; omega
    have l_57 : (57 : Int32).toInt = 57 := by decide
    refine sf_ite (fun c3_ => ?_) (fun c3_ => ?_)
    · have rc3_ : 57 < a0.toInt := by rw [Int32.lt_iff_toInt_lt] at c3_; omega
      have l_0 : (0 : Int32).toInt = 0 := by decide
      exact sf_some (show (0 ≤ (0 : Int32).toInt ∧ (0 : Int32).toInt ≤ 1) from by omega)
    · have rc3_ : ¬ 57 < a0.toInt := by rw [Int32.lt_iff_toInt_lt] at c3_; omega
      have l_1 : (1 : Int32).toInt = 1 := by decide
      exact sf_some (show (0 ≤ (1 : Int32).toInt ∧ (1 : Int32).toInt ≤ 1) from by omega)
set_option maxRecDepth 20000 in
set_option maxHeartbeats 2000000 in
theorem sf_X7_note {g : Nat → Int} (a1 : Int32) (a2 : Int32) (w : Mem) (hI : Inv g w) : Sf (fun (q : Mem) => (Inv g q)) (f_X7_note a1 a2 w) := by
  obtain ⟨hg0, hg1⟩ := hI.1
  unfold f_X7_note
  have zz1_l : -2147483648 ≤ (w 1 3).toInt := Int32.le_toInt (w 1 3)
  have zz1_h : (w 1 3).toInt ≤ 2147483647 := Int32.toInt_le (w 1 3)
  have l_0 : (0 : Int32).toInt = 0 := by decide
  refine sf_ite (fun c2_ => ?_) (fun c2_ => ?_)
  · have rc2_ : (w 1 3).toInt = 0 := by rw [i_eq_iff] at c2_; omega
    have zz3_l : -2147483648 ≤ a1.toInt := Int32.le_toInt a1
    have zz3_h : a1.toInt ≤ 2147483647 := Int32.toInt_le a1
    refine sf_pw (fun w1 ew1 => ?_)
    have hIw1 : Inv g w1 := by rw [ew1]; exact uq_1_3 hI
    have zz4_l : -2147483648 ≤ a2.toInt := Int32.le_toInt a2
    have zz4_h : a2.toInt ≤ 2147483647 := Int32.toInt_le a2
    refine sf_pw (fun w2 ew2 => ?_)
    have hIw2 : Inv g w2 := by rw [ew2]; exact uq_1_4 hIw1
    exact sf_some (show (Inv g w2) from hIw2)
  · have rc2_ : ¬ (w 1 3).toInt = 0 := by rw [i_eq_iff] at c2_; omega
    exact sf_some (show (Inv g w) from hI)
set_option maxRecDepth 20000 in
set_option maxHeartbeats 2000000 in
theorem sf_X7_readNumber {g : Nat → Int} (a1 : Int32) (a2 : Int32) (w : Mem) (hI : Inv g w) : Sf (fun (q : Int32 × Mem) => (Inv g q.2)) (f_X7_readNumber a1 a2 w) := by
  obtain ⟨hg0, hg1⟩ := hI.1
  have zz1_l : -2147483648 ≤ a1.toInt := Int32.le_toInt a1
  have zz1_h : a1.toInt ≤ 2147483647 := Int32.toInt_le a1
  have zz2_l : -2147483648 ≤ a2.toInt := Int32.le_toInt a2
  have zz2_h : a2.toInt ≤ 2147483647 := Int32.toInt_le a2
  unfold f_X7_readNumber
  refine sf_bind (sf_X7_skipBlanks  w hI) (fun w1 hqw1 hpw1 => ?_)
  have hIw1 := hpw1
  refine sf_bind (Q := fun (v8 : (Int32 × Mem)) => (Inv g v8.2) ∧ ((v8.2 1 1).toInt = (w1 1 1).toInt)) ?_ (fun v8 hqv8 hvv8 => ?_)
  · have l_0 : (0 : Int32).toInt = 0 := by decide
    have h3_ : 0 ≤ (w1 1 1).toInt ∧ (w1 1 1).toInt ≤ 240 := iv_1_1 hIw1
    have h4_ : 0 ≤ (w 1 1).toInt ∧ (w 1 1).toInt ≤ 240 := iv_1_1 hI
    have k5_ : (w1 1 1).toInt = (w 1 1).toInt := congrArg Int32.toInt (fr_X7_skipBlanks  w w1 hqw1 1 1 (by omega))
    have zz6_l : -2147483648 ≤ (w1 1 2).toInt := Int32.le_toInt (w1 1 2)
    have zz6_h : (w1 1 2).toInt ≤ 2147483647 := Int32.toInt_le (w1 1 2)
    refine sf_lp (fun (s12 : (Int32 × Mem)) => (Inv g s12.2) ∧ ((s12.2 1 1).toInt = (w1 1 1).toInt)) (fun (s12 : (Int32 × Mem)) => (241 - (s12.2 1 2).toInt).toNat) (fun s12 hss12 => ?_) _ _ (show (Inv g w1) ∧ ((w1 1 1).toInt = (w1 1 1).toInt) from ⟨hIw1, rfl⟩) (show (241 - (w1 1 2).toInt).toNat < 5000000000 from by omega)
    obtain ⟨hIs12, hss12_1⟩ := hss12
    refine (?_ : Sf (lpP _ _ (241 - (s12.2 1 2).toInt).toNat _) _)
    have h7_ : 0 ≤ (s12.2 1 1).toInt ∧ (s12.2 1 1).toInt ≤ 240 := iv_1_1 hIs12
    have zz8_l : -2147483648 ≤ (s12.2 1 2).toInt := Int32.le_toInt (s12.2 1 2)
    have zz8_h : (s12.2 1 2).toInt ≤ 2147483647 := Int32.toInt_le (s12.2 1 2)
    refine sf_ite (fun c9_ => ?_) (fun c9_ => ?_)
    · have rc9_ : (s12.2 1 2).toInt < (s12.2 1 1).toInt := by rw [Int32.lt_iff_toInt_lt] at c9_; omega
      refine sf_bind (sf_X7_nextLetter  s12.2 hIs12) (fun r2 hqr2 hpr2 => ?_)
      have zz10_l : -2147483648 ≤ r2.toInt := Int32.le_toInt r2
      have zz10_h : r2.toInt ≤ 2147483647 := Int32.toInt_le r2
      refine sf_bind (sf_X7_isFigure r2) (fun r3 hqr3 hpr3 => ?_)
      have hpr3_0 := hpr3
      refine sf_ite (fun c11_ => ?_) (fun c11_ => ?_)
      · have rc11_ : r3.toInt = 0 := by rw [i_eq_iff] at c11_; omega
        have zz12_l : -2147483648 ≤ s12.1.toInt := Int32.le_toInt s12.1
        have zz12_h : s12.1.toInt ≤ 2147483647 := Int32.toInt_le s12.1
        exact sf_some (show (Inv g s12.2) ∧ ((s12.2 1 1).toInt = (w1 1 1).toInt) from ⟨hIs12, by omega⟩)
      · have rc11_ : ¬ r3.toInt = 0 := by rw [i_eq_iff] at c11_; omega
        refine sf_bind (Q := fun (v4 : Int32) => (True)) ?_ (fun v4 hqv4 hvv4 => ?_)
        · have l_3 : (3 : Int32).toInt = 3 := by decide
          refine sf_ite (fun c13_ => ?_) (fun c13_ => ?_)
          · have rc13_ : ((s12.2 1 2) - (w1 1 2)).toInt < 3 := by rw [Int32.lt_iff_toInt_lt] at c13_; omega
            refine sf_bind (sf_X7_nextLetter  s12.2 hIs12) (fun r6 hqr6 hpr6 => ?_)
            refine sf_lt (fun t7 et7 => ?_)
            have zz16_l : -2147483648 ≤ t7.toInt := Int32.le_toInt t7
            have zz16_h : t7.toInt ≤ 2147483647 := Int32.toInt_le t7
            exact sf_some (show (True) from trivial)
          · have rc13_ : ¬ ((s12.2 1 2) - (w1 1 2)).toInt < 3 := by rw [Int32.lt_iff_toInt_lt] at c13_; omega
            have zz17_l : -2147483648 ≤ s12.1.toInt := Int32.le_toInt s12.1
            have zz17_h : s12.1.toInt ≤ 2147483647 := Int32.toInt_le s12.1
            exact sf_some (show (True) from trivial)
        · have hvv4_0 := hvv4
          have l_1 : (1 : Int32).toInt = 1 := by decide
          have e18_ : ((s12.2 1 2) + (1 : Int32)).toInt = (s12.2 1 2).toInt + (1 : Int32).toInt := i_add (by omega) (by omega)
          refine sf_pw (fun w5 ew5 => ?_)
          have hIw5 : Inv g w5 := by rw [ew5]; exact uq_1_2 hIs12
          have zz19_l : -2147483648 ≤ v4.toInt := Int32.le_toInt v4
          have zz19_h : v4.toInt ≤ 2147483647 := Int32.toInt_le v4
          have h20_ : 0 ≤ (w5 1 1).toInt ∧ (w5 1 1).toInt ≤ 240 := iv_1_1 hIw5
          have k21_ : (w5 1 1).toInt = (s12.2 1 1).toInt := by rw [ew5, wu_ne (by omega)]
          have k22_ : (w5 1 2).toInt = ((s12.2 1 2) + (1 : Int32)).toInt := by rw [ew5, wu_at]
          exact sf_some (show ((Inv g w5) ∧ ((w5 1 1).toInt = (w1 1 1).toInt)) ∧ (241 - (w5 1 2).toInt).toNat < (241 - (s12.2 1 2).toInt).toNat from ⟨⟨hIw5, by omega⟩, by omega⟩)
    · have rc9_ : ¬ (s12.2 1 2).toInt < (s12.2 1 1).toInt := by rw [Int32.lt_iff_toInt_lt] at c9_; omega
      have zz23_l : -2147483648 ≤ s12.1.toInt := Int32.le_toInt s12.1
      have zz23_h : s12.1.toInt ≤ 2147483647 := Int32.toInt_le s12.1
      exact sf_some (show (Inv g s12.2) ∧ ((s12.2 1 1).toInt = (w1 1 1).toInt) from ⟨hIs12, by omega⟩)
  · obtain ⟨hIv8, hvv8_1⟩ := hvv8
    have h24_ : 0 ≤ (w1 1 1).toInt ∧ (w1 1 1).toInt ≤ 240 := iv_1_1 hIw1
    have h25_ : 0 ≤ (w 1 1).toInt ∧ (w 1 1).toInt ≤ 240 := iv_1_1 hI
    have k26_ : (w1 1 1).toInt = (w 1 1).toInt := congrArg Int32.toInt (fr_X7_skipBlanks  w w1 hqw1 1 1 (by omega))
    have h27_ : 0 ≤ (v8.2 1 1).toInt ∧ (v8.2 1 1).toInt ≤ 240 := iv_1_1 hIv8
    refine sf_bind (Q := fun (v9 : Mem) => (Inv g v9) ∧ ((v9 1 1).toInt = (v8.2 1 1).toInt) ∧ ((v9 1 2).toInt = (v8.2 1 2).toInt)) ?_ (fun v9 hqv9 hvv9 => ?_)
    · have zz28_l : -2147483648 ≤ (v8.2 1 2).toInt := Int32.le_toInt (v8.2 1 2)
      have zz28_h : (v8.2 1 2).toInt ≤ 2147483647 := Int32.toInt_le (v8.2 1 2)
      have zz29_l : -2147483648 ≤ (w1 1 2).toInt := Int32.le_toInt (w1 1 2)
      have zz29_h : (w1 1 2).toInt ≤ 2147483647 := Int32.toInt_le (w1 1 2)
      refine sf_ite (fun c30_ => ?_) (fun c30_ => ?_)
      · have rc30_ : (v8.2 1 2).toInt = (w1 1 2).toInt := by rw [i_eq_iff] at c30_; omega
        have l_1 : (1 : Int32).toInt = 1 := by decide
        refine sf_bind (sf_X7_note (1 : Int32) (w1 1 2) v8.2 hIv8) (fun w13 hqw13 hpw13 => ?_)
        have hIw13 := hpw13
        have h31_ : 0 ≤ (w13 1 1).toInt ∧ (w13 1 1).toInt ≤ 240 := iv_1_1 hIw13
        have k32_ : (w13 1 1).toInt = (v8.2 1 1).toInt := congrArg Int32.toInt (fr_X7_note (1 : Int32) (w1 1 2) v8.2 w13 hqw13 1 1 (by omega))
        have k33_ : (w13 1 2).toInt = (v8.2 1 2).toInt := congrArg Int32.toInt (fr_X7_note (1 : Int32) (w1 1 2) v8.2 w13 hqw13 1 2 (by omega))
        have zz34_l : -2147483648 ≤ (w13 1 2).toInt := Int32.le_toInt (w13 1 2)
        have zz34_h : (w13 1 2).toInt ≤ 2147483647 := Int32.toInt_le (w13 1 2)
        exact sf_some (show (Inv g w13) ∧ ((w13 1 1).toInt = (v8.2 1 1).toInt) ∧ ((w13 1 2).toInt = (v8.2 1 2).toInt) from ⟨hIw13, by omega, by omega⟩)
      · have rc30_ : ¬ (v8.2 1 2).toInt = (w1 1 2).toInt := by rw [i_eq_iff] at c30_; omega
        have l_3 : (3 : Int32).toInt = 3 := by decide
        refine sf_ite (fun c35_ => ?_) (fun c35_ => ?_)
        · have rc35_ : 3 < ((v8.2 1 2) - (w1 1 2)).toInt := by rw [Int32.lt_iff_toInt_lt] at c35_; omega
          have l_2 : (2 : Int32).toInt = 2 := by decide
          refine sf_bind (sf_X7_note (2 : Int32) (w1 1 2) v8.2 hIv8) (fun w10 hqw10 hpw10 => ?_)
          have hIw10 := hpw10
          have h36_ : 0 ≤ (w10 1 1).toInt ∧ (w10 1 1).toInt ≤ 240 := iv_1_1 hIw10
          have k37_ : (w10 1 1).toInt = (v8.2 1 1).toInt := congrArg Int32.toInt (fr_X7_note (2 : Int32) (w1 1 2) v8.2 w10 hqw10 1 1 (by omega))
          have k38_ : (w10 1 2).toInt = (v8.2 1 2).toInt := congrArg Int32.toInt (fr_X7_note (2 : Int32) (w1 1 2) v8.2 w10 hqw10 1 2 (by omega))
          have zz39_l : -2147483648 ≤ (w10 1 2).toInt := Int32.le_toInt (w10 1 2)
          have zz39_h : (w10 1 2).toInt ≤ 2147483647 := Int32.toInt_le (w10 1 2)
          exact sf_some (show (Inv g w10) ∧ ((w10 1 1).toInt = (v8.2 1 1).toInt) ∧ ((w10 1 2).toInt = (v8.2 1 2).toInt) from ⟨hIw10, by omega, by omega⟩)
        · have rc35_ : ¬ 3 < ((v8.2 1 2) - (w1 1 2)).toInt := by rw [Int32.lt_iff_toInt_lt] at c35_; omega
          have zz40_l : -2147483648 ≤ v8.1.toInt := Int32.le_toInt v8.1
          have zz40_h : v8.1.toInt ≤ 2147483647 := Int32.toInt_le v8.1
          refine sf_ite (fun c41_ => ?_) (fun c41_ => ?_)
          · have rc41_ : v8.1.toInt < a1.toInt := by rw [Int32.lt_iff_toInt_lt] at c41_; omega
            have l_2 : (2 : Int32).toInt = 2 := by decide
            refine sf_bind (sf_X7_note (2 : Int32) (w1 1 2) v8.2 hIv8) (fun w11 hqw11 hpw11 => ?_)
            have hIw11 := hpw11
            have h42_ : 0 ≤ (w11 1 1).toInt ∧ (w11 1 1).toInt ≤ 240 := iv_1_1 hIw11
            have k43_ : (w11 1 1).toInt = (v8.2 1 1).toInt := congrArg Int32.toInt (fr_X7_note (2 : Int32) (w1 1 2) v8.2 w11 hqw11 1 1 (by omega))
            have k44_ : (w11 1 2).toInt = (v8.2 1 2).toInt := congrArg Int32.toInt (fr_X7_note (2 : Int32) (w1 1 2) v8.2 w11 hqw11 1 2 (by omega))
            have zz45_l : -2147483648 ≤ (w11 1 2).toInt := Int32.le_toInt (w11 1 2)
            have zz45_h : (w11 1 2).toInt ≤ 2147483647 := Int32.toInt_le (w11 1 2)
            exact sf_some (show (Inv g w11) ∧ ((w11 1 1).toInt = (v8.2 1 1).toInt) ∧ ((w11 1 2).toInt = (v8.2 1 2).toInt) from ⟨hIw11, by omega, by omega⟩)
          · have rc41_ : ¬ v8.1.toInt < a1.toInt := by rw [Int32.lt_iff_toInt_lt] at c41_; omega
            refine sf_ite (fun c46_ => ?_) (fun c46_ => ?_)
            · have rc46_ : a2.toInt < v8.1.toInt := by rw [Int32.lt_iff_toInt_lt] at c46_; omega
              have l_2 : (2 : Int32).toInt = 2 := by decide
              refine sf_bind (sf_X7_note (2 : Int32) (w1 1 2) v8.2 hIv8) (fun w12 hqw12 hpw12 => ?_)
              have hIw12 := hpw12
              have h47_ : 0 ≤ (w12 1 1).toInt ∧ (w12 1 1).toInt ≤ 240 := iv_1_1 hIw12
              have k48_ : (w12 1 1).toInt = (v8.2 1 1).toInt := congrArg Int32.toInt (fr_X7_note (2 : Int32) (w1 1 2) v8.2 w12 hqw12 1 1 (by omega))
              have k49_ : (w12 1 2).toInt = (v8.2 1 2).toInt := congrArg Int32.toInt (fr_X7_note (2 : Int32) (w1 1 2) v8.2 w12 hqw12 1 2 (by omega))
              have zz50_l : -2147483648 ≤ (w12 1 2).toInt := Int32.le_toInt (w12 1 2)
              have zz50_h : (w12 1 2).toInt ≤ 2147483647 := Int32.toInt_le (w12 1 2)
              exact sf_some (show (Inv g w12) ∧ ((w12 1 1).toInt = (v8.2 1 1).toInt) ∧ ((w12 1 2).toInt = (v8.2 1 2).toInt) from ⟨hIw12, by omega, by omega⟩)
            · have rc46_ : ¬ a2.toInt < v8.1.toInt := by rw [Int32.lt_iff_toInt_lt] at c46_; omega
              exact sf_some (show (Inv g v8.2) ∧ ((v8.2 1 1).toInt = (v8.2 1 1).toInt) ∧ ((v8.2 1 2).toInt = (v8.2 1 2).toInt) from ⟨hIv8, rfl, rfl⟩)
    · obtain ⟨hIv9, hvv9_1, hvv9_2⟩ := hvv9
      have h51_ : 0 ≤ (v9 1 1).toInt ∧ (v9 1 1).toInt ≤ 240 := iv_1_1 hIv9
      have zz52_l : -2147483648 ≤ (v8.2 1 2).toInt := Int32.le_toInt (v8.2 1 2)
      have zz52_h : (v8.2 1 2).toInt ≤ 2147483647 := Int32.toInt_le (v8.2 1 2)
      have zz53_l : -2147483648 ≤ (v9 1 2).toInt := Int32.le_toInt (v9 1 2)
      have zz53_h : (v9 1 2).toInt ≤ 2147483647 := Int32.toInt_le (v9 1 2)
      have zz54_l : -2147483648 ≤ v8.1.toInt := Int32.le_toInt v8.1
      have zz54_h : v8.1.toInt ≤ 2147483647 := Int32.toInt_le v8.1
      exact sf_some (show (Inv g v9) from hIv9)
set_option maxRecDepth 20000 in
set_option maxHeartbeats 2000000 in
theorem sf_X7_readEnd {g : Nat → Int} (w : Mem) (hI : Inv g w) : Sf (fun (q : Int32 × Mem) => (Inv g q.2) ∧ (0 ≤ q.1.toInt ∧ q.1.toInt ≤ 1)) (f_X7_readEnd w) := by
  obtain ⟨hg0, hg1⟩ := hI.1
  unfold f_X7_readEnd
  refine sf_bind (sf_X7_skipBlanks  w hI) (fun w1 hqw1 hpw1 => ?_)
  have hIw1 := hpw1
  refine sf_bind (sf_X7_nextLetter  w1 hIw1) (fun r2 hqr2 hpr2 => ?_)
  refine sf_bind (Q := fun (v3 : Mem) => (Inv g v3) ∧ ((v3 1 2).toInt = (w1 1 2).toInt)) ?_ (fun v3 hqv3 hvv3 => ?_)
  · have zz1_l : -2147483648 ≤ r2.toInt := Int32.le_toInt r2
    have zz1_h : r2.toInt ≤ 2147483647 := Int32.toInt_le r2
    have l_59 : (59 : Int32).toInt = 59 := by decide
    refine sf_ite (fun c2_ => ?_) (fun c2_ => ?_)
    · have rc2_ : r2.toInt = 59 := by rw [i_eq_iff] at c2_; omega
      have zz3_l : -2147483648 ≤ (w1 1 2).toInt := Int32.le_toInt (w1 1 2)
      have zz3_h : (w1 1 2).toInt ≤ 2147483647 := Int32.toInt_le (w1 1 2)
      exact sf_some (show (Inv g w1) ∧ ((w1 1 2).toInt = (w1 1 2).toInt) from ⟨hIw1, rfl⟩)
    · have rc2_ : ¬ r2.toInt = 59 := by rw [i_eq_iff] at c2_; omega
      have l_1 : (1 : Int32).toInt = 1 := by decide
      have zz4_l : -2147483648 ≤ (w1 1 2).toInt := Int32.le_toInt (w1 1 2)
      have zz4_h : (w1 1 2).toInt ≤ 2147483647 := Int32.toInt_le (w1 1 2)
      refine sf_bind (sf_X7_note (1 : Int32) (w1 1 2) w1 hIw1) (fun w5 hqw5 hpw5 => ?_)
      have hIw5 := hpw5
      have k5_ : (w5 1 2).toInt = (w1 1 2).toInt := congrArg Int32.toInt (fr_X7_note (1 : Int32) (w1 1 2) w1 w5 hqw5 1 2 (by omega))
      have zz6_l : -2147483648 ≤ (w5 1 2).toInt := Int32.le_toInt (w5 1 2)
      have zz6_h : (w5 1 2).toInt ≤ 2147483647 := Int32.toInt_le (w5 1 2)
      exact sf_some (show (Inv g w5) ∧ ((w5 1 2).toInt = (w1 1 2).toInt) from ⟨hIw5, by omega⟩)
  · obtain ⟨hIv3, hvv3_1⟩ := hvv3
    have zz7_l : -2147483648 ≤ (w1 1 2).toInt := Int32.le_toInt (w1 1 2)
    have zz7_h : (w1 1 2).toInt ≤ 2147483647 := Int32.toInt_le (w1 1 2)
    have zz8_l : -2147483648 ≤ (v3 1 2).toInt := Int32.le_toInt (v3 1 2)
    have zz8_h : (v3 1 2).toInt ≤ 2147483647 := Int32.toInt_le (v3 1 2)
    have l_1 : (1 : Int32).toInt = 1 := by decide
    refine sf_pw (fun w4 ew4 => ?_)
    have hIw4 : Inv g w4 := by rw [ew4]; exact uq_1_2 hIv3
    have zz9_l : -2147483648 ≤ (v3 1 3).toInt := Int32.le_toInt (v3 1 3)
    have zz9_h : (v3 1 3).toInt ≤ 2147483647 := Int32.toInt_le (v3 1 3)
    have k10_ : (w4 1 3).toInt = (v3 1 3).toInt := by rw [ew4, wu_ne (by omega)]
    have zz11_l : -2147483648 ≤ (w4 1 3).toInt := Int32.le_toInt (w4 1 3)
    have zz11_h : (w4 1 3).toInt ≤ 2147483647 := Int32.toInt_le (w4 1 3)
    have l_0 : (0 : Int32).toInt = 0 := by decide
    refine sf_ite (fun c12_ => ?_) (fun c12_ => ?_)
    · have rc12_ : (w4 1 3).toInt = 0 := by rw [i_eq_iff] at c12_; omega
      exact sf_some (show (Inv g w4) ∧ (0 ≤ (1 : Int32).toInt ∧ (1 : Int32).toInt ≤ 1) from ⟨hIw4, by omega⟩)
    · have rc12_ : ¬ (w4 1 3).toInt = 0 := by rw [i_eq_iff] at c12_; omega
      exact sf_some (show (Inv g w4) ∧ (0 ≤ (0 : Int32).toInt ∧ (0 : Int32).toInt ≤ 1) from ⟨hIw4, by omega⟩)
set_option maxRecDepth 20000 in
set_option maxHeartbeats 2000000 in
theorem sf_X1_addTraveller {g : Nat → Int} (b0 : Nat) (hb0 : BrO b0) (a1 : Int32) (a2 : Int32) (a3 : Int32) (w : Mem) (hI : Inv g w) : Sf (fun (q : Mem) => (Inv g q)) (f_X1_addTraveller b0 a1 a2 a3 w) := by
  have hbb_b0 : b0 = 112 ∨ b0 = 119 := hb0
  obtain ⟨hg0, hg1⟩ := hI.1
  unfold f_X1_addTraveller
  have h1_ : 0 ≤ (w b0 3).toInt ∧ (w b0 3).toInt ≤ 6 := ivX1_3 hb0 hI
  have l_6 : (6 : Int32).toInt = 6 := by decide
  refine sf_ite (fun c2_ => ?_) (fun c2_ => ?_)
  · have rc2_ : (w b0 3).toInt < 6 := by rw [Int32.lt_iff_toInt_lt] at c2_; omega
    have zz3_l : -2147483648 ≤ a1.toInt := Int32.le_toInt a1
    have zz3_h : a1.toInt ≤ 2147483647 := Int32.toInt_le a1
    refine sf_wr (by omega) (by omega) (fun w1 ew1 => ?_)
    have n4_ : ((w b0 3).toNatClampNeg : Int) = (w b0 3).toInt := i_clq (by omega)
    have hIw1 : Inv g w1 := by rw [ew1]; exact ubBr_3 hb0 hI
    have h5_ : 0 ≤ (w1 b0 3).toInt ∧ (w1 b0 3).toInt ≤ 6 := ivX1_3 hb0 hIw1
    have k6_ : (w1 b0 3).toInt = (w b0 3).toInt := by rw [ew1, wu_ne (by omega)]
    have zz7_l : -2147483648 ≤ a2.toInt := Int32.le_toInt a2
    have zz7_h : a2.toInt ≤ 2147483647 := Int32.toInt_le a2
    refine sf_wr (by omega) (by omega) (fun w2 ew2 => ?_)
    have n8_ : ((w1 b0 3).toNatClampNeg : Int) = (w1 b0 3).toInt := i_clq (by omega)
    have hIw2 : Inv g w2 := by rw [ew2]; exact ubBr_4 hb0 hIw1
    have h9_ : 0 ≤ (w2 b0 3).toInt ∧ (w2 b0 3).toInt ≤ 6 := ivX1_3 hb0 hIw2
    have k10_ : (w2 b0 3).toInt = (w1 b0 3).toInt := by rw [ew2, wu_ne (by omega)]
    have zz11_l : -2147483648 ≤ a3.toInt := Int32.le_toInt a3
    have zz11_h : a3.toInt ≤ 2147483647 := Int32.toInt_le a3
    refine sf_wr (by omega) (by omega) (fun w3 ew3 => ?_)
    have n12_ : ((w2 b0 3).toNatClampNeg : Int) = (w2 b0 3).toInt := i_clq (by omega)
    have hIw3 : Inv g w3 := by rw [ew3]; exact ubBr_5 hb0 hIw2
    have h13_ : 0 ≤ (w3 b0 3).toInt ∧ (w3 b0 3).toInt ≤ 6 := ivX1_3 hb0 hIw3
    have k14_ : (w3 b0 3).toInt = (w2 b0 3).toInt := by rw [ew3, wu_ne (by omega)]
    have l_1 : (1 : Int32).toInt = 1 := by decide
    have e15_ : ((w3 b0 3) + (1 : Int32)).toInt = (w3 b0 3).toInt + (1 : Int32).toInt := i_add (by omega) (by omega)
    refine sf_pw (fun w4 ew4 => ?_)
    have hIw4 : Inv g w4 := by rw [ew4]; exact upX1_3 hb0 hIw3 (show 0 ≤ ((w3 b0 3) + (1 : Int32)).toInt ∧ ((w3 b0 3) + (1 : Int32)).toInt ≤ 6 from by omega)
    exact sf_some (show (Inv g w4) from hIw4)
  · have rc2_ : ¬ (w b0 3).toInt < 6 := by rw [Int32.lt_iff_toInt_lt] at c2_; omega
    exact sf_some (show (Inv g w) from hI)
set_option maxRecDepth 20000 in
set_option maxHeartbeats 2000000 in
theorem sf_X7_readTraveller {g : Nat → Int} (b1 : Nat) (hb1 : BrO b1) (w : Mem) (hI : Inv g w) : Sf (fun (q : Mem) => (Inv g q)) (f_X7_readTraveller b1 w) := by
  have hbb_b1 : b1 = 112 ∨ b1 = 119 := hb1
  obtain ⟨hg0, hg1⟩ := hI.1
  unfold f_X7_readTraveller
  have l_0 : (0 : Int32).toInt = 0 := by decide
  have l_4 : (4 : Int32).toInt = 4 := by decide
  refine sf_bind (sf_X7_readNumber (0 : Int32) (4 : Int32) w hI) (fun q1 hqq1 hpq1 => ?_)
  have hIq1 := hpq1
  have l_9 : (9 : Int32).toInt = 9 := by decide
  refine sf_bind (sf_X7_readNumber (0 : Int32) (9 : Int32) q1.2 hIq1) (fun q2 hqq2 hpq2 => ?_)
  have hIq2 := hpq2
  have l_255 : (255 : Int32).toInt = 255 := by decide
  refine sf_bind (sf_X7_readNumber (0 : Int32) (255 : Int32) q2.2 hIq2) (fun q3 hqq3 hpq3 => ?_)
  have hIq3 := hpq3
  refine sf_bind (sf_X7_readEnd  q3.2 hIq3) (fun q4 hqq4 hpq4 => ?_)
  obtain ⟨hIq4, hpq4_0⟩ := hpq4
  refine sf_ite (fun c1_ => ?_) (fun c1_ => ?_)
  · have rc1_ : q4.1.toInt = 0 := by rw [i_eq_iff] at c1_; omega
    exact sf_some (show (Inv g q4.2) from hIq4)
  · have rc1_ : ¬ q4.1.toInt = 0 := by rw [i_eq_iff] at c1_; omega
    have zz2_l : -2147483648 ≤ q1.1.toInt := Int32.le_toInt q1.1
    have zz2_h : q1.1.toInt ≤ 2147483647 := Int32.toInt_le q1.1
    have zz3_l : -2147483648 ≤ q2.1.toInt := Int32.le_toInt q2.1
    have zz3_h : q2.1.toInt ≤ 2147483647 := Int32.toInt_le q2.1
    have zz4_l : -2147483648 ≤ q3.1.toInt := Int32.le_toInt q3.1
    have zz4_h : q3.1.toInt ≤ 2147483647 := Int32.toInt_le q3.1
    refine sf_bind (sf_X1_addTraveller b1 hb1 q1.1 q2.1 q3.1 q4.2 hIq4) (fun w5 hqw5 hpw5 => ?_)
    have hIw5 := hpw5
    exact sf_some (show (Inv g w5) from hIw5)
set_option maxRecDepth 20000 in
set_option maxHeartbeats 2000000 in
theorem sf_X1_addMatter {g : Nat → Int} (b0 : Nat) (hb0 : BrO b0) (a1 : Int32) (a2 : Int32) (w : Mem) (hI : Inv g w) : Sf (fun (q : Mem) => (Inv g q)) (f_X1_addMatter b0 a1 a2 w) := by
  have hbb_b0 : b0 = 112 ∨ b0 = 119 := hb0
  obtain ⟨hg0, hg1⟩ := hI.1
  unfold f_X1_addMatter
  have h1_ : 0 ≤ (w b0 2).toInt ∧ (w b0 2).toInt ≤ 8 := ivX1_2 hb0 hI
  have l_8 : (8 : Int32).toInt = 8 := by decide
  refine sf_ite (fun c2_ => ?_) (fun c2_ => ?_)
  · have rc2_ : (w b0 2).toInt < 8 := by rw [Int32.lt_iff_toInt_lt] at c2_; omega
    have zz3_l : -2147483648 ≤ a1.toInt := Int32.le_toInt a1
    have zz3_h : a1.toInt ≤ 2147483647 := Int32.toInt_le a1
    refine sf_wr (by omega) (by omega) (fun w1 ew1 => ?_)
    have n4_ : ((w b0 2).toNatClampNeg : Int) = (w b0 2).toInt := i_clq (by omega)
    have hIw1 : Inv g w1 := by rw [ew1]; exact ubBr_1 hb0 hI
    have h5_ : 0 ≤ (w1 b0 2).toInt ∧ (w1 b0 2).toInt ≤ 8 := ivX1_2 hb0 hIw1
    have k6_ : (w1 b0 2).toInt = (w b0 2).toInt := by rw [ew1, wu_ne (by omega)]
    have zz7_l : -2147483648 ≤ a2.toInt := Int32.le_toInt a2
    have zz7_h : a2.toInt ≤ 2147483647 := Int32.toInt_le a2
    refine sf_wr (by omega) (by omega) (fun w2 ew2 => ?_)
    have n8_ : ((w1 b0 2).toNatClampNeg : Int) = (w1 b0 2).toInt := i_clq (by omega)
    have hIw2 : Inv g w2 := by rw [ew2]; exact ubBr_2 hb0 hIw1
    have h9_ : 0 ≤ (w2 b0 2).toInt ∧ (w2 b0 2).toInt ≤ 8 := ivX1_2 hb0 hIw2
    have k10_ : (w2 b0 2).toInt = (w1 b0 2).toInt := by rw [ew2, wu_ne (by omega)]
    have l_1 : (1 : Int32).toInt = 1 := by decide
    have e11_ : ((w2 b0 2) + (1 : Int32)).toInt = (w2 b0 2).toInt + (1 : Int32).toInt := i_add (by omega) (by omega)
    refine sf_pw (fun w3 ew3 => ?_)
    have hIw3 : Inv g w3 := by rw [ew3]; exact upX1_2 hb0 hIw2 (show 0 ≤ ((w2 b0 2) + (1 : Int32)).toInt ∧ ((w2 b0 2) + (1 : Int32)).toInt ≤ 8 from by omega)
    exact sf_some (show (Inv g w3) from hIw3)
  · have rc2_ : ¬ (w b0 2).toInt < 8 := by rw [Int32.lt_iff_toInt_lt] at c2_; omega
    exact sf_some (show (Inv g w) from hI)
set_option maxRecDepth 20000 in
set_option maxHeartbeats 2000000 in
theorem sf_X7_readMatter {g : Nat → Int} (b1 : Nat) (hb1 : BrO b1) (w : Mem) (hI : Inv g w) : Sf (fun (q : Mem) => (Inv g q)) (f_X7_readMatter b1 w) := by
  have hbb_b1 : b1 = 112 ∨ b1 = 119 := hb1
  obtain ⟨hg0, hg1⟩ := hI.1
  unfold f_X7_readMatter
  have l_1 : (1 : Int32).toInt = 1 := by decide
  have l_60 : (60 : Int32).toInt = 60 := by decide
  refine sf_bind (sf_X7_readNumber (1 : Int32) (60 : Int32) w hI) (fun q1 hqq1 hpq1 => ?_)
  have hIq1 := hpq1
  have l_0 : (0 : Int32).toInt = 0 := by decide
  have l_255 : (255 : Int32).toInt = 255 := by decide
  refine sf_bind (sf_X7_readNumber (0 : Int32) (255 : Int32) q1.2 hIq1) (fun q2 hqq2 hpq2 => ?_)
  have hIq2 := hpq2
  refine sf_bind (sf_X7_readEnd  q2.2 hIq2) (fun q3 hqq3 hpq3 => ?_)
  obtain ⟨hIq3, hpq3_0⟩ := hpq3
  refine sf_ite (fun c1_ => ?_) (fun c1_ => ?_)
  · have rc1_ : q3.1.toInt = 0 := by rw [i_eq_iff] at c1_; omega
    exact sf_some (show (Inv g q3.2) from hIq3)
  · have rc1_ : ¬ q3.1.toInt = 0 := by rw [i_eq_iff] at c1_; omega
    have zz2_l : -2147483648 ≤ q1.1.toInt := Int32.le_toInt q1.1
    have zz2_h : q1.1.toInt ≤ 2147483647 := Int32.toInt_le q1.1
    have zz3_l : -2147483648 ≤ q2.1.toInt := Int32.le_toInt q2.1
    have zz3_h : q2.1.toInt ≤ 2147483647 := Int32.toInt_le q2.1
    refine sf_bind (sf_X1_addMatter b1 hb1 q1.1 q2.1 q3.2 hIq3) (fun w4 hqw4 hpw4 => ?_)
    have hIw4 := hpw4
    exact sf_some (show (Inv g w4) from hIw4)
set_option maxRecDepth 20000 in
set_option maxHeartbeats 2000000 in
theorem sf_X7_readRate {g : Nat → Int} (b1 : Nat) (hb1 : BrO b1) (w : Mem) (hI : Inv g w) : Sf (fun (q : Mem) => (Inv g q)) (f_X7_readRate b1 w) := by
  have hbb_b1 : b1 = 112 ∨ b1 = 119 := hb1
  obtain ⟨hg0, hg1⟩ := hI.1
  unfold f_X7_readRate
  have l_1 : (1 : Int32).toInt = 1 := by decide
  have l_60 : (60 : Int32).toInt = 60 := by decide
  refine sf_bind (sf_X7_readNumber (1 : Int32) (60 : Int32) w hI) (fun q1 hqq1 hpq1 => ?_)
  have hIq1 := hpq1
  have l_9 : (9 : Int32).toInt = 9 := by decide
  refine sf_bind (sf_X7_readNumber (1 : Int32) (9 : Int32) q1.2 hIq1) (fun q2 hqq2 hpq2 => ?_)
  have hIq2 := hpq2
  refine sf_bind (sf_X7_readEnd  q2.2 hIq2) (fun q3 hqq3 hpq3 => ?_)
  obtain ⟨hIq3, hpq3_0⟩ := hpq3
  have l_0 : (0 : Int32).toInt = 0 := by decide
  refine sf_ite (fun c1_ => ?_) (fun c1_ => ?_)
  · have rc1_ : q3.1.toInt = 0 := by rw [i_eq_iff] at c1_; omega
    exact sf_some (show (Inv g q3.2) from hIq3)
  · have rc1_ : ¬ q3.1.toInt = 0 := by rw [i_eq_iff] at c1_; omega
    have zz2_l : -2147483648 ≤ q1.1.toInt := Int32.le_toInt q1.1
    have zz2_h : q1.1.toInt ≤ 2147483647 := Int32.toInt_le q1.1
    refine sf_pw (fun w4 ew4 => ?_)
    have hIw4 : Inv g w4 := by rw [ew4]; exact uqX1_0 hb1 hIq3
    have zz3_l : -2147483648 ≤ q2.1.toInt := Int32.le_toInt q2.1
    have zz3_h : q2.1.toInt ≤ 2147483647 := Int32.toInt_le q2.1
    refine sf_pw (fun w5 ew5 => ?_)
    have hIw5 : Inv g w5 := by rw [ew5]; exact uqX1_1 hb1 hIw4
    exact sf_some (show (Inv g w5) from hIw5)
set_option maxRecDepth 20000 in
set_option maxHeartbeats 2000000 in
theorem sf_X7_readClause {g : Nat → Int} (b1 : Nat) (hb1 : BrO b1) (w : Mem) (hI : Inv g w) : Sf (fun (q : Mem) => (Inv g q)) (f_X7_readClause b1 w) := by
  have hbb_b1 : b1 = 112 ∨ b1 = 119 := hb1
  obtain ⟨hg0, hg1⟩ := hI.1
  unfold f_X7_readClause
  refine sf_bind (sf_X7_nextLetter  w hI) (fun r1 hqr1 hpr1 => ?_)
  have zz1_l : -2147483648 ≤ r1.toInt := Int32.le_toInt r1
  have zz1_h : r1.toInt ≤ 2147483647 := Int32.toInt_le r1
  refine sf_bind (sf_X7_faultOfWord b1 hb1 r1 w hI) (fun r2 hqr2 hpr2 => ?_)
  have zz2_l : -2147483648 ≤ r2.toInt := Int32.le_toInt r2
  have zz2_h : r2.toInt ≤ 2147483647 := Int32.toInt_le r2
  have l_0 : (0 : Int32).toInt = 0 := by decide
  refine sf_ite (fun c3_ => ?_) (fun c3_ => ?_)
  · have rc3_ : r2.toInt = 0 := by rw [i_eq_iff] at c3_; omega
    have zz4_l : -2147483648 ≤ (w 1 2).toInt := Int32.le_toInt (w 1 2)
    have zz4_h : (w 1 2).toInt ≤ 2147483647 := Int32.toInt_le (w 1 2)
    have l_1 : (1 : Int32).toInt = 1 := by decide
    refine sf_pw (fun w3 ew3 => ?_)
    have hIw3 : Inv g w3 := by rw [ew3]; exact uq_1_2 hI
    have l_107 : (107 : Int32).toInt = 107 := by decide
    refine sf_ite (fun c5_ => ?_) (fun c5_ => ?_)
    · have rc5_ : r1.toInt = 107 := by rw [i_eq_iff] at c5_; omega
      refine sf_bind (sf_X7_readRate b1 hb1 w3 hIw3) (fun w6 hqw6 hpw6 => ?_)
      have hIw6 := hpw6
      exact sf_some (show (Inv g w6) from hIw6)
    · have rc5_ : ¬ r1.toInt = 107 := by rw [i_eq_iff] at c5_; omega
      have l_109 : (109 : Int32).toInt = 109 := by decide
      refine sf_ite (fun c6_ => ?_) (fun c6_ => ?_)
      · have rc6_ : r1.toInt = 109 := by rw [i_eq_iff] at c6_; omega
        refine sf_bind (sf_X7_readMatter b1 hb1 w3 hIw3) (fun w5 hqw5 hpw5 => ?_)
        have hIw5 := hpw5
        exact sf_some (show (Inv g w5) from hIw5)
      · have rc6_ : ¬ r1.toInt = 109 := by rw [i_eq_iff] at c6_; omega
        refine sf_bind (sf_X7_readTraveller b1 hb1 w3 hIw3) (fun w4 hqw4 hpw4 => ?_)
        have hIw4 := hpw4
        exact sf_some (show (Inv g w4) from hIw4)
  · have rc3_ : ¬ r2.toInt = 0 := by rw [i_eq_iff] at c3_; omega
    have zz7_l : -2147483648 ≤ (w 1 2).toInt := Int32.le_toInt (w 1 2)
    have zz7_h : (w 1 2).toInt ≤ 2147483647 := Int32.toInt_le (w 1 2)
    refine sf_bind (sf_X7_note r2 (w 1 2) w hI) (fun w7 hqw7 hpw7 => ?_)
    have hIw7 := hpw7
    exact sf_some (show (Inv g w7) from hIw7)
set_option maxRecDepth 20000 in
set_option maxHeartbeats 2000000 in
theorem sf_X9_setOfFirst (a0 : Int32) (pre0 : 0 ≤ a0.toInt) (pre1 : a0.toInt ≤ 8) : Sf (fun (q : Int32) => (0 ≤ q.toInt) ∧ (q.toInt ≤ 255)) (f_X9_setOfFirst a0) := by
  unfold f_X9_setOfFirst
  have l_1 : (1 : Int32).toInt = 1 := by decide
  have e1_ : 1 ≤ ((1 : Int32) <<< (a0 &&& 31)).toInt ∧ ((1 : Int32) <<< (a0 &&& 31)).toInt ≤ 256 := i_shl1 (k := 8) (by decide) (by omega) (show _ ≤ 8 from by omega)
  have e2_ : (((1 : Int32) <<< (a0 &&& 31)) - (1 : Int32)).toInt = ((1 : Int32) <<< (a0 &&& 31)).toInt - (1 : Int32).toInt := i_sub (by omega) (by omega)
  have hk9 : 0 ≤ (((1 : Int32) <<< (a0 &&& 31)) - (1 : Int32)).toInt ∧ (((1 : Int32) <<< (a0 &&& 31)) - (1 : Int32)).toInt ≤ 255 := i_sof pre0 pre1
  exact sf_some (show (0 ≤ (((1 : Int32) <<< (a0 &&& 31)) - (1 : Int32)).toInt) ∧ ((((1 : Int32) <<< (a0 &&& 31)) - (1 : Int32)).toInt ≤ 255) from ⟨by omega, by omega⟩)
set_option maxRecDepth 20000 in
set_option maxHeartbeats 2000000 in
theorem sf_X9_holds (a0 : Int32) (a1 : Int32) : Sf (fun (q : Int32) => (0 ≤ q.toInt ∧ q.toInt ≤ 1)) (f_X9_holds a0 a1) := by
  unfold f_X9_holds
  have zz1_l : -2147483648 ≤ a1.toInt := Int32.le_toInt a1
  have zz1_h : a1.toInt ≤ 2147483647 := Int32.toInt_le a1
  have l_0 : (0 : Int32).toInt = 0 := by decide
  refine sf_ite (fun c2_ => ?_) (fun c2_ => ?_)
  · have rc2_ : a1.toInt < 0 := by rw [Int32.lt_iff_toInt_lt] at c2_; omega
    exact sf_some (show (0 ≤ (0 : Int32).toInt ∧ (0 : Int32).toInt ≤ 1) from by omega)
  · have rc2_ : ¬ a1.toInt < 0 := by rw [Int32.lt_iff_toInt_lt] at c2_; omega
    have l_31 : (31 : Int32).toInt = 31 := by decide
    refine sf_ite (fun c3_ => ?_) (fun c3_ => ?_)
    · have rc3_ : a1.toInt < 31 := by rw [Int32.lt_iff_toInt_lt] at c3_; omega
      have l_1 : (1 : Int32).toInt = 1 := by decide
      have e4_ : 0 ≤ ((a0 >>> (a1 &&& 31)) &&& (1 : Int32)).toInt ∧ ((a0 >>> (a1 &&& 31)) &&& (1 : Int32)).toInt ≤ (1 : Int32).toInt := i_and_r (by omega)
      refine sf_ite (fun c5_ => ?_) (fun c5_ => ?_)
      · have rc5_ : ((a0 >>> (a1 &&& 31)) &&& (1 : Int32)).toInt = 0 := by rw [i_eq_iff] at c5_; omega
        exact sf_some (show (0 ≤ (0 : Int32).toInt ∧ (0 : Int32).toInt ≤ 1) from by omega)
      · have rc5_ : ¬ ((a0 >>> (a1 &&& 31)) &&& (1 : Int32)).toInt = 0 := by rw [i_eq_iff] at c5_; omega
        exact sf_some (show (0 ≤ (1 : Int32).toInt ∧ (1 : Int32).toInt ≤ 1) from by omega)
    · have rc3_ : ¬ a1.toInt < 31 := by rw [Int32.lt_iff_toInt_lt] at c3_; omega
      exact sf_some (show (0 ≤ (0 : Int32).toInt ∧ (0 : Int32).toInt ≤ 1) from by omega)
set_option maxRecDepth 20000 in
set_option maxHeartbeats 2000000 in
theorem sf_X1_beginnersOf {g : Nat → Int} (b0 : Nat) (hb0 : BrO b0) (a1 : Int32) (w : Mem) (hI : Inv g w) (pre0 : 1 ≤ a1.toInt) (pre1 : a1.toInt ≤ 255) : Sf (fun (q : Int32) => (True)) (f_X1_beginnersOf b0 a1 w) := by
  have hbb_b0 : b0 = 112 ∨ b0 = 119 := hb0
  obtain ⟨hg0, hg1⟩ := hI.1
  unfold f_X1_beginnersOf
  refine sf_bind (Q := fun (v8 : Int32) => (0 ≤ v8.toInt) ∧ (v8.toInt ≤ 255)) ?_ (fun v8 hqv8 hvv8 => ?_)
  · have l_0 : (0 : Int32).toInt = 0 := by decide
    refine sf_lp (fun (s4 : (Int32 × Int32)) => (0 ≤ s4.1.toInt) ∧ (s4.1.toInt ≤ 255) ∧ (0 ≤ s4.2.toInt) ∧ (s4.2.toInt ≤ 8)) (fun (s4 : (Int32 × Int32)) => (9 - s4.2.toInt).toNat) (fun s4 hss4 => ?_) _ _ (show (0 ≤ (0 : Int32).toInt) ∧ ((0 : Int32).toInt ≤ 255) ∧ (0 ≤ (0 : Int32).toInt) ∧ ((0 : Int32).toInt ≤ 8) from ⟨by omega, by omega, by omega, by omega⟩) (show (9 - (0 : Int32).toInt).toNat < 5000000000 from by omega)
    obtain ⟨hss4_0, hss4_1, hss4_2, hss4_3⟩ := hss4
    refine (?_ : Sf (lpP _ _ (9 - s4.2.toInt).toNat _) _)
    have h1_ : 0 ≤ (w b0 2).toInt ∧ (w b0 2).toInt ≤ 8 := ivX1_2 hb0 hI
    refine sf_ite (fun c2_ => ?_) (fun c2_ => ?_)
    · have rc2_ : s4.2.toInt < (w b0 2).toInt := by rw [Int32.lt_iff_toInt_lt] at c2_; omega
      refine sf_lt (fun t1 et1 => ?_)
      have ft1 : (0 ≤ t1.toInt) ∧ (t1.toInt ≤ 255) := by
        have e3_ : 0 ≤ (a1 &&& (((1 : Int32) <<< (s4.2 &&& 31)) ^^^ (-1 : Int32))).toInt ∧ (a1 &&& (((1 : Int32) <<< (s4.2 &&& 31)) ^^^ (-1 : Int32))).toInt ≤ a1.toInt := i_and_l (by omega)
        have f9 : t1.toInt = (a1 &&& (((1 : Int32) <<< (s4.2 &&& 31)) ^^^ (-1 : Int32))).toInt := by rw [et1]
        exact ⟨by omega, by omega⟩
      refine sf_bind (sf_X9_holds a1 s4.2) (fun r2 hqr2 hpr2 => ?_)
      have hpr2_0 := hpr2
      refine sf_bind (Q := fun (v3 : Int32) => (0 ≤ v3.toInt) ∧ (v3.toInt ≤ 255)) ?_ (fun v3 hqv3 hvv3 => ?_)
      · refine sf_ite (fun c4_ => ?_) (fun c4_ => ?_)
        · have rc4_ : r2.toInt = 0 := by rw [i_eq_iff] at c4_; omega
          exact sf_some (show (0 ≤ s4.1.toInt) ∧ (s4.1.toInt ≤ 255) from ⟨by omega, by omega⟩)
        · have rc4_ : ¬ r2.toInt = 0 := by rw [i_eq_iff] at c4_; omega
          refine sf_ite (fun c5_ => ?_) (fun c5_ => ?_)
          · have rc5_ : t1.toInt = 0 := by rw [i_eq_iff] at c5_; omega
            refine sf_lt (fun t4 et4 => ?_)
            have ft4 : (0 ≤ t4.toInt) ∧ (t4.toInt ≤ 255) := by
              have l_1 : (1 : Int32).toInt = 1 := by decide
              have e6_ : 1 ≤ ((1 : Int32) <<< (s4.2 &&& 31)).toInt ∧ ((1 : Int32) <<< (s4.2 &&& 31)).toInt ≤ 128 := i_shl1 (k := 7) (by decide) (by omega) (show _ ≤ 7 from by omega)
              have e7_ : 0 ≤ (s4.1 ||| ((1 : Int32) <<< (s4.2 &&& 31))).toInt ∧ (s4.1 ||| ((1 : Int32) <<< (s4.2 &&& 31))).toInt < 256 := i_or (k := 8) (by decide) (by omega) (show _ < 256 from by omega) (by omega) (show _ < 256 from by omega)
              have f9 : t4.toInt = (s4.1 ||| ((1 : Int32) <<< (s4.2 &&& 31))).toInt := by rw [et4]
              exact ⟨by omega, by omega⟩
            exact sf_some (show (0 ≤ t4.toInt) ∧ (t4.toInt ≤ 255) from ⟨by omega, by omega⟩)
          · have rc5_ : ¬ t1.toInt = 0 := by rw [i_eq_iff] at c5_; omega
            refine sf_rd (by omega) (by omega) (fun x5 ex5 => ?_)
            refine sf_rd (by omega) (by omega) (fun x6 ex6 => ?_)
            have zz8_l : -2147483648 ≤ x5.toInt := Int32.le_toInt x5
            have zz8_h : x5.toInt ≤ 2147483647 := Int32.toInt_le x5
            have zz9_l : -2147483648 ≤ x6.toInt := Int32.le_toInt x6
            have zz9_h : x6.toInt ≤ 2147483647 := Int32.toInt_le x6
            refine sf_ite (fun c10_ => ?_) (fun c10_ => ?_)
            · have rc10_ : (x5 &&& x6).toInt = 0 := by rw [i_eq_iff] at c10_; omega
              exact sf_some (show (0 ≤ s4.1.toInt) ∧ (s4.1.toInt ≤ 255) from ⟨by omega, by omega⟩)
            · have rc10_ : ¬ (x5 &&& x6).toInt = 0 := by rw [i_eq_iff] at c10_; omega
              refine sf_lt (fun t7 et7 => ?_)
              have ft7 : (0 ≤ t7.toInt) ∧ (t7.toInt ≤ 255) := by
                have l_1 : (1 : Int32).toInt = 1 := by decide
                have e11_ : 1 ≤ ((1 : Int32) <<< (s4.2 &&& 31)).toInt ∧ ((1 : Int32) <<< (s4.2 &&& 31)).toInt ≤ 128 := i_shl1 (k := 7) (by decide) (by omega) (show _ ≤ 7 from by omega)
                have e12_ : 0 ≤ (s4.1 ||| ((1 : Int32) <<< (s4.2 &&& 31))).toInt ∧ (s4.1 ||| ((1 : Int32) <<< (s4.2 &&& 31))).toInt < 256 := i_or (k := 8) (by decide) (by omega) (show _ < 256 from by omega) (by omega) (show _ < 256 from by omega)
                have f9 : t7.toInt = (s4.1 ||| ((1 : Int32) <<< (s4.2 &&& 31))).toInt := by rw [et7]
                exact ⟨by omega, by omega⟩
              exact sf_some (show (0 ≤ t7.toInt) ∧ (t7.toInt ≤ 255) from ⟨by omega, by omega⟩)
      · obtain ⟨hvv3_0, hvv3_1⟩ := hvv3
        have l_1 : (1 : Int32).toInt = 1 := by decide
        have e13_ : (s4.2 + (1 : Int32)).toInt = s4.2.toInt + (1 : Int32).toInt := i_add (by omega) (by omega)
        exact sf_some (show ((0 ≤ v3.toInt) ∧ (v3.toInt ≤ 255) ∧ (0 ≤ (s4.2 + (1 : Int32)).toInt) ∧ ((s4.2 + (1 : Int32)).toInt ≤ 8)) ∧ (9 - (s4.2 + (1 : Int32)).toInt).toNat < (9 - s4.2.toInt).toNat from ⟨⟨by omega, by omega, by omega, by omega⟩, by omega⟩)
    · have rc2_ : ¬ s4.2.toInt < (w b0 2).toInt := by rw [Int32.lt_iff_toInt_lt] at c2_; omega
      exact sf_some (show (0 ≤ s4.1.toInt) ∧ (s4.1.toInt ≤ 255) from ⟨by omega, by omega⟩)
  · obtain ⟨hvv8_0, hvv8_1⟩ := hvv8
    exact sf_some (show (True) from trivial)
set_option maxRecDepth 20000 in
set_option maxHeartbeats 2000000 in
theorem sf_X1_settle {g : Nat → Int} (b0 : Nat) (hb0 : BrO b0) (w : Mem) (hI : Inv g w) : Sf (fun (q : Mem) => (Inv g q)) (f_X1_settle b0 w) := by
  have hbb_b0 : b0 = 112 ∨ b0 = 119 := hb0
  obtain ⟨hg0, hg1⟩ := hI.1
  unfold f_X1_settle
  have h1_ : 0 ≤ (w b0 2).toInt ∧ (w b0 2).toInt ≤ 8 := ivX1_2 hb0 hI
  refine sf_bind (sf_X9_setOfFirst (w b0 2) (by omega) (by omega)) (fun r1 hqr1 hpr1 => ?_)
  obtain ⟨hpr1_0, hpr1_1⟩ := hpr1
  refine sf_bind (Q := fun (v4 : Mem) => (Inv g v4) ∧ ((v4 b0 2).toInt = (w b0 2).toInt) ∧ ((v4 b0 3).toInt = (w b0 3).toInt)) ?_ (fun v4 hqv4 hvv4 => ?_)
  · have l_0 : (0 : Int32).toInt = 0 := by decide
    have h2_ : 0 ≤ (w b0 3).toInt ∧ (w b0 3).toInt ≤ 6 := ivX1_3 hb0 hI
    refine sf_lp (fun (s10 : (Int32 × Mem)) => (Inv g s10.2) ∧ (0 ≤ s10.1.toInt) ∧ (s10.1.toInt ≤ 8) ∧ ((s10.2 b0 2).toInt = (w b0 2).toInt) ∧ ((s10.2 b0 3).toInt = (w b0 3).toInt)) (fun (s10 : (Int32 × Mem)) => (9 - s10.1.toInt).toNat) (fun s10 hss10 => ?_) _ _ (show (Inv g w) ∧ (0 ≤ (0 : Int32).toInt) ∧ ((0 : Int32).toInt ≤ 8) ∧ ((w b0 2).toInt = (w b0 2).toInt) ∧ ((w b0 3).toInt = (w b0 3).toInt) from ⟨hI, by omega, by omega, rfl, rfl⟩) (show (9 - (0 : Int32).toInt).toNat < 5000000000 from by omega)
    obtain ⟨hIs10, hss10_1, hss10_2, hss10_3, hss10_4⟩ := hss10
    refine (?_ : Sf (lpP _ _ (9 - s10.1.toInt).toNat _) _)
    have h3_ : 0 ≤ (s10.2 b0 2).toInt ∧ (s10.2 b0 2).toInt ≤ 8 := ivX1_2 hb0 hIs10
    have h4_ : 0 ≤ (s10.2 b0 3).toInt ∧ (s10.2 b0 3).toInt ≤ 6 := ivX1_3 hb0 hIs10
    refine sf_ite (fun c5_ => ?_) (fun c5_ => ?_)
    · have rc5_ : s10.1.toInt < (s10.2 b0 2).toInt := by rw [Int32.lt_iff_toInt_lt] at c5_; omega
      refine sf_rd (by omega) (by omega) (fun x2 ex2 => ?_)
      have zz6_l : -2147483648 ≤ x2.toInt := Int32.le_toInt x2
      have zz6_h : x2.toInt ≤ 2147483647 := Int32.toInt_le x2
      have e7_ : 0 ≤ (x2 &&& r1).toInt ∧ (x2 &&& r1).toInt ≤ r1.toInt := i_and_r (by omega)
      refine sf_wr (by omega) (by omega) (fun w3 ew3 => ?_)
      have n8_ : (s10.1.toNatClampNeg : Int) = s10.1.toInt := i_clq (by omega)
      have hIw3 : Inv g w3 := by rw [ew3]; exact ubBr_2 hb0 hIs10
      have l_1 : (1 : Int32).toInt = 1 := by decide
      have e9_ : (s10.1 + (1 : Int32)).toInt = s10.1.toInt + (1 : Int32).toInt := i_add (by omega) (by omega)
      have h10_ : 0 ≤ (w3 b0 2).toInt ∧ (w3 b0 2).toInt ≤ 8 := ivX1_2 hb0 hIw3
      have k11_ : (w3 b0 2).toInt = (s10.2 b0 2).toInt := by rw [ew3, wu_ne (by omega)]
      have h12_ : 0 ≤ (w3 b0 3).toInt ∧ (w3 b0 3).toInt ≤ 6 := ivX1_3 hb0 hIw3
      have k13_ : (w3 b0 3).toInt = (s10.2 b0 3).toInt := by rw [ew3, wu_ne (by omega)]
      exact sf_some (show ((Inv g w3) ∧ (0 ≤ (s10.1 + (1 : Int32)).toInt) ∧ ((s10.1 + (1 : Int32)).toInt ≤ 8) ∧ ((w3 b0 2).toInt = (w b0 2).toInt) ∧ ((w3 b0 3).toInt = (w b0 3).toInt)) ∧ (9 - (s10.1 + (1 : Int32)).toInt).toNat < (9 - s10.1.toInt).toNat from ⟨⟨hIw3, by omega, by omega, by omega, by omega⟩, by omega⟩)
    · have rc5_ : ¬ s10.1.toInt < (s10.2 b0 2).toInt := by rw [Int32.lt_iff_toInt_lt] at c5_; omega
      exact sf_some (show (Inv g s10.2) ∧ ((s10.2 b0 2).toInt = (w b0 2).toInt) ∧ ((s10.2 b0 3).toInt = (w b0 3).toInt) from ⟨hIs10, by omega, by omega⟩)
  · obtain ⟨hIv4, hvv4_1, hvv4_2⟩ := hvv4
    have h14_ : 0 ≤ (v4 b0 2).toInt ∧ (v4 b0 2).toInt ≤ 8 := ivX1_2 hb0 hIv4
    have h15_ : 0 ≤ (w b0 3).toInt ∧ (w b0 3).toInt ≤ 6 := ivX1_3 hb0 hI
    have h16_ : 0 ≤ (v4 b0 3).toInt ∧ (v4 b0 3).toInt ≤ 6 := ivX1_3 hb0 hIv4
    refine sf_bind (Q := fun (v7 : Mem) => (Inv g v7) ∧ ((v7 b0 2).toInt = (v4 b0 2).toInt) ∧ ((v7 b0 3).toInt = (v4 b0 3).toInt)) ?_ (fun v7 hqv7 hvv7 => ?_)
    · have l_0 : (0 : Int32).toInt = 0 := by decide
      refine sf_lp (fun (s36 : (Int32 × Mem)) => (Inv g s36.2) ∧ (0 ≤ s36.1.toInt) ∧ (s36.1.toInt ≤ 6) ∧ ((s36.2 b0 2).toInt = (v4 b0 2).toInt) ∧ ((s36.2 b0 3).toInt = (v4 b0 3).toInt)) (fun (s36 : (Int32 × Mem)) => (7 - s36.1.toInt).toNat) (fun s36 hss36 => ?_) _ _ (show (Inv g v4) ∧ (0 ≤ (0 : Int32).toInt) ∧ ((0 : Int32).toInt ≤ 6) ∧ ((v4 b0 2).toInt = (v4 b0 2).toInt) ∧ ((v4 b0 3).toInt = (v4 b0 3).toInt) from ⟨hIv4, by omega, by omega, rfl, rfl⟩) (show (7 - (0 : Int32).toInt).toNat < 5000000000 from by omega)
      obtain ⟨hIs36, hss36_1, hss36_2, hss36_3, hss36_4⟩ := hss36
      refine (?_ : Sf (lpP _ _ (7 - s36.1.toInt).toNat _) _)
      have h17_ : 0 ≤ (s36.2 b0 2).toInt ∧ (s36.2 b0 2).toInt ≤ 8 := ivX1_2 hb0 hIs36
      have h18_ : 0 ≤ (s36.2 b0 3).toInt ∧ (s36.2 b0 3).toInt ≤ 6 := ivX1_3 hb0 hIs36
      refine sf_ite (fun c19_ => ?_) (fun c19_ => ?_)
      · have rc19_ : s36.1.toInt < (s36.2 b0 3).toInt := by rw [Int32.lt_iff_toInt_lt] at c19_; omega
        refine sf_rd (by omega) (by omega) (fun x5 ex5 => ?_)
        have zz20_l : -2147483648 ≤ x5.toInt := Int32.le_toInt x5
        have zz20_h : x5.toInt ≤ 2147483647 := Int32.toInt_le x5
        have e21_ : 0 ≤ (x5 &&& r1).toInt ∧ (x5 &&& r1).toInt ≤ r1.toInt := i_and_r (by omega)
        refine sf_wr (by omega) (by omega) (fun w6 ew6 => ?_)
        have n22_ : (s36.1.toNatClampNeg : Int) = s36.1.toInt := i_clq (by omega)
        have hIw6 : Inv g w6 := by rw [ew6]; exact ubBr_5 hb0 hIs36
        have l_1 : (1 : Int32).toInt = 1 := by decide
        have e23_ : (s36.1 + (1 : Int32)).toInt = s36.1.toInt + (1 : Int32).toInt := i_add (by omega) (by omega)
        have h24_ : 0 ≤ (w6 b0 2).toInt ∧ (w6 b0 2).toInt ≤ 8 := ivX1_2 hb0 hIw6
        have k25_ : (w6 b0 2).toInt = (s36.2 b0 2).toInt := by rw [ew6, wu_ne (by omega)]
        have h26_ : 0 ≤ (w6 b0 3).toInt ∧ (w6 b0 3).toInt ≤ 6 := ivX1_3 hb0 hIw6
        have k27_ : (w6 b0 3).toInt = (s36.2 b0 3).toInt := by rw [ew6, wu_ne (by omega)]
        exact sf_some (show ((Inv g w6) ∧ (0 ≤ (s36.1 + (1 : Int32)).toInt) ∧ ((s36.1 + (1 : Int32)).toInt ≤ 6) ∧ ((w6 b0 2).toInt = (v4 b0 2).toInt) ∧ ((w6 b0 3).toInt = (v4 b0 3).toInt)) ∧ (7 - (s36.1 + (1 : Int32)).toInt).toNat < (7 - s36.1.toInt).toNat from ⟨⟨hIw6, by omega, by omega, by omega, by omega⟩, by omega⟩)
      · have rc19_ : ¬ s36.1.toInt < (s36.2 b0 3).toInt := by rw [Int32.lt_iff_toInt_lt] at c19_; omega
        exact sf_some (show (Inv g s36.2) ∧ ((s36.2 b0 2).toInt = (v4 b0 2).toInt) ∧ ((s36.2 b0 3).toInt = (v4 b0 3).toInt) from ⟨hIs36, by omega, by omega⟩)
    · obtain ⟨hIv7, hvv7_1, hvv7_2⟩ := hvv7
      have h28_ : 0 ≤ (v7 b0 2).toInt ∧ (v7 b0 2).toInt ≤ 8 := ivX1_2 hb0 hIv7
      have h29_ : 0 ≤ (v7 b0 3).toInt ∧ (v7 b0 3).toInt ≤ 6 := ivX1_3 hb0 hIv7
      refine sf_bind (Q := fun (v10 : Mem) => (Inv g v10) ∧ ((v10 b0 2).toInt = (v7 b0 2).toInt) ∧ ((v10 b0 3).toInt = (v7 b0 3).toInt)) ?_ (fun v10 hqv10 hvv10 => ?_)
      · have l_1 : (1 : Int32).toInt = 1 := by decide
        refine sf_lp (fun (s62 : (Int32 × Mem)) => (Inv g s62.2) ∧ (1 ≤ s62.1.toInt) ∧ (s62.1.toInt ≤ 256) ∧ ((s62.2 b0 2).toInt = (v7 b0 2).toInt) ∧ ((s62.2 b0 3).toInt = (v7 b0 3).toInt)) (fun (s62 : (Int32 × Mem)) => (257 - s62.1.toInt).toNat) (fun s62 hss62 => ?_) _ _ (show (Inv g v7) ∧ (1 ≤ (1 : Int32).toInt) ∧ ((1 : Int32).toInt ≤ 256) ∧ ((v7 b0 2).toInt = (v7 b0 2).toInt) ∧ ((v7 b0 3).toInt = (v7 b0 3).toInt) from ⟨hIv7, by omega, by omega, rfl, rfl⟩) (show (257 - (1 : Int32).toInt).toNat < 5000000000 from by omega)
        obtain ⟨hIs62, hss62_1, hss62_2, hss62_3, hss62_4⟩ := hss62
        refine (?_ : Sf (lpP _ _ (257 - s62.1.toInt).toNat _) _)
        have h30_ : 0 ≤ (s62.2 b0 2).toInt ∧ (s62.2 b0 2).toInt ≤ 8 := ivX1_2 hb0 hIs62
        have h31_ : 0 ≤ (s62.2 b0 3).toInt ∧ (s62.2 b0 3).toInt ≤ 6 := ivX1_3 hb0 hIs62
        refine sf_ite (fun c32_ => ?_) (fun c32_ => ?_)
        · have rc32_ : r1.toInt < s62.1.toInt := by rw [Int32.lt_iff_toInt_lt] at c32_; omega
          exact sf_some (show (Inv g s62.2) ∧ ((s62.2 b0 2).toInt = (v7 b0 2).toInt) ∧ ((s62.2 b0 3).toInt = (v7 b0 3).toInt) from ⟨hIs62, by omega, by omega⟩)
        · have rc32_ : ¬ r1.toInt < s62.1.toInt := by rw [Int32.lt_iff_toInt_lt] at c32_; omega
          refine sf_bind (sf_X1_beginnersOf b0 hb0 s62.1 s62.2 hIs62 (by omega) (by omega)) (fun r8 hqr8 hpr8 => ?_)
          have zz33_l : -2147483648 ≤ r8.toInt := Int32.le_toInt r8
          have zz33_h : r8.toInt ≤ 2147483647 := Int32.toInt_le r8
          refine sf_wr (by omega) (by omega) (fun w9 ew9 => ?_)
          have n34_ : (s62.1.toNatClampNeg : Int) = s62.1.toInt := i_clq (by omega)
          have hIw9 : Inv g w9 := by rw [ew9]; exact ubBr_6 hb0 hIs62
          have e35_ : (s62.1 + (1 : Int32)).toInt = s62.1.toInt + (1 : Int32).toInt := i_add (by omega) (by omega)
          have h36_ : 0 ≤ (w9 b0 2).toInt ∧ (w9 b0 2).toInt ≤ 8 := ivX1_2 hb0 hIw9
          have k37_ : (w9 b0 2).toInt = (s62.2 b0 2).toInt := by rw [ew9, wu_ne (by omega)]
          have h38_ : 0 ≤ (w9 b0 3).toInt ∧ (w9 b0 3).toInt ≤ 6 := ivX1_3 hb0 hIw9
          have k39_ : (w9 b0 3).toInt = (s62.2 b0 3).toInt := by rw [ew9, wu_ne (by omega)]
          exact sf_some (show ((Inv g w9) ∧ (1 ≤ (s62.1 + (1 : Int32)).toInt) ∧ ((s62.1 + (1 : Int32)).toInt ≤ 256) ∧ ((w9 b0 2).toInt = (v7 b0 2).toInt) ∧ ((w9 b0 3).toInt = (v7 b0 3).toInt)) ∧ (257 - (s62.1 + (1 : Int32)).toInt).toNat < (257 - s62.1.toInt).toNat from ⟨⟨hIw9, by omega, by omega, by omega, by omega⟩, by omega⟩)
      · obtain ⟨hIv10, hvv10_1, hvv10_2⟩ := hvv10
        have h40_ : 0 ≤ (v10 b0 2).toInt ∧ (v10 b0 2).toInt ≤ 8 := ivX1_2 hb0 hIv10
        have h41_ : 0 ≤ (v10 b0 3).toInt ∧ (v10 b0 3).toInt ≤ 6 := ivX1_3 hb0 hIv10
        exact sf_some (show (Inv g v10) from hIv10)
