set_option maxRecDepth 20000 in
set_option maxHeartbeats 2000000 in
theorem sf_X9_seed {g : Nat → Int} (a1 : Int32) (w : Mem) (hI : Inv g w) : Sf (fun (q : Int32 × Mem) => (Inv g q.2)) (f_X9_seed a1 w) := by
  obtain ⟨hg0, hg1⟩ := hI.1
  unfold f_X9_seed
  have zz1_l : -2147483648 ≤ a1.toInt := Int32.le_toInt a1
  have zz1_h : a1.toInt ≤ 2147483647 := Int32.toInt_le a1
  have l_0 : (0 : Int32).toInt = 0 := by decide
  refine sf_ite (fun c2_ => ?_) (fun c2_ => ?_)
  · have rc2_ : a1.toInt < 0 := by rw [Int32.lt_iff_toInt_lt] at c2_; omega
    have l_m1000000002 : (-1000000002 : Int32).toInt = -1000000002 := by decide
    exact sf_some (show (Inv g w) from hI)
  · have rc2_ : ¬ a1.toInt < 0 := by rw [Int32.lt_iff_toInt_lt] at c2_; omega
    refine sf_pw (fun w1 ew1 => ?_)
    have hIw1 : Inv g w1 := by rw [ew1]; exact uq_0_10 hI
    have zz3_l : -2147483648 ≤ (w 0 10).toInt := Int32.le_toInt (w 0 10)
    have zz3_h : (w 0 10).toInt ≤ 2147483647 := Int32.toInt_le (w 0 10)
    exact sf_some (show (Inv g w1) from hIw1)
set_option maxRecDepth 20000 in
set_option maxHeartbeats 2000000 in
theorem sf_X9_keep {g : Nat → Int} (a1 : Int32) (w : Mem) (hI : Inv g w) : Sf (fun (q : Int32 × Mem) => (Inv g q.2)) (f_X9_keep a1 w) := by
  obtain ⟨hg0, hg1⟩ := hI.1
  unfold f_X9_keep
  have zz1_l : -2147483648 ≤ a1.toInt := Int32.le_toInt a1
  have zz1_h : a1.toInt ≤ 2147483647 := Int32.toInt_le a1
  have l_0 : (0 : Int32).toInt = 0 := by decide
  refine sf_ite (fun c2_ => ?_) (fun c2_ => ?_)
  · have rc2_ : a1.toInt < 0 := by rw [Int32.lt_iff_toInt_lt] at c2_; omega
    have l_m1000000001 : (-1000000001 : Int32).toInt = -1000000001 := by decide
    exact sf_some (show (Inv g w) from hI)
  · have rc2_ : ¬ a1.toInt < 0 := by rw [Int32.lt_iff_toInt_lt] at c2_; omega
    have l_2 : (2 : Int32).toInt = 2 := by decide
    refine sf_ite (fun c3_ => ?_) (fun c3_ => ?_)
    · have rc3_ : a1.toInt < 2 := by rw [Int32.lt_iff_toInt_lt] at c3_; omega
      refine sf_ri (by omega) (by omega) (fun o1 eo1 ho1 mo1 => ?_)
      refine sf_bind (sf_X3_copyFrom (o1 + 1) (ev_im ho1) 3 (Or.inl rfl) w hI) (fun w2 hqw2 hpw2 => ?_)
      have hIw2 := hpw2
      have zz4_l : -2147483648 ≤ (w 0 10).toInt := Int32.le_toInt (w 0 10)
      have zz4_h : (w 0 10).toInt ≤ 2147483647 := Int32.toInt_le (w 0 10)
      have k5_ : (w2 0 10).toInt = (w 0 10).toInt := congrArg Int32.toInt (fr_X3_copyFrom (o1 + 1) (ev_im ho1) 3 (Or.inl rfl) w w2 hqw2 0 10 (by omega))
      have zz6_l : -2147483648 ≤ (w2 0 10).toInt := Int32.le_toInt (w2 0 10)
      have zz6_h : (w2 0 10).toInt ≤ 2147483647 := Int32.toInt_le (w2 0 10)
      refine sf_pw (fun w3 ew3 => ?_)
      have hIw3 : Inv g w3 := by rw [ew3]; exact uqX4_1 ho1 hIw2
      have l_1 : (1 : Int32).toInt = 1 := by decide
      refine sf_pw (fun w4 ew4 => ?_)
      have hIw4 : Inv g w4 := by rw [ew4]; exact upX4_2 ho1 hIw3 (show 0 ≤ (1 : Int32).toInt ∧ (1 : Int32).toInt ≤ 1 from by omega)
      refine sf_bind (sf_X6_forget  w4 hIw4) (fun w5 hqw5 hpw5 => ?_)
      have hIw5 := hpw5
      exact sf_some (show (Inv g w5) from hIw5)
    · have rc3_ : ¬ a1.toInt < 2 := by rw [Int32.lt_iff_toInt_lt] at c3_; omega
      have l_m1000000001 : (-1000000001 : Int32).toInt = -1000000001 := by decide
      exact sf_some (show (Inv g w) from hI)
set_option maxRecDepth 20000 in
set_option maxHeartbeats 2000000 in
theorem sf_X9_goBack {g : Nat → Int} (a1 : Int32) (w : Mem) (hI : Inv g w) : Sf (fun (q : Int32 × Mem) => (Inv g q.2)) (f_X9_goBack a1 w) := by
  obtain ⟨hg0, hg1⟩ := hI.1
  unfold f_X9_goBack
  have zz1_l : -2147483648 ≤ a1.toInt := Int32.le_toInt a1
  have zz1_h : a1.toInt ≤ 2147483647 := Int32.toInt_le a1
  have l_0 : (0 : Int32).toInt = 0 := by decide
  refine sf_ite (fun c2_ => ?_) (fun c2_ => ?_)
  · have rc2_ : a1.toInt < 0 := by rw [Int32.lt_iff_toInt_lt] at c2_; omega
    have l_m1000000001 : (-1000000001 : Int32).toInt = -1000000001 := by decide
    exact sf_some (show (Inv g w) from hI)
  · have rc2_ : ¬ a1.toInt < 0 := by rw [Int32.lt_iff_toInt_lt] at c2_; omega
    have l_2 : (2 : Int32).toInt = 2 := by decide
    refine sf_ite (fun c3_ => ?_) (fun c3_ => ?_)
    · have rc3_ : a1.toInt < 2 := by rw [Int32.lt_iff_toInt_lt] at c3_; omega
      refine sf_ri (by omega) (by omega) (fun o1 eo1 ho1 mo1 => ?_)
      have h4_ : 0 ≤ (w o1 2).toInt ∧ (w o1 2).toInt ≤ 1 := ivX4_2 ho1 hI
      refine sf_ite (fun c5_ => ?_) (fun c5_ => ?_)
      · have rc5_ : (w o1 2).toInt = 0 := by rw [i_eq_iff] at c5_; omega
        have l_m1000000003 : (-1000000003 : Int32).toInt = -1000000003 := by decide
        exact sf_some (show (Inv g w) from hI)
      · have rc5_ : ¬ (w o1 2).toInt = 0 := by rw [i_eq_iff] at c5_; omega
        refine sf_bind (sf_X3_copyFrom 3 (Or.inl rfl) (o1 + 1) (ev_im ho1) w hI) (fun w2 hqw2 hpw2 => ?_)
        have hIw2 := hpw2
        have zz6_l : -2147483648 ≤ (w2 o1 1).toInt := Int32.le_toInt (w2 o1 1)
        have zz6_h : (w2 o1 1).toInt ≤ 2147483647 := Int32.toInt_le (w2 o1 1)
        refine sf_pw (fun w3 ew3 => ?_)
        have hIw3 : Inv g w3 := by rw [ew3]; exact uq_0_10 hIw2
        refine sf_bind (sf_X6_forget  w3 hIw3) (fun w4 hqw4 hpw4 => ?_)
        have hIw4 := hpw4
        have l_1 : (1 : Int32).toInt = 1 := by decide
        exact sf_some (show (Inv g w4) from hIw4)
    · have rc3_ : ¬ a1.toInt < 2 := by rw [Int32.lt_iff_toInt_lt] at c3_; omega
      have l_m1000000001 : (-1000000001 : Int32).toInt = -1000000001 := by decide
      exact sf_some (show (Inv g w) from hI)
set_option maxRecDepth 20000 in
set_option maxHeartbeats 2000000 in
theorem sf_X10_in (a0 : Int32) (a1 : Int32) (a2 : Int32) : Sf (fun (q : Int32) => (0 ≤ q.toInt ∧ q.toInt ≤ 1) ∧ (q.toInt = 0 ∨ (a1.toInt ≤ a0.toInt ∧ a0.toInt ≤ a2.toInt))) (f_X10_in a0 a1 a2) := by
  unfold f_X10_in
  have zz1_l : -2147483648 ≤ a0.toInt := Int32.le_toInt a0
  have zz1_h : a0.toInt ≤ 2147483647 := Int32.toInt_le a0
  have zz2_l : -2147483648 ≤ a1.toInt := Int32.le_toInt a1
  have zz2_h : a1.toInt ≤ 2147483647 := Int32.toInt_le a1
  refine sf_ite (fun c3_ => ?_) (fun c3_ => ?_)
  · have rc3_ : a0.toInt < a1.toInt := by rw [Int32.lt_iff_toInt_lt] at c3_; omega
    have l_0 : (0 : Int32).toInt = 0 := by decide
    exact sf_some (show (0 ≤ (0 : Int32).toInt ∧ (0 : Int32).toInt ≤ 1) ∧ ((0 : Int32).toInt = 0 ∨ (a1.toInt ≤ a0.toInt ∧ a0.toInt ≤ a2.toInt)) from ⟨by omega, by omega⟩)
  · have rc3_ : ¬ a0.toInt < a1.toInt := by rw [Int32.lt_iff_toInt_lt] at c3_; omega
    have zz4_l : -2147483648 ≤ a2.toInt := Int32.le_toInt a2
    have zz4_h : a2.toInt ≤ 2147483647 := Int32.toInt_le a2
    refine sf_ite (fun c5_ => ?_) (fun c5_ => ?_)
    · have rc5_ : a2.toInt < a0.toInt := by rw [Int32.lt_iff_toInt_lt] at c5_; omega
      have l_0 : (0 : Int32).toInt = 0 := by decide
      exact sf_some (show (0 ≤ (0 : Int32).toInt ∧ (0 : Int32).toInt ≤ 1) ∧ ((0 : Int32).toInt = 0 ∨ (a1.toInt ≤ a0.toInt ∧ a0.toInt ≤ a2.toInt)) from ⟨by omega, by omega⟩)
    · have rc5_ : ¬ a2.toInt < a0.toInt := by rw [Int32.lt_iff_toInt_lt] at c5_; omega
      have l_1 : (1 : Int32).toInt = 1 := by decide
      exact sf_some (show (0 ≤ (1 : Int32).toInt ∧ (1 : Int32).toInt ≤ 1) ∧ ((1 : Int32).toInt = 0 ∨ (a1.toInt ≤ a0.toInt ∧ a0.toInt ≤ a2.toInt)) from ⟨by omega, by omega⟩)
set_option maxRecDepth 20000 in
set_option maxHeartbeats 2000000 in
theorem sf_X10_feed {g : Nat → Int} (a1 : Int32) (w : Mem) (hI : Inv g w) : Sf (fun (q : Int32 × Mem) => (Inv g q.2)) (f_X10_feed a1 w) := by
  obtain ⟨hg0, hg1⟩ := hI.1
  unfold f_X10_feed
  have zz1_l : -2147483648 ≤ a1.toInt := Int32.le_toInt a1
  have zz1_h : a1.toInt ≤ 2147483647 := Int32.toInt_le a1
  have l_0 : (0 : Int32).toInt = 0 := by decide
  have l_255 : (255 : Int32).toInt = 255 := by decide
  refine sf_bind (sf_X10_in a1 (0 : Int32) (255 : Int32)) (fun r1 hqr1 hpr1 => ?_)
  obtain ⟨hpr1_0, hpr1_1⟩ := hpr1
  refine sf_ite (fun c2_ => ?_) (fun c2_ => ?_)
  · have rc2_ : r1.toInt = 0 := by rw [i_eq_iff] at c2_; omega
    have l_m1000000002 : (-1000000002 : Int32).toInt = -1000000002 := by decide
    exact sf_some (show (Inv g w) from hI)
  · have rc2_ : ¬ r1.toInt = 0 := by rw [i_eq_iff] at c2_; omega
    have h3_ : 0 ≤ (w 134 0).toInt ∧ (w 134 0).toInt ≤ 240 := iv_134_0 hI
    have l_240 : (240 : Int32).toInt = 240 := by decide
    refine sf_ite (fun c4_ => ?_) (fun c4_ => ?_)
    · have rc4_ : (w 134 0).toInt = 240 := by rw [i_eq_iff] at c4_; omega
      have l_m1000000004 : (-1000000004 : Int32).toInt = -1000000004 := by decide
      exact sf_some (show (Inv g w) from hI)
    · have rc4_ : ¬ (w 134 0).toInt = 240 := by rw [i_eq_iff] at c4_; omega
      refine sf_wr (by omega) (by omega) (fun w2 ew2 => ?_)
      have n5_ : ((w 134 0).toNatClampNeg : Int) = (w 134 0).toInt := i_clq (by omega)
      have hIw2 : Inv g w2 := by rw [ew2]; exact ub_135 hI
      have h6_ : 0 ≤ (w2 134 0).toInt ∧ (w2 134 0).toInt ≤ 240 := iv_134_0 hIw2
      have k7_ : (w2 134 0).toInt = (w 134 0).toInt := by rw [ew2, wu_ne (by omega)]
      have l_1 : (1 : Int32).toInt = 1 := by decide
      have e8_ : ((w2 134 0) + (1 : Int32)).toInt = (w2 134 0).toInt + (1 : Int32).toInt := i_add (by omega) (by omega)
      refine sf_pw (fun w3 ew3 => ?_)
      have hIw3 : Inv g w3 := by rw [ew3]; exact up_134_0 hIw2 (show 0 ≤ ((w2 134 0) + (1 : Int32)).toInt ∧ ((w2 134 0) + (1 : Int32)).toInt ≤ 240 from by omega)
      have h9_ : 0 ≤ (w3 134 0).toInt ∧ (w3 134 0).toInt ≤ 240 := iv_134_0 hIw3
      have k10_ : (w3 134 0).toInt = ((w2 134 0) + (1 : Int32)).toInt := by rw [ew3, wu_at]
      exact sf_some (show (Inv g w3) from hIw3)
set_option maxRecDepth 20000 in
set_option maxHeartbeats 2000000 in
theorem sf_X10_letterAt {g : Nat → Int} (a1 : Int32) (w : Mem) (hI : Inv g w) (pre0 : 0 ≤ a1.toInt) : Sf (fun (q : Int32) => (q.toInt = -1 ∨ a1.toInt < (w 134 0).toInt)) (f_X10_letterAt a1 w) := by
  obtain ⟨hg0, hg1⟩ := hI.1
  unfold f_X10_letterAt
  have zz1_l : -2147483648 ≤ a1.toInt := Int32.le_toInt a1
  have zz1_h : a1.toInt ≤ 2147483647 := Int32.toInt_le a1
  have h2_ : 0 ≤ (w 134 0).toInt ∧ (w 134 0).toInt ≤ 240 := iv_134_0 hI
  refine sf_ite (fun c3_ => ?_) (fun c3_ => ?_)
  · have rc3_ : a1.toInt < (w 134 0).toInt := by rw [Int32.lt_iff_toInt_lt] at c3_; omega
    refine sf_rd (by omega) (by omega) (fun x1 ex1 => ?_)
    have zz4_l : -2147483648 ≤ x1.toInt := Int32.le_toInt x1
    have zz4_h : x1.toInt ≤ 2147483647 := Int32.toInt_le x1
    exact sf_some (show (x1.toInt = -1 ∨ a1.toInt < (w 134 0).toInt) from by omega)
  · have rc3_ : ¬ a1.toInt < (w 134 0).toInt := by rw [Int32.lt_iff_toInt_lt] at c3_; omega
    have l_m1 : (-1 : Int32).toInt = -1 := by decide
    exact sf_some (show ((-1 : Int32).toInt = -1 ∨ a1.toInt < (w 134 0).toInt) from by omega)
set_option maxRecDepth 20000 in
set_option maxHeartbeats 2000000 in
theorem sf_X10_nextLetter {g : Nat → Int} (w : Mem) (hI : Inv g w) : Sf (fun (q : Int32 × Mem) => (Inv g q.2) ∧ (q.1.toInt = -1 ∨ (q.2 134 2).toInt < (q.2 134 0).toInt) ∧ ((w 134 2).toInt ≤ (q.2 134 2).toInt) ∧ ((q.2 134 2).toInt ≤ 240 ∨ (q.2 134 2).toInt = (w 134 2).toInt)) (f_X10_nextLetter w) := by
  obtain ⟨hg0, hg1⟩ := hI.1
  unfold f_X10_nextLetter
  refine sf_bind (Q := fun (v3 : Mem) => (Inv g v3) ∧ ((v3 134 0).toInt = (w 134 0).toInt) ∧ ((w 134 2).toInt ≤ (v3 134 2).toInt) ∧ ((v3 134 2).toInt ≤ 240 ∨ (v3 134 2).toInt = (w 134 2).toInt)) ?_ (fun v3 hqv3 hvv3 => ?_)
  · have h1_ : 0 ≤ (w 134 0).toInt ∧ (w 134 0).toInt ≤ 240 := iv_134_0 hI
    have h2_ : 0 ≤ (w 134 2).toInt ∧ (w 134 2).toInt ≤ 241 := iv_134_2 hI
    refine sf_lp (fun (s0 : Mem) => (Inv g s0) ∧ ((s0 134 0).toInt = (w 134 0).toInt) ∧ ((w 134 2).toInt ≤ (s0 134 2).toInt) ∧ ((s0 134 2).toInt ≤ 240 ∨ (s0 134 2).toInt = (w 134 2).toInt)) (fun (s0 : Mem) => (242 - (s0 134 2).toInt).toNat) (fun s0 hss0 => ?_) _ _ (show (Inv g w) ∧ ((w 134 0).toInt = (w 134 0).toInt) ∧ ((w 134 2).toInt ≤ (w 134 2).toInt) ∧ ((w 134 2).toInt ≤ 240 ∨ (w 134 2).toInt = (w 134 2).toInt) from ⟨hI, rfl, by omega, by omega⟩) (show (242 - (w 134 2).toInt).toNat < 5000000000 from by omega)
    obtain ⟨hIs0, hss0_1, hss0_2, hss0_3⟩ := hss0
    refine (?_ : Sf (lpP _ _ (242 - (s0 134 2).toInt).toNat _) _)
    have h3_ : 0 ≤ (s0 134 0).toInt ∧ (s0 134 0).toInt ≤ 240 := iv_134_0 hIs0
    have h4_ : 0 ≤ (s0 134 2).toInt ∧ (s0 134 2).toInt ≤ 241 := iv_134_2 hIs0
    refine sf_bind (sf_X10_letterAt (s0 134 2) s0 hIs0 (by omega)) (fun r1 hqr1 hpr1 => ?_)
    have hpr1_0 := hpr1
    have zz5_l : -2147483648 ≤ r1.toInt := Int32.le_toInt r1
    have zz5_h : r1.toInt ≤ 2147483647 := Int32.toInt_le r1
    have l_32 : (32 : Int32).toInt = 32 := by decide
    refine sf_ite (fun c6_ => ?_) (fun c6_ => ?_)
    · have rc6_ : r1.toInt = 32 := by rw [i_eq_iff] at c6_; omega
      have l_1 : (1 : Int32).toInt = 1 := by decide
      have e7_ : ((s0 134 2) + (1 : Int32)).toInt = (s0 134 2).toInt + (1 : Int32).toInt := i_add (by omega) (by omega)
      refine sf_pw (fun w2 ew2 => ?_)
      have hIw2 : Inv g w2 := by rw [ew2]; exact up_134_2 hIs0 (show 0 ≤ ((s0 134 2) + (1 : Int32)).toInt ∧ ((s0 134 2) + (1 : Int32)).toInt ≤ 241 from by omega)
      have h8_ : 0 ≤ (w2 134 0).toInt ∧ (w2 134 0).toInt ≤ 240 := iv_134_0 hIw2
      have k9_ : (w2 134 0).toInt = (s0 134 0).toInt := by rw [ew2, wu_ne (by omega)]
      have h10_ : 0 ≤ (w2 134 2).toInt ∧ (w2 134 2).toInt ≤ 241 := iv_134_2 hIw2
      have k11_ : (w2 134 2).toInt = ((s0 134 2) + (1 : Int32)).toInt := by rw [ew2, wu_at]
      exact sf_some (show ((Inv g w2) ∧ ((w2 134 0).toInt = (w 134 0).toInt) ∧ ((w 134 2).toInt ≤ (w2 134 2).toInt) ∧ ((w2 134 2).toInt ≤ 240 ∨ (w2 134 2).toInt = (w 134 2).toInt)) ∧ (242 - (w2 134 2).toInt).toNat < (242 - (s0 134 2).toInt).toNat from ⟨⟨hIw2, by omega, by omega, by omega⟩, by omega⟩)
    · have rc6_ : ¬ r1.toInt = 32 := by rw [i_eq_iff] at c6_; omega
      exact sf_some (show (Inv g s0) ∧ ((s0 134 0).toInt = (w 134 0).toInt) ∧ ((w 134 2).toInt ≤ (s0 134 2).toInt) ∧ ((s0 134 2).toInt ≤ 240 ∨ (s0 134 2).toInt = (w 134 2).toInt) from ⟨hIs0, by omega, by omega, by omega⟩)
  · obtain ⟨hIv3, hvv3_1, hvv3_2, hvv3_3⟩ := hvv3
    have h12_ : 0 ≤ (w 134 0).toInt ∧ (w 134 0).toInt ≤ 240 := iv_134_0 hI
    have h13_ : 0 ≤ (v3 134 0).toInt ∧ (v3 134 0).toInt ≤ 240 := iv_134_0 hIv3
    have h14_ : 0 ≤ (w 134 2).toInt ∧ (w 134 2).toInt ≤ 241 := iv_134_2 hI
    have h15_ : 0 ≤ (v3 134 2).toInt ∧ (v3 134 2).toInt ≤ 241 := iv_134_2 hIv3
    refine sf_bind (sf_X10_letterAt (v3 134 2) v3 hIv3 (by omega)) (fun r4 hqr4 hpr4 => ?_)
    have hpr4_0 := hpr4
    have zz16_l : -2147483648 ≤ r4.toInt := Int32.le_toInt r4
    have zz16_h : r4.toInt ≤ 2147483647 := Int32.toInt_le r4
    exact sf_some (show (Inv g v3) ∧ (r4.toInt = -1 ∨ (v3 134 2).toInt < (v3 134 0).toInt) ∧ ((w 134 2).toInt ≤ (v3 134 2).toInt) ∧ ((v3 134 2).toInt ≤ 240 ∨ (v3 134 2).toInt = (w 134 2).toInt) from ⟨hIv3, by omega, by omega, by omega⟩)
set_option maxRecDepth 20000 in
set_option maxHeartbeats 2000000 in
theorem sf_X10_fails {g : Nat → Int} (a1 : Int32) (a2 : Int32) (w : Mem) (hI : Inv g w) (pre0 : 0 ≤ a2.toInt) (pre1 : a2.toInt ≤ 241) : Sf (fun (q : Int32 × Mem) => (Inv g q.2) ∧ ((q.2 134 2).toInt = a2.toInt) ∧ (q.1.toInt = -1)) (f_X10_fails a1 a2 w) := by
  obtain ⟨hg0, hg1⟩ := hI.1
  unfold f_X10_fails
  have zz1_l : -2147483648 ≤ a1.toInt := Int32.le_toInt a1
  have zz1_h : a1.toInt ≤ 2147483647 := Int32.toInt_le a1
  refine sf_pw (fun w1 ew1 => ?_)
  have hIw1 : Inv g w1 := by rw [ew1]; exact uq_134_4 hI
  refine sf_pw (fun w2 ew2 => ?_)
  have hIw2 : Inv g w2 := by rw [ew2]; exact up_134_2 hIw1 (show 0 ≤ a2.toInt ∧ a2.toInt ≤ 241 from by omega)
  have l_m1 : (-1 : Int32).toInt = -1 := by decide
  have h2_ : 0 ≤ (w2 134 2).toInt ∧ (w2 134 2).toInt ≤ 241 := iv_134_2 hIw2
  have k3_ : (w2 134 2).toInt = a2.toInt := by rw [ew2, wu_at]
  exact sf_some (show (Inv g w2) ∧ ((w2 134 2).toInt = a2.toInt) ∧ ((-1 : Int32).toInt = -1) from ⟨hIw2, by omega, by omega⟩)
set_option maxRecDepth 20000 in
set_option maxHeartbeats 2000000 in
theorem sf_X10_readsNumber {g : Nat → Int} (a1 : Int32) (a2 : Int32) (w : Mem) (hI : Inv g w) : Sf (fun (q : Int32 × Mem) => (Inv g q.2) ∧ ((w 134 2).toInt ≤ (q.2 134 2).toInt) ∧ (q.1.toInt = -1 ∨ (a1.toInt ≤ q.1.toInt ∧ q.1.toInt ≤ a2.toInt))) (f_X10_readsNumber a1 a2 w) := by
  obtain ⟨hg0, hg1⟩ := hI.1
  have zz1_l : -2147483648 ≤ a1.toInt := Int32.le_toInt a1
  have zz1_h : a1.toInt ≤ 2147483647 := Int32.toInt_le a1
  have zz2_l : -2147483648 ≤ a2.toInt := Int32.le_toInt a2
  have zz2_h : a2.toInt ≤ 2147483647 := Int32.toInt_le a2
  unfold f_X10_readsNumber
  refine sf_bind (sf_X10_nextLetter  w hI) (fun q1 hqq1 hpq1 => ?_)
  obtain ⟨hIq1, hpq1_0, hpq1_1, hpq1_2⟩ := hpq1
  have h3_ : 0 ≤ (q1.2 134 2).toInt ∧ (q1.2 134 2).toInt ≤ 241 := iv_134_2 hIq1
  have h4_ : 0 ≤ (q1.2 134 0).toInt ∧ (q1.2 134 0).toInt ≤ 240 := iv_134_0 hIq1
  have h5_ : 0 ≤ (w 134 0).toInt ∧ (w 134 0).toInt ≤ 240 := iv_134_0 hI
  have k6_ : (q1.2 134 0).toInt = (w 134 0).toInt := congrArg Int32.toInt (fr_X10_nextLetter  w q1 hqq1 134 0 (by omega))
  have h7_ : 0 ≤ (w 134 2).toInt ∧ (w 134 2).toInt ≤ 241 := iv_134_2 hI
  have zz8_l : -2147483648 ≤ q1.1.toInt := Int32.le_toInt q1.1
  have zz8_h : q1.1.toInt ≤ 2147483647 := Int32.toInt_le q1.1
  have l_48 : (48 : Int32).toInt = 48 := by decide
  have l_57 : (57 : Int32).toInt = 57 := by decide
  refine sf_bind (sf_X10_in q1.1 (48 : Int32) (57 : Int32)) (fun r2 hqr2 hpr2 => ?_)
  obtain ⟨hpr2_0, hpr2_1⟩ := hpr2
  have l_0 : (0 : Int32).toInt = 0 := by decide
  refine sf_ite (fun c9_ => ?_) (fun c9_ => ?_)
  · have rc9_ : r2.toInt = 0 := by rw [i_eq_iff] at c9_; omega
    have l_1 : (1 : Int32).toInt = 1 := by decide
    refine sf_bind (sf_X10_fails (1 : Int32) (q1.2 134 2) q1.2 hIq1 (by omega) (by omega)) (fun q13 hqq13 hpq13 => ?_)
    obtain ⟨hIq13, hpq13_0, hpq13_1⟩ := hpq13
    have h10_ : 0 ≤ (q13.2 134 2).toInt ∧ (q13.2 134 2).toInt ≤ 241 := iv_134_2 hIq13
    have zz11_l : -2147483648 ≤ q13.1.toInt := Int32.le_toInt q13.1
    have zz11_h : q13.1.toInt ≤ 2147483647 := Int32.toInt_le q13.1
    exact sf_some (show (Inv g q13.2) ∧ ((w 134 2).toInt ≤ (q13.2 134 2).toInt) ∧ (q13.1.toInt = -1 ∨ (a1.toInt ≤ q13.1.toInt ∧ q13.1.toInt ≤ a2.toInt)) from ⟨hIq13, by omega, by omega⟩)
  · have rc9_ : ¬ r2.toInt = 0 := by rw [i_eq_iff] at c9_; omega
    refine sf_pw (fun w3 ew3 => ?_)
    have hIw3 : Inv g w3 := by rw [ew3]; exact uq_134_3 hIq1
    refine sf_bind (Q := fun (v9 : (Int32 × Mem)) => (Inv g v9.2) ∧ ((v9.2 134 3).toInt = (w3 134 3).toInt) ∧ ((w 134 2).toInt ≤ (v9.2 134 2).toInt)) ?_ (fun v9 hqv9 hvv9 => ?_)
    · have k12_ : (w3 134 3).toInt = (q1.2 134 2).toInt := by rw [ew3, wu_at]
      have h13_ : 0 ≤ (w3 134 2).toInt ∧ (w3 134 2).toInt ≤ 241 := iv_134_2 hIw3
      have k14_ : (w3 134 2).toInt = (q1.2 134 2).toInt := by rw [ew3, wu_ne (by omega)]
      refine sf_lp (fun (s34 : (Int32 × Mem)) => (Inv g s34.2) ∧ ((s34.2 134 3).toInt = (w3 134 3).toInt) ∧ ((s34.2 134 3).toInt ≤ (s34.2 134 2).toInt) ∧ ((w 134 2).toInt ≤ (s34.2 134 2).toInt)) (fun (s34 : (Int32 × Mem)) => (242 - (s34.2 134 2).toInt).toNat) (fun s34 hss34 => ?_) _ _ (show (Inv g w3) ∧ ((w3 134 3).toInt = (w3 134 3).toInt) ∧ ((w3 134 3).toInt ≤ (w3 134 2).toInt) ∧ ((w 134 2).toInt ≤ (w3 134 2).toInt) from ⟨hIw3, rfl, by omega, by omega⟩) (show (242 - (w3 134 2).toInt).toNat < 5000000000 from by omega)
      obtain ⟨hIs34, hss34_1, hss34_2, hss34_3⟩ := hss34
      refine (?_ : Sf (lpP _ _ (242 - (s34.2 134 2).toInt).toNat _) _)
      have h15_ : 0 ≤ (s34.2 134 2).toInt ∧ (s34.2 134 2).toInt ≤ 241 := iv_134_2 hIs34
      refine sf_bind (sf_X10_letterAt (s34.2 134 2) s34.2 hIs34 (by omega)) (fun r4 hqr4 hpr4 => ?_)
      have hpr4_0 := hpr4
      have h16_ : 0 ≤ (s34.2 134 0).toInt ∧ (s34.2 134 0).toInt ≤ 240 := iv_134_0 hIs34
      have zz17_l : -2147483648 ≤ r4.toInt := Int32.le_toInt r4
      have zz17_h : r4.toInt ≤ 2147483647 := Int32.toInt_le r4
      refine sf_bind (sf_X10_in r4 (48 : Int32) (57 : Int32)) (fun r5 hqr5 hpr5 => ?_)
      obtain ⟨hpr5_0, hpr5_1⟩ := hpr5
      refine sf_ite (fun c18_ => ?_) (fun c18_ => ?_)
      · have rc18_ : r5.toInt = 0 := by rw [i_eq_iff] at c18_; omega
        have zz19_l : -2147483648 ≤ s34.1.toInt := Int32.le_toInt s34.1
        have zz19_h : s34.1.toInt ≤ 2147483647 := Int32.toInt_le s34.1
        exact sf_some (show (Inv g s34.2) ∧ ((s34.2 134 3).toInt = (w3 134 3).toInt) ∧ ((w 134 2).toInt ≤ (s34.2 134 2).toInt) from ⟨hIs34, by omega, by omega⟩)
      · have rc18_ : ¬ r5.toInt = 0 := by rw [i_eq_iff] at c18_; omega
        refine sf_bind (Q := fun (v6 : Int32) => (True)) ?_ (fun v6 hqv6 hvv6 => ?_)
        · have l_999 : (999 : Int32).toInt = 999 := by decide
          have zz20_l : -2147483648 ≤ s34.1.toInt := Int32.le_toInt s34.1
          have zz20_h : s34.1.toInt ≤ 2147483647 := Int32.toInt_le s34.1
          refine sf_ite (fun c21_ => ?_) (fun c21_ => ?_)
          · have rc21_ : 999 < s34.1.toInt := by rw [Int32.lt_iff_toInt_lt] at c21_; omega
            exact sf_some (show (True) from trivial)
          · have rc21_ : ¬ 999 < s34.1.toInt := by rw [Int32.lt_iff_toInt_lt] at c21_; omega
            refine sf_bind (sf_X10_letterAt (s34.2 134 2) s34.2 hIs34 (by omega)) (fun r8 hqr8 hpr8 => ?_)
            have hpr8_0 := hpr8
            have l_10 : (10 : Int32).toInt = 10 := by decide
            have zz22_l : -2147483648 ≤ r8.toInt := Int32.le_toInt r8
            have zz22_h : r8.toInt ≤ 2147483647 := Int32.toInt_le r8
            exact sf_some (show (True) from trivial)
        · have hvv6_0 := hvv6
          have l_1 : (1 : Int32).toInt = 1 := by decide
          have e23_ : ((s34.2 134 2) + (1 : Int32)).toInt = (s34.2 134 2).toInt + (1 : Int32).toInt := i_add (by omega) (by omega)
          refine sf_pw (fun w7 ew7 => ?_)
          have hIw7 : Inv g w7 := by rw [ew7]; exact up_134_2 hIs34 (show 0 ≤ ((s34.2 134 2) + (1 : Int32)).toInt ∧ ((s34.2 134 2) + (1 : Int32)).toInt ≤ 241 from by omega)
          have zz24_l : -2147483648 ≤ v6.toInt := Int32.le_toInt v6
          have zz24_h : v6.toInt ≤ 2147483647 := Int32.toInt_le v6
          have k25_ : (w7 134 3).toInt = (s34.2 134 3).toInt := by rw [ew7, wu_ne (by omega)]
          have h26_ : 0 ≤ (w7 134 2).toInt ∧ (w7 134 2).toInt ≤ 241 := iv_134_2 hIw7
          have k27_ : (w7 134 2).toInt = ((s34.2 134 2) + (1 : Int32)).toInt := by rw [ew7, wu_at]
          exact sf_some (show ((Inv g w7) ∧ ((w7 134 3).toInt = (w3 134 3).toInt) ∧ ((w7 134 3).toInt ≤ (w7 134 2).toInt) ∧ ((w 134 2).toInt ≤ (w7 134 2).toInt)) ∧ (242 - (w7 134 2).toInt).toNat < (242 - (s34.2 134 2).toInt).toNat from ⟨⟨hIw7, by omega, by omega, by omega⟩, by omega⟩)
    · obtain ⟨hIv9, hvv9_1, hvv9_2⟩ := hvv9
      have k28_ : (w3 134 3).toInt = (q1.2 134 2).toInt := by rw [ew3, wu_at]
      have h29_ : 0 ≤ (v9.2 134 2).toInt ∧ (v9.2 134 2).toInt ≤ 241 := iv_134_2 hIv9
      have l_3 : (3 : Int32).toInt = 3 := by decide
      have e30_ : ((v9.2 134 2) - (v9.2 134 3)).toInt = (v9.2 134 2).toInt - (v9.2 134 3).toInt := i_sub (by omega) (by omega)
      refine sf_ite (fun c31_ => ?_) (fun c31_ => ?_)
      · have rc31_ : 3 < ((v9.2 134 2) - (v9.2 134 3)).toInt := by rw [Int32.lt_iff_toInt_lt] at c31_; omega
        have l_2 : (2 : Int32).toInt = 2 := by decide
        refine sf_bind (sf_X10_fails (2 : Int32) (v9.2 134 3) v9.2 hIv9 (by omega) (by omega)) (fun q10 hqq10 hpq10 => ?_)
        obtain ⟨hIq10, hpq10_0, hpq10_1⟩ := hpq10
        have h32_ : 0 ≤ (q10.2 134 2).toInt ∧ (q10.2 134 2).toInt ≤ 241 := iv_134_2 hIq10
        have zz33_l : -2147483648 ≤ q10.1.toInt := Int32.le_toInt q10.1
        have zz33_h : q10.1.toInt ≤ 2147483647 := Int32.toInt_le q10.1
        exact sf_some (show (Inv g q10.2) ∧ ((w 134 2).toInt ≤ (q10.2 134 2).toInt) ∧ (q10.1.toInt = -1 ∨ (a1.toInt ≤ q10.1.toInt ∧ q10.1.toInt ≤ a2.toInt)) from ⟨hIq10, by omega, by omega⟩)
      · have rc31_ : ¬ 3 < ((v9.2 134 2) - (v9.2 134 3)).toInt := by rw [Int32.lt_iff_toInt_lt] at c31_; omega
        have zz34_l : -2147483648 ≤ v9.1.toInt := Int32.le_toInt v9.1
        have zz34_h : v9.1.toInt ≤ 2147483647 := Int32.toInt_le v9.1
        refine sf_bind (sf_X10_in v9.1 a1 a2) (fun r11 hqr11 hpr11 => ?_)
        obtain ⟨hpr11_0, hpr11_1⟩ := hpr11
        refine sf_ite (fun c35_ => ?_) (fun c35_ => ?_)
        · have rc35_ : r11.toInt = 0 := by rw [i_eq_iff] at c35_; omega
          have l_2 : (2 : Int32).toInt = 2 := by decide
          refine sf_bind (sf_X10_fails (2 : Int32) (v9.2 134 3) v9.2 hIv9 (by omega) (by omega)) (fun q12 hqq12 hpq12 => ?_)
          obtain ⟨hIq12, hpq12_0, hpq12_1⟩ := hpq12
          have h36_ : 0 ≤ (q12.2 134 2).toInt ∧ (q12.2 134 2).toInt ≤ 241 := iv_134_2 hIq12
          have zz37_l : -2147483648 ≤ q12.1.toInt := Int32.le_toInt q12.1
          have zz37_h : q12.1.toInt ≤ 2147483647 := Int32.toInt_le q12.1
          exact sf_some (show (Inv g q12.2) ∧ ((w 134 2).toInt ≤ (q12.2 134 2).toInt) ∧ (q12.1.toInt = -1 ∨ (a1.toInt ≤ q12.1.toInt ∧ q12.1.toInt ≤ a2.toInt)) from ⟨hIq12, by omega, by omega⟩)
        · have rc35_ : ¬ r11.toInt = 0 := by rw [i_eq_iff] at c35_; omega
          exact sf_some (show (Inv g v9.2) ∧ ((w 134 2).toInt ≤ (v9.2 134 2).toInt) ∧ (v9.1.toInt = -1 ∨ (a1.toInt ≤ v9.1.toInt ∧ v9.1.toInt ≤ a2.toInt)) from ⟨hIv9, by omega, by omega⟩)
set_option maxRecDepth 20000 in
set_option maxHeartbeats 2000000 in
theorem sf_X10_readsSign {g : Nat → Int} (a1 : Int32) (w : Mem) (hI : Inv g w) (pre0 : 0 ≤ a1.toInt) : Sf (fun (q : Int32 × Mem) => (Inv g q.2) ∧ (0 ≤ q.1.toInt ∧ q.1.toInt ≤ 1) ∧ ((w 134 2).toInt ≤ (q.2 134 2).toInt)) (f_X10_readsSign a1 w) := by
  obtain ⟨hg0, hg1⟩ := hI.1
  unfold f_X10_readsSign
  refine sf_bind (sf_X10_nextLetter  w hI) (fun q1 hqq1 hpq1 => ?_)
  obtain ⟨hIq1, hpq1_0, hpq1_1, hpq1_2⟩ := hpq1
  have h1_ : 0 ≤ (q1.2 134 2).toInt ∧ (q1.2 134 2).toInt ≤ 241 := iv_134_2 hIq1
  have h2_ : 0 ≤ (q1.2 134 0).toInt ∧ (q1.2 134 0).toInt ≤ 240 := iv_134_0 hIq1
  have h3_ : 0 ≤ (w 134 0).toInt ∧ (w 134 0).toInt ≤ 240 := iv_134_0 hI
  have k4_ : (q1.2 134 0).toInt = (w 134 0).toInt := congrArg Int32.toInt (fr_X10_nextLetter  w q1 hqq1 134 0 (by omega))
  have h5_ : 0 ≤ (w 134 2).toInt ∧ (w 134 2).toInt ≤ 241 := iv_134_2 hI
  have zz6_l : -2147483648 ≤ q1.1.toInt := Int32.le_toInt q1.1
  have zz6_h : q1.1.toInt ≤ 2147483647 := Int32.toInt_le q1.1
  have zz7_l : -2147483648 ≤ a1.toInt := Int32.le_toInt a1
  have zz7_h : a1.toInt ≤ 2147483647 := Int32.toInt_le a1
  refine sf_ite (fun c8_ => ?_) (fun c8_ => ?_)
  · have rc8_ : q1.1.toInt = a1.toInt := by rw [i_eq_iff] at c8_; omega
    have l_1 : (1 : Int32).toInt = 1 := by decide
    have e9_ : ((q1.2 134 2) + (1 : Int32)).toInt = (q1.2 134 2).toInt + (1 : Int32).toInt := i_add (by omega) (by omega)
    refine sf_pw (fun w2 ew2 => ?_)
    have hIw2 : Inv g w2 := by rw [ew2]; exact up_134_2 hIq1 (show 0 ≤ ((q1.2 134 2) + (1 : Int32)).toInt ∧ ((q1.2 134 2) + (1 : Int32)).toInt ≤ 241 from by omega)
    have h10_ : 0 ≤ (w2 134 2).toInt ∧ (w2 134 2).toInt ≤ 241 := iv_134_2 hIw2
    have k11_ : (w2 134 2).toInt = ((q1.2 134 2) + (1 : Int32)).toInt := by rw [ew2, wu_at]
    exact sf_some (show (Inv g w2) ∧ (0 ≤ (1 : Int32).toInt ∧ (1 : Int32).toInt ≤ 1) ∧ ((w 134 2).toInt ≤ (w2 134 2).toInt) from ⟨hIw2, by omega, by omega⟩)
  · have rc8_ : ¬ q1.1.toInt = a1.toInt := by rw [i_eq_iff] at c8_; omega
    have l_1 : (1 : Int32).toInt = 1 := by decide
    refine sf_bind (sf_X10_fails (1 : Int32) (q1.2 134 2) q1.2 hIq1 (by omega) (by omega)) (fun q3 hqq3 hpq3 => ?_)
    obtain ⟨hIq3, hpq3_0, hpq3_1⟩ := hpq3
    have h12_ : 0 ≤ (q3.2 134 2).toInt ∧ (q3.2 134 2).toInt ≤ 241 := iv_134_2 hIq3
    have l_0 : (0 : Int32).toInt = 0 := by decide
    exact sf_some (show (Inv g q3.2) ∧ (0 ≤ (0 : Int32).toInt ∧ (0 : Int32).toInt ≤ 1) ∧ ((w 134 2).toInt ≤ (q3.2 134 2).toInt) from ⟨hIq3, by omega, by omega⟩)
set_option maxRecDepth 20000 in
set_option maxHeartbeats 2000000 in
theorem sf_X10_readsTraveller {g : Nat → Int} (w : Mem) (hI : Inv g w) (pre0 : (w 134 9).toInt ≤ 5) : Sf (fun (q : Int32 × Mem) => (Inv g q.2) ∧ (0 ≤ q.1.toInt ∧ q.1.toInt ≤ 1) ∧ ((w 134 2).toInt ≤ (q.2 134 2).toInt)) (f_X10_readsTraveller w) := by
  obtain ⟨hg0, hg1⟩ := hI.1
  have h1_ : 0 ≤ (w 134 9).toInt ∧ (w 134 9).toInt ≤ 6 := iv_134_9 hI
  unfold f_X10_readsTraveller
  have l_0 : (0 : Int32).toInt = 0 := by decide
  have l_4 : (4 : Int32).toInt = 4 := by decide
  refine sf_bind (sf_X10_readsNumber (0 : Int32) (4 : Int32) w hI) (fun q1 hqq1 hpq1 => ?_)
  obtain ⟨hIq1, hpq1_0, hpq1_1⟩ := hpq1
  have h2_ : 0 ≤ (w 134 2).toInt ∧ (w 134 2).toInt ≤ 241 := iv_134_2 hI
  have h3_ : 0 ≤ (q1.2 134 2).toInt ∧ (q1.2 134 2).toInt ≤ 241 := iv_134_2 hIq1
  have zz4_l : -2147483648 ≤ q1.1.toInt := Int32.le_toInt q1.1
  have zz4_h : q1.1.toInt ≤ 2147483647 := Int32.toInt_le q1.1
  refine sf_wr (by omega) (by omega) (fun w2 ew2 => ?_)
  have n5_ : ((w 134 9).toNatClampNeg : Int) = (w 134 9).toInt := i_clq (by omega)
  have hIw2 : Inv g w2 := by rw [ew2]; exact ub_138 hIq1
  refine sf_rd (by omega) (by omega) (fun x3 ex3 => ?_)
  refine sf_bind (Q := fun (v4 : (Int32 × Mem)) => (Inv g v4.2) ∧ ((v4.2 134 9).toInt = (w2 134 9).toInt) ∧ ((w 134 2).toInt ≤ (v4.2 134 2).toInt)) ?_ (fun v4 hqv4 hvv4 => ?_)
  · have zz6_l : -2147483648 ≤ x3.toInt := Int32.le_toInt x3
    have zz6_h : x3.toInt ≤ 2147483647 := Int32.toInt_le x3
    have l_m1 : (-1 : Int32).toInt = -1 := by decide
    refine sf_ite (fun c7_ => ?_) (fun c7_ => ?_)
    · have rc7_ : x3.toInt = -1 := by rw [i_eq_iff] at c7_; omega
      have h8_ : 0 ≤ (w2 134 9).toInt ∧ (w2 134 9).toInt ≤ 6 := iv_134_9 hIw2
      have h9_ : 0 ≤ (q1.2 134 9).toInt ∧ (q1.2 134 9).toInt ≤ 6 := iv_134_9 hIq1
      have k10_ : (q1.2 134 9).toInt = (w 134 9).toInt := congrArg Int32.toInt (fr_X10_readsNumber (0 : Int32) (4 : Int32) w q1 hqq1 134 9 (by omega))
      have k11_ : (w2 134 9).toInt = (q1.2 134 9).toInt := by rw [ew2, wu_ne (by omega)]
      have h12_ : 0 ≤ (w2 134 2).toInt ∧ (w2 134 2).toInt ≤ 241 := iv_134_2 hIw2
      have k13_ : (w2 134 2).toInt = (q1.2 134 2).toInt := by rw [ew2, wu_ne (by omega)]
      exact sf_some (show (Inv g w2) ∧ ((w2 134 9).toInt = (w2 134 9).toInt) ∧ ((w 134 2).toInt ≤ (w2 134 2).toInt) from ⟨hIw2, rfl, by omega⟩)
    · have rc7_ : ¬ x3.toInt = -1 := by rw [i_eq_iff] at c7_; omega
      have l_9 : (9 : Int32).toInt = 9 := by decide
      refine sf_bind (sf_X10_readsNumber (0 : Int32) (9 : Int32) w2 hIw2) (fun q13 hqq13 hpq13 => ?_)
      obtain ⟨hIq13, hpq13_0, hpq13_1⟩ := hpq13
      have h14_ : 0 ≤ (w2 134 2).toInt ∧ (w2 134 2).toInt ≤ 241 := iv_134_2 hIw2
      have k15_ : (w2 134 2).toInt = (q1.2 134 2).toInt := by rw [ew2, wu_ne (by omega)]
      have h16_ : 0 ≤ (q13.2 134 2).toInt ∧ (q13.2 134 2).toInt ≤ 241 := iv_134_2 hIq13
      have zz17_l : -2147483648 ≤ q13.1.toInt := Int32.le_toInt q13.1
      have zz17_h : q13.1.toInt ≤ 2147483647 := Int32.toInt_le q13.1
      have h18_ : 0 ≤ (q13.2 134 9).toInt ∧ (q13.2 134 9).toInt ≤ 6 := iv_134_9 hIq13
      have h19_ : 0 ≤ (w2 134 9).toInt ∧ (w2 134 9).toInt ≤ 6 := iv_134_9 hIw2
      have h20_ : 0 ≤ (q1.2 134 9).toInt ∧ (q1.2 134 9).toInt ≤ 6 := iv_134_9 hIq1
      have k21_ : (q1.2 134 9).toInt = (w 134 9).toInt := congrArg Int32.toInt (fr_X10_readsNumber (0 : Int32) (4 : Int32) w q1 hqq1 134 9 (by omega))
      have k22_ : (w2 134 9).toInt = (q1.2 134 9).toInt := by rw [ew2, wu_ne (by omega)]
      have k23_ : (q13.2 134 9).toInt = (w2 134 9).toInt := congrArg Int32.toInt (fr_X10_readsNumber (0 : Int32) (9 : Int32) w2 q13 hqq13 134 9 (by omega))
      exact sf_some (show (Inv g q13.2) ∧ ((q13.2 134 9).toInt = (w2 134 9).toInt) ∧ ((w 134 2).toInt ≤ (q13.2 134 2).toInt) from ⟨hIq13, by omega, by omega⟩)
  · obtain ⟨hIv4, hvv4_1, hvv4_2⟩ := hvv4
    have h24_ : 0 ≤ (w2 134 9).toInt ∧ (w2 134 9).toInt ≤ 6 := iv_134_9 hIw2
    have h25_ : 0 ≤ (q1.2 134 9).toInt ∧ (q1.2 134 9).toInt ≤ 6 := iv_134_9 hIq1
    have k26_ : (q1.2 134 9).toInt = (w 134 9).toInt := congrArg Int32.toInt (fr_X10_readsNumber (0 : Int32) (4 : Int32) w q1 hqq1 134 9 (by omega))
    have k27_ : (w2 134 9).toInt = (q1.2 134 9).toInt := by rw [ew2, wu_ne (by omega)]
    have h28_ : 0 ≤ (v4.2 134 9).toInt ∧ (v4.2 134 9).toInt ≤ 6 := iv_134_9 hIv4
    have h29_ : 0 ≤ (v4.2 134 2).toInt ∧ (v4.2 134 2).toInt ≤ 241 := iv_134_2 hIv4
    have zz30_l : -2147483648 ≤ v4.1.toInt := Int32.le_toInt v4.1
    have zz30_h : v4.1.toInt ≤ 2147483647 := Int32.toInt_le v4.1
    refine sf_wr (by omega) (by omega) (fun w5 ew5 => ?_)
    have hIw5 : Inv g w5 := by rw [ew5]; exact ub_139 hIv4
    refine sf_rd (by omega) (by omega) (fun x6 ex6 => ?_)
    refine sf_bind (Q := fun (v7 : (Int32 × Mem)) => (Inv g v7.2) ∧ ((v7.2 134 9).toInt = (w5 134 9).toInt) ∧ ((w 134 2).toInt ≤ (v7.2 134 2).toInt)) ?_ (fun v7 hqv7 hvv7 => ?_)
    · have zz31_l : -2147483648 ≤ x6.toInt := Int32.le_toInt x6
      have zz31_h : x6.toInt ≤ 2147483647 := Int32.toInt_le x6
      have l_m1 : (-1 : Int32).toInt = -1 := by decide
      refine sf_ite (fun c32_ => ?_) (fun c32_ => ?_)
      · have rc32_ : x6.toInt = -1 := by rw [i_eq_iff] at c32_; omega
        have h33_ : 0 ≤ (w5 134 9).toInt ∧ (w5 134 9).toInt ≤ 6 := iv_134_9 hIw5
        have k34_ : (w5 134 9).toInt = (v4.2 134 9).toInt := by rw [ew5, wu_ne (by omega)]
        have h35_ : 0 ≤ (w5 134 2).toInt ∧ (w5 134 2).toInt ≤ 241 := iv_134_2 hIw5
        have k36_ : (w5 134 2).toInt = (v4.2 134 2).toInt := by rw [ew5, wu_ne (by omega)]
        exact sf_some (show (Inv g w5) ∧ ((w5 134 9).toInt = (w5 134 9).toInt) ∧ ((w 134 2).toInt ≤ (w5 134 2).toInt) from ⟨hIw5, rfl, by omega⟩)
      · have rc32_ : ¬ x6.toInt = -1 := by rw [i_eq_iff] at c32_; omega
        have l_255 : (255 : Int32).toInt = 255 := by decide
        refine sf_bind (sf_X10_readsNumber (0 : Int32) (255 : Int32) w5 hIw5) (fun q12 hqq12 hpq12 => ?_)
        obtain ⟨hIq12, hpq12_0, hpq12_1⟩ := hpq12
        have h37_ : 0 ≤ (w5 134 2).toInt ∧ (w5 134 2).toInt ≤ 241 := iv_134_2 hIw5
        have k38_ : (w5 134 2).toInt = (v4.2 134 2).toInt := by rw [ew5, wu_ne (by omega)]
        have h39_ : 0 ≤ (q12.2 134 2).toInt ∧ (q12.2 134 2).toInt ≤ 241 := iv_134_2 hIq12
        have zz40_l : -2147483648 ≤ q12.1.toInt := Int32.le_toInt q12.1
        have zz40_h : q12.1.toInt ≤ 2147483647 := Int32.toInt_le q12.1
        have h41_ : 0 ≤ (q12.2 134 9).toInt ∧ (q12.2 134 9).toInt ≤ 6 := iv_134_9 hIq12
        have h42_ : 0 ≤ (w5 134 9).toInt ∧ (w5 134 9).toInt ≤ 6 := iv_134_9 hIw5
        have k43_ : (w5 134 9).toInt = (v4.2 134 9).toInt := by rw [ew5, wu_ne (by omega)]
        have k44_ : (q12.2 134 9).toInt = (w5 134 9).toInt := congrArg Int32.toInt (fr_X10_readsNumber (0 : Int32) (255 : Int32) w5 q12 hqq12 134 9 (by omega))
        exact sf_some (show (Inv g q12.2) ∧ ((q12.2 134 9).toInt = (w5 134 9).toInt) ∧ ((w 134 2).toInt ≤ (q12.2 134 2).toInt) from ⟨hIq12, by omega, by omega⟩)
    · obtain ⟨hIv7, hvv7_1, hvv7_2⟩ := hvv7
      have h45_ : 0 ≤ (w5 134 9).toInt ∧ (w5 134 9).toInt ≤ 6 := iv_134_9 hIw5
      have k46_ : (w5 134 9).toInt = (v4.2 134 9).toInt := by rw [ew5, wu_ne (by omega)]
      have h47_ : 0 ≤ (v7.2 134 9).toInt ∧ (v7.2 134 9).toInt ≤ 6 := iv_134_9 hIv7
      have h48_ : 0 ≤ (v7.2 134 2).toInt ∧ (v7.2 134 2).toInt ≤ 241 := iv_134_2 hIv7
      have zz49_l : -2147483648 ≤ v7.1.toInt := Int32.le_toInt v7.1
      have zz49_h : v7.1.toInt ≤ 2147483647 := Int32.toInt_le v7.1
      refine sf_wr (by omega) (by omega) (fun w8 ew8 => ?_)
      have hIw8 : Inv g w8 := by rw [ew8]; exact ub_140 hIv7
      have h50_ : 0 ≤ (w8 134 9).toInt ∧ (w8 134 9).toInt ≤ 6 := iv_134_9 hIw8
      have k51_ : (w8 134 9).toInt = (v7.2 134 9).toInt := by rw [ew8, wu_ne (by omega)]
      have l_1 : (1 : Int32).toInt = 1 := by decide
      have e52_ : ((w8 134 9) + (1 : Int32)).toInt = (w8 134 9).toInt + (1 : Int32).toInt := i_add (by omega) (by omega)
      refine sf_pw (fun w9 ew9 => ?_)
      have hIw9 : Inv g w9 := by rw [ew9]; exact up_134_9 hIw8 (show 0 ≤ ((w8 134 9) + (1 : Int32)).toInt ∧ ((w8 134 9) + (1 : Int32)).toInt ≤ 6 from by omega)
      refine sf_rd (by omega) (by omega) (fun x10 ex10 => ?_)
      have zz53_l : -2147483648 ≤ x10.toInt := Int32.le_toInt x10
      have zz53_h : x10.toInt ≤ 2147483647 := Int32.toInt_le x10
      have l_m1 : (-1 : Int32).toInt = -1 := by decide
      refine sf_ite (fun c54_ => ?_) (fun c54_ => ?_)
      · have rc54_ : x10.toInt = -1 := by rw [i_eq_iff] at c54_; omega
        have h55_ : 0 ≤ (w9 134 2).toInt ∧ (w9 134 2).toInt ≤ 241 := iv_134_2 hIw9
        have h56_ : 0 ≤ (w8 134 2).toInt ∧ (w8 134 2).toInt ≤ 241 := iv_134_2 hIw8
        have k57_ : (w8 134 2).toInt = (v7.2 134 2).toInt := by rw [ew8, wu_ne (by omega)]
        have k58_ : (w9 134 2).toInt = (w8 134 2).toInt := by rw [ew9, wu_ne (by omega)]
        exact sf_some (show (Inv g w9) ∧ (0 ≤ (0 : Int32).toInt ∧ (0 : Int32).toInt ≤ 1) ∧ ((w 134 2).toInt ≤ (w9 134 2).toInt) from ⟨hIw9, by omega, by omega⟩)
      · have rc54_ : ¬ x10.toInt = -1 := by rw [i_eq_iff] at c54_; omega
        have l_59 : (59 : Int32).toInt = 59 := by decide
        refine sf_bind (sf_X10_readsSign (59 : Int32) w9 hIw9 (by omega)) (fun q11 hqq11 hpq11 => ?_)
        obtain ⟨hIq11, hpq11_0, hpq11_1⟩ := hpq11
        have h59_ : 0 ≤ (w9 134 2).toInt ∧ (w9 134 2).toInt ≤ 241 := iv_134_2 hIw9
        have h60_ : 0 ≤ (w8 134 2).toInt ∧ (w8 134 2).toInt ≤ 241 := iv_134_2 hIw8
        have k61_ : (w8 134 2).toInt = (v7.2 134 2).toInt := by rw [ew8, wu_ne (by omega)]
        have k62_ : (w9 134 2).toInt = (w8 134 2).toInt := by rw [ew9, wu_ne (by omega)]
        have h63_ : 0 ≤ (q11.2 134 2).toInt ∧ (q11.2 134 2).toInt ≤ 241 := iv_134_2 hIq11
        refine sf_ite (fun c64_ => ?_) (fun c64_ => ?_)
        · have rc64_ : q11.1.toInt = 0 := by rw [i_eq_iff] at c64_; omega
          exact sf_some (show (Inv g q11.2) ∧ (0 ≤ (0 : Int32).toInt ∧ (0 : Int32).toInt ≤ 1) ∧ ((w 134 2).toInt ≤ (q11.2 134 2).toInt) from ⟨hIq11, by omega, by omega⟩)
        · have rc64_ : ¬ q11.1.toInt = 0 := by rw [i_eq_iff] at c64_; omega
          exact sf_some (show (Inv g q11.2) ∧ (0 ≤ (1 : Int32).toInt ∧ (1 : Int32).toInt ≤ 1) ∧ ((w 134 2).toInt ≤ (q11.2 134 2).toInt) from ⟨hIq11, by omega, by omega⟩)
set_option maxRecDepth 20000 in
set_option maxHeartbeats 2000000 in
theorem sf_X10_readsMatter {g : Nat → Int} (w : Mem) (hI : Inv g w) (pre0 : (w 134 8).toInt ≤ 7) : Sf (fun (q : Int32 × Mem) => (Inv g q.2) ∧ (0 ≤ q.1.toInt ∧ q.1.toInt ≤ 1) ∧ ((w 134 2).toInt ≤ (q.2 134 2).toInt)) (f_X10_readsMatter w) := by
  obtain ⟨hg0, hg1⟩ := hI.1
  have h1_ : 0 ≤ (w 134 8).toInt ∧ (w 134 8).toInt ≤ 8 := iv_134_8 hI
  unfold f_X10_readsMatter
  have l_1 : (1 : Int32).toInt = 1 := by decide
  have l_60 : (60 : Int32).toInt = 60 := by decide
  refine sf_bind (sf_X10_readsNumber (1 : Int32) (60 : Int32) w hI) (fun q1 hqq1 hpq1 => ?_)
  obtain ⟨hIq1, hpq1_0, hpq1_1⟩ := hpq1
  have h2_ : 0 ≤ (w 134 2).toInt ∧ (w 134 2).toInt ≤ 241 := iv_134_2 hI
  have h3_ : 0 ≤ (q1.2 134 2).toInt ∧ (q1.2 134 2).toInt ≤ 241 := iv_134_2 hIq1
  have zz4_l : -2147483648 ≤ q1.1.toInt := Int32.le_toInt q1.1
  have zz4_h : q1.1.toInt ≤ 2147483647 := Int32.toInt_le q1.1
  refine sf_wr (by omega) (by omega) (fun w2 ew2 => ?_)
  have n5_ : ((w 134 8).toNatClampNeg : Int) = (w 134 8).toInt := i_clq (by omega)
  have hIw2 : Inv g w2 := by rw [ew2]; exact ub_136 hIq1
  refine sf_rd (by omega) (by omega) (fun x3 ex3 => ?_)
  refine sf_bind (Q := fun (v4 : (Int32 × Mem)) => (Inv g v4.2) ∧ ((v4.2 134 8).toInt = (w2 134 8).toInt) ∧ ((w 134 2).toInt ≤ (v4.2 134 2).toInt)) ?_ (fun v4 hqv4 hvv4 => ?_)
  · have zz6_l : -2147483648 ≤ x3.toInt := Int32.le_toInt x3
    have zz6_h : x3.toInt ≤ 2147483647 := Int32.toInt_le x3
    have l_m1 : (-1 : Int32).toInt = -1 := by decide
    refine sf_ite (fun c7_ => ?_) (fun c7_ => ?_)
    · have rc7_ : x3.toInt = -1 := by rw [i_eq_iff] at c7_; omega
      have h8_ : 0 ≤ (w2 134 8).toInt ∧ (w2 134 8).toInt ≤ 8 := iv_134_8 hIw2
      have h9_ : 0 ≤ (q1.2 134 8).toInt ∧ (q1.2 134 8).toInt ≤ 8 := iv_134_8 hIq1
      have k10_ : (q1.2 134 8).toInt = (w 134 8).toInt := congrArg Int32.toInt (fr_X10_readsNumber (1 : Int32) (60 : Int32) w q1 hqq1 134 8 (by omega))
      have k11_ : (w2 134 8).toInt = (q1.2 134 8).toInt := by rw [ew2, wu_ne (by omega)]
      have h12_ : 0 ≤ (w2 134 2).toInt ∧ (w2 134 2).toInt ≤ 241 := iv_134_2 hIw2
      have k13_ : (w2 134 2).toInt = (q1.2 134 2).toInt := by rw [ew2, wu_ne (by omega)]
      exact sf_some (show (Inv g w2) ∧ ((w2 134 8).toInt = (w2 134 8).toInt) ∧ ((w 134 2).toInt ≤ (w2 134 2).toInt) from ⟨hIw2, rfl, by omega⟩)
    · have rc7_ : ¬ x3.toInt = -1 := by rw [i_eq_iff] at c7_; omega
      have l_0 : (0 : Int32).toInt = 0 := by decide
      have l_255 : (255 : Int32).toInt = 255 := by decide
      refine sf_bind (sf_X10_readsNumber (0 : Int32) (255 : Int32) w2 hIw2) (fun q9 hqq9 hpq9 => ?_)
      obtain ⟨hIq9, hpq9_0, hpq9_1⟩ := hpq9
      have h14_ : 0 ≤ (w2 134 2).toInt ∧ (w2 134 2).toInt ≤ 241 := iv_134_2 hIw2
      have k15_ : (w2 134 2).toInt = (q1.2 134 2).toInt := by rw [ew2, wu_ne (by omega)]
      have h16_ : 0 ≤ (q9.2 134 2).toInt ∧ (q9.2 134 2).toInt ≤ 241 := iv_134_2 hIq9
      have zz17_l : -2147483648 ≤ q9.1.toInt := Int32.le_toInt q9.1
      have zz17_h : q9.1.toInt ≤ 2147483647 := Int32.toInt_le q9.1
      have h18_ : 0 ≤ (q9.2 134 8).toInt ∧ (q9.2 134 8).toInt ≤ 8 := iv_134_8 hIq9
      have h19_ : 0 ≤ (w2 134 8).toInt ∧ (w2 134 8).toInt ≤ 8 := iv_134_8 hIw2
      have h20_ : 0 ≤ (q1.2 134 8).toInt ∧ (q1.2 134 8).toInt ≤ 8 := iv_134_8 hIq1
      have k21_ : (q1.2 134 8).toInt = (w 134 8).toInt := congrArg Int32.toInt (fr_X10_readsNumber (1 : Int32) (60 : Int32) w q1 hqq1 134 8 (by omega))
      have k22_ : (w2 134 8).toInt = (q1.2 134 8).toInt := by rw [ew2, wu_ne (by omega)]
      have k23_ : (q9.2 134 8).toInt = (w2 134 8).toInt := congrArg Int32.toInt (fr_X10_readsNumber (0 : Int32) (255 : Int32) w2 q9 hqq9 134 8 (by omega))
      exact sf_some (show (Inv g q9.2) ∧ ((q9.2 134 8).toInt = (w2 134 8).toInt) ∧ ((w 134 2).toInt ≤ (q9.2 134 2).toInt) from ⟨hIq9, by omega, by omega⟩)
  · obtain ⟨hIv4, hvv4_1, hvv4_2⟩ := hvv4
    have h24_ : 0 ≤ (w2 134 8).toInt ∧ (w2 134 8).toInt ≤ 8 := iv_134_8 hIw2
    have h25_ : 0 ≤ (q1.2 134 8).toInt ∧ (q1.2 134 8).toInt ≤ 8 := iv_134_8 hIq1
    have k26_ : (q1.2 134 8).toInt = (w 134 8).toInt := congrArg Int32.toInt (fr_X10_readsNumber (1 : Int32) (60 : Int32) w q1 hqq1 134 8 (by omega))
    have k27_ : (w2 134 8).toInt = (q1.2 134 8).toInt := by rw [ew2, wu_ne (by omega)]
    have h28_ : 0 ≤ (v4.2 134 8).toInt ∧ (v4.2 134 8).toInt ≤ 8 := iv_134_8 hIv4
    have h29_ : 0 ≤ (v4.2 134 2).toInt ∧ (v4.2 134 2).toInt ≤ 241 := iv_134_2 hIv4
    have zz30_l : -2147483648 ≤ v4.1.toInt := Int32.le_toInt v4.1
    have zz30_h : v4.1.toInt ≤ 2147483647 := Int32.toInt_le v4.1
    refine sf_wr (by omega) (by omega) (fun w5 ew5 => ?_)
    have hIw5 : Inv g w5 := by rw [ew5]; exact ub_137 hIv4
    have h31_ : 0 ≤ (w5 134 8).toInt ∧ (w5 134 8).toInt ≤ 8 := iv_134_8 hIw5
    have k32_ : (w5 134 8).toInt = (v4.2 134 8).toInt := by rw [ew5, wu_ne (by omega)]
    have e33_ : ((w5 134 8) + (1 : Int32)).toInt = (w5 134 8).toInt + (1 : Int32).toInt := i_add (by omega) (by omega)
    refine sf_pw (fun w6 ew6 => ?_)
    have hIw6 : Inv g w6 := by rw [ew6]; exact up_134_8 hIw5 (show 0 ≤ ((w5 134 8) + (1 : Int32)).toInt ∧ ((w5 134 8) + (1 : Int32)).toInt ≤ 8 from by omega)
    refine sf_rd (by omega) (by omega) (fun x7 ex7 => ?_)
    have zz34_l : -2147483648 ≤ x7.toInt := Int32.le_toInt x7
    have zz34_h : x7.toInt ≤ 2147483647 := Int32.toInt_le x7
    have l_m1 : (-1 : Int32).toInt = -1 := by decide
    refine sf_ite (fun c35_ => ?_) (fun c35_ => ?_)
    · have rc35_ : x7.toInt = -1 := by rw [i_eq_iff] at c35_; omega
      have l_0 : (0 : Int32).toInt = 0 := by decide
      have h36_ : 0 ≤ (w6 134 2).toInt ∧ (w6 134 2).toInt ≤ 241 := iv_134_2 hIw6
      have h37_ : 0 ≤ (w5 134 2).toInt ∧ (w5 134 2).toInt ≤ 241 := iv_134_2 hIw5
      have k38_ : (w5 134 2).toInt = (v4.2 134 2).toInt := by rw [ew5, wu_ne (by omega)]
      have k39_ : (w6 134 2).toInt = (w5 134 2).toInt := by rw [ew6, wu_ne (by omega)]
      exact sf_some (show (Inv g w6) ∧ (0 ≤ (0 : Int32).toInt ∧ (0 : Int32).toInt ≤ 1) ∧ ((w 134 2).toInt ≤ (w6 134 2).toInt) from ⟨hIw6, by omega, by omega⟩)
    · have rc35_ : ¬ x7.toInt = -1 := by rw [i_eq_iff] at c35_; omega
      have l_59 : (59 : Int32).toInt = 59 := by decide
      refine sf_bind (sf_X10_readsSign (59 : Int32) w6 hIw6 (by omega)) (fun q8 hqq8 hpq8 => ?_)
      obtain ⟨hIq8, hpq8_0, hpq8_1⟩ := hpq8
      have h40_ : 0 ≤ (w6 134 2).toInt ∧ (w6 134 2).toInt ≤ 241 := iv_134_2 hIw6
      have h41_ : 0 ≤ (w5 134 2).toInt ∧ (w5 134 2).toInt ≤ 241 := iv_134_2 hIw5
      have k42_ : (w5 134 2).toInt = (v4.2 134 2).toInt := by rw [ew5, wu_ne (by omega)]
      have k43_ : (w6 134 2).toInt = (w5 134 2).toInt := by rw [ew6, wu_ne (by omega)]
      have h44_ : 0 ≤ (q8.2 134 2).toInt ∧ (q8.2 134 2).toInt ≤ 241 := iv_134_2 hIq8
      have l_0 : (0 : Int32).toInt = 0 := by decide
      refine sf_ite (fun c45_ => ?_) (fun c45_ => ?_)
      · have rc45_ : q8.1.toInt = 0 := by rw [i_eq_iff] at c45_; omega
        exact sf_some (show (Inv g q8.2) ∧ (0 ≤ (0 : Int32).toInt ∧ (0 : Int32).toInt ≤ 1) ∧ ((w 134 2).toInt ≤ (q8.2 134 2).toInt) from ⟨hIq8, by omega, by omega⟩)
      · have rc45_ : ¬ q8.1.toInt = 0 := by rw [i_eq_iff] at c45_; omega
        exact sf_some (show (Inv g q8.2) ∧ (0 ≤ (1 : Int32).toInt ∧ (1 : Int32).toInt ≤ 1) ∧ ((w 134 2).toInt ≤ (q8.2 134 2).toInt) from ⟨hIq8, by omega, by omega⟩)
set_option maxRecDepth 20000 in
set_option maxHeartbeats 2000000 in
theorem sf_X10_readsHead {g : Nat → Int} (w : Mem) (hI : Inv g w) : Sf (fun (q : Int32 × Mem) => (Inv g q.2) ∧ (0 ≤ q.1.toInt ∧ q.1.toInt ≤ 1) ∧ ((w 134 2).toInt ≤ (q.2 134 2).toInt) ∧ (q.1.toInt = 0 ∨ (1 ≤ (q.2 134 6).toInt ∧ (q.2 134 6).toInt ≤ 60 ∧ 1 ≤ (q.2 134 7).toInt ∧ (q.2 134 7).toInt ≤ 9))) (f_X10_readsHead w) := by
  obtain ⟨hg0, hg1⟩ := hI.1
  unfold f_X10_readsHead
  have l_1 : (1 : Int32).toInt = 1 := by decide
  have l_60 : (60 : Int32).toInt = 60 := by decide
  refine sf_bind (sf_X10_readsNumber (1 : Int32) (60 : Int32) w hI) (fun q1 hqq1 hpq1 => ?_)
  obtain ⟨hIq1, hpq1_0, hpq1_1⟩ := hpq1
  have h1_ : 0 ≤ (w 134 2).toInt ∧ (w 134 2).toInt ≤ 241 := iv_134_2 hI
  have h2_ : 0 ≤ (q1.2 134 2).toInt ∧ (q1.2 134 2).toInt ≤ 241 := iv_134_2 hIq1
  refine sf_bind (Q := fun (v2 : (Int32 × Mem)) => (Inv g v2.2) ∧ ((v2.2 134 6).toInt = (q1.2 134 6).toInt) ∧ ((v2.2 134 7).toInt = (q1.2 134 7).toInt) ∧ (v2.1.toInt = -1 ∨ (1 ≤ v2.1.toInt ∧ v2.1.toInt ≤ 9 ∧ 1 ≤ q1.1.toInt ∧ q1.1.toInt ≤ 60)) ∧ ((w 134 2).toInt ≤ (v2.2 134 2).toInt)) ?_ (fun v2 hqv2 hvv2 => ?_)
  · have zz3_l : -2147483648 ≤ q1.1.toInt := Int32.le_toInt q1.1
    have zz3_h : q1.1.toInt ≤ 2147483647 := Int32.toInt_le q1.1
    have l_m1 : (-1 : Int32).toInt = -1 := by decide
    refine sf_ite (fun c4_ => ?_) (fun c4_ => ?_)
    · have rc4_ : q1.1.toInt = -1 := by rw [i_eq_iff] at c4_; omega
      have zz5_l : -2147483648 ≤ (w 134 6).toInt := Int32.le_toInt (w 134 6)
      have zz5_h : (w 134 6).toInt ≤ 2147483647 := Int32.toInt_le (w 134 6)
      have k6_ : (q1.2 134 6).toInt = (w 134 6).toInt := congrArg Int32.toInt (fr_X10_readsNumber (1 : Int32) (60 : Int32) w q1 hqq1 134 6 (by omega))
      have zz7_l : -2147483648 ≤ (q1.2 134 6).toInt := Int32.le_toInt (q1.2 134 6)
      have zz7_h : (q1.2 134 6).toInt ≤ 2147483647 := Int32.toInt_le (q1.2 134 6)
      have zz8_l : -2147483648 ≤ (w 134 7).toInt := Int32.le_toInt (w 134 7)
      have zz8_h : (w 134 7).toInt ≤ 2147483647 := Int32.toInt_le (w 134 7)
      have k9_ : (q1.2 134 7).toInt = (w 134 7).toInt := congrArg Int32.toInt (fr_X10_readsNumber (1 : Int32) (60 : Int32) w q1 hqq1 134 7 (by omega))
      have zz10_l : -2147483648 ≤ (q1.2 134 7).toInt := Int32.le_toInt (q1.2 134 7)
      have zz10_h : (q1.2 134 7).toInt ≤ 2147483647 := Int32.toInt_le (q1.2 134 7)
      exact sf_some (show (Inv g q1.2) ∧ ((q1.2 134 6).toInt = (q1.2 134 6).toInt) ∧ ((q1.2 134 7).toInt = (q1.2 134 7).toInt) ∧ ((-1 : Int32).toInt = -1 ∨ (1 ≤ (-1 : Int32).toInt ∧ (-1 : Int32).toInt ≤ 9 ∧ 1 ≤ q1.1.toInt ∧ q1.1.toInt ≤ 60)) ∧ ((w 134 2).toInt ≤ (q1.2 134 2).toInt) from ⟨hIq1, rfl, rfl, by omega, by omega⟩)
    · have rc4_ : ¬ q1.1.toInt = -1 := by rw [i_eq_iff] at c4_; omega
      have l_9 : (9 : Int32).toInt = 9 := by decide
      refine sf_bind (sf_X10_readsNumber (1 : Int32) (9 : Int32) q1.2 hIq1) (fun q6 hqq6 hpq6 => ?_)
      obtain ⟨hIq6, hpq6_0, hpq6_1⟩ := hpq6
      have h11_ : 0 ≤ (q6.2 134 2).toInt ∧ (q6.2 134 2).toInt ≤ 241 := iv_134_2 hIq6
      have zz12_l : -2147483648 ≤ q6.1.toInt := Int32.le_toInt q6.1
      have zz12_h : q6.1.toInt ≤ 2147483647 := Int32.toInt_le q6.1
      have zz13_l : -2147483648 ≤ (w 134 6).toInt := Int32.le_toInt (w 134 6)
      have zz13_h : (w 134 6).toInt ≤ 2147483647 := Int32.toInt_le (w 134 6)
      have k14_ : (q1.2 134 6).toInt = (w 134 6).toInt := congrArg Int32.toInt (fr_X10_readsNumber (1 : Int32) (60 : Int32) w q1 hqq1 134 6 (by omega))
      have zz15_l : -2147483648 ≤ (q1.2 134 6).toInt := Int32.le_toInt (q1.2 134 6)
      have zz15_h : (q1.2 134 6).toInt ≤ 2147483647 := Int32.toInt_le (q1.2 134 6)
      have k16_ : (q6.2 134 6).toInt = (q1.2 134 6).toInt := congrArg Int32.toInt (fr_X10_readsNumber (1 : Int32) (9 : Int32) q1.2 q6 hqq6 134 6 (by omega))
      have zz17_l : -2147483648 ≤ (q6.2 134 6).toInt := Int32.le_toInt (q6.2 134 6)
      have zz17_h : (q6.2 134 6).toInt ≤ 2147483647 := Int32.toInt_le (q6.2 134 6)
      have zz18_l : -2147483648 ≤ (w 134 7).toInt := Int32.le_toInt (w 134 7)
      have zz18_h : (w 134 7).toInt ≤ 2147483647 := Int32.toInt_le (w 134 7)
      have k19_ : (q1.2 134 7).toInt = (w 134 7).toInt := congrArg Int32.toInt (fr_X10_readsNumber (1 : Int32) (60 : Int32) w q1 hqq1 134 7 (by omega))
      have zz20_l : -2147483648 ≤ (q1.2 134 7).toInt := Int32.le_toInt (q1.2 134 7)
      have zz20_h : (q1.2 134 7).toInt ≤ 2147483647 := Int32.toInt_le (q1.2 134 7)
      have k21_ : (q6.2 134 7).toInt = (q1.2 134 7).toInt := congrArg Int32.toInt (fr_X10_readsNumber (1 : Int32) (9 : Int32) q1.2 q6 hqq6 134 7 (by omega))
      have zz22_l : -2147483648 ≤ (q6.2 134 7).toInt := Int32.le_toInt (q6.2 134 7)
      have zz22_h : (q6.2 134 7).toInt ≤ 2147483647 := Int32.toInt_le (q6.2 134 7)
      exact sf_some (show (Inv g q6.2) ∧ ((q6.2 134 6).toInt = (q1.2 134 6).toInt) ∧ ((q6.2 134 7).toInt = (q1.2 134 7).toInt) ∧ (q6.1.toInt = -1 ∨ (1 ≤ q6.1.toInt ∧ q6.1.toInt ≤ 9 ∧ 1 ≤ q1.1.toInt ∧ q1.1.toInt ≤ 60)) ∧ ((w 134 2).toInt ≤ (q6.2 134 2).toInt) from ⟨hIq6, by omega, by omega, by omega, by omega⟩)
  · obtain ⟨hIv2, hvv2_1, hvv2_2, hvv2_3, hvv2_4⟩ := hvv2
    have zz23_l : -2147483648 ≤ (w 134 6).toInt := Int32.le_toInt (w 134 6)
    have zz23_h : (w 134 6).toInt ≤ 2147483647 := Int32.toInt_le (w 134 6)
    have k24_ : (q1.2 134 6).toInt = (w 134 6).toInt := congrArg Int32.toInt (fr_X10_readsNumber (1 : Int32) (60 : Int32) w q1 hqq1 134 6 (by omega))
    have zz25_l : -2147483648 ≤ (q1.2 134 6).toInt := Int32.le_toInt (q1.2 134 6)
    have zz25_h : (q1.2 134 6).toInt ≤ 2147483647 := Int32.toInt_le (q1.2 134 6)
    have zz26_l : -2147483648 ≤ (v2.2 134 6).toInt := Int32.le_toInt (v2.2 134 6)
    have zz26_h : (v2.2 134 6).toInt ≤ 2147483647 := Int32.toInt_le (v2.2 134 6)
    have zz27_l : -2147483648 ≤ (w 134 7).toInt := Int32.le_toInt (w 134 7)
    have zz27_h : (w 134 7).toInt ≤ 2147483647 := Int32.toInt_le (w 134 7)
    have k28_ : (q1.2 134 7).toInt = (w 134 7).toInt := congrArg Int32.toInt (fr_X10_readsNumber (1 : Int32) (60 : Int32) w q1 hqq1 134 7 (by omega))
    have zz29_l : -2147483648 ≤ (q1.2 134 7).toInt := Int32.le_toInt (q1.2 134 7)
    have zz29_h : (q1.2 134 7).toInt ≤ 2147483647 := Int32.toInt_le (q1.2 134 7)
    have zz30_l : -2147483648 ≤ (v2.2 134 7).toInt := Int32.le_toInt (v2.2 134 7)
    have zz30_h : (v2.2 134 7).toInt ≤ 2147483647 := Int32.toInt_le (v2.2 134 7)
    have h31_ : 0 ≤ (v2.2 134 2).toInt ∧ (v2.2 134 2).toInt ≤ 241 := iv_134_2 hIv2
    have zz32_l : -2147483648 ≤ q1.1.toInt := Int32.le_toInt q1.1
    have zz32_h : q1.1.toInt ≤ 2147483647 := Int32.toInt_le q1.1
    refine sf_pw (fun w3 ew3 => ?_)
    have hIw3 : Inv g w3 := by rw [ew3]; exact uq_134_6 hIv2
    have zz33_l : -2147483648 ≤ v2.1.toInt := Int32.le_toInt v2.1
    have zz33_h : v2.1.toInt ≤ 2147483647 := Int32.toInt_le v2.1
    refine sf_pw (fun w4 ew4 => ?_)
    have hIw4 : Inv g w4 := by rw [ew4]; exact uq_134_7 hIw3
    have l_m1 : (-1 : Int32).toInt = -1 := by decide
    refine sf_ite (fun c34_ => ?_) (fun c34_ => ?_)
    · have rc34_ : v2.1.toInt = -1 := by rw [i_eq_iff] at c34_; omega
      have l_0 : (0 : Int32).toInt = 0 := by decide
      have h35_ : 0 ≤ (w4 134 2).toInt ∧ (w4 134 2).toInt ≤ 241 := iv_134_2 hIw4
      have h36_ : 0 ≤ (w3 134 2).toInt ∧ (w3 134 2).toInt ≤ 241 := iv_134_2 hIw3
      have k37_ : (w3 134 2).toInt = (v2.2 134 2).toInt := by rw [ew3, wu_ne (by omega)]
      have k38_ : (w4 134 2).toInt = (w3 134 2).toInt := by rw [ew4, wu_ne (by omega)]
      have k39_ : (w3 134 6).toInt = q1.1.toInt := by rw [ew3, wu_at]
      have zz40_l : -2147483648 ≤ (w3 134 6).toInt := Int32.le_toInt (w3 134 6)
      have zz40_h : (w3 134 6).toInt ≤ 2147483647 := Int32.toInt_le (w3 134 6)
      have k41_ : (w4 134 6).toInt = (w3 134 6).toInt := by rw [ew4, wu_ne (by omega)]
      have zz42_l : -2147483648 ≤ (w4 134 6).toInt := Int32.le_toInt (w4 134 6)
      have zz42_h : (w4 134 6).toInt ≤ 2147483647 := Int32.toInt_le (w4 134 6)
      have k43_ : (w4 134 7).toInt = v2.1.toInt := by rw [ew4, wu_at]
      exact sf_some (show (Inv g w4) ∧ (0 ≤ (0 : Int32).toInt ∧ (0 : Int32).toInt ≤ 1) ∧ ((w 134 2).toInt ≤ (w4 134 2).toInt) ∧ ((0 : Int32).toInt = 0 ∨ (1 ≤ (w4 134 6).toInt ∧ (w4 134 6).toInt ≤ 60 ∧ 1 ≤ (w4 134 7).toInt ∧ (w4 134 7).toInt ≤ 9)) from ⟨hIw4, by omega, by omega, by omega⟩)
    · have rc34_ : ¬ v2.1.toInt = -1 := by rw [i_eq_iff] at c34_; omega
      have l_59 : (59 : Int32).toInt = 59 := by decide
      refine sf_bind (sf_X10_readsSign (59 : Int32) w4 hIw4 (by omega)) (fun q5 hqq5 hpq5 => ?_)
      obtain ⟨hIq5, hpq5_0, hpq5_1⟩ := hpq5
      have h44_ : 0 ≤ (w4 134 2).toInt ∧ (w4 134 2).toInt ≤ 241 := iv_134_2 hIw4
      have h45_ : 0 ≤ (w3 134 2).toInt ∧ (w3 134 2).toInt ≤ 241 := iv_134_2 hIw3
      have k46_ : (w3 134 2).toInt = (v2.2 134 2).toInt := by rw [ew3, wu_ne (by omega)]
      have k47_ : (w4 134 2).toInt = (w3 134 2).toInt := by rw [ew4, wu_ne (by omega)]
      have h48_ : 0 ≤ (q5.2 134 2).toInt ∧ (q5.2 134 2).toInt ≤ 241 := iv_134_2 hIq5
      have l_0 : (0 : Int32).toInt = 0 := by decide
      refine sf_ite (fun c49_ => ?_) (fun c49_ => ?_)
      · have rc49_ : q5.1.toInt = 0 := by rw [i_eq_iff] at c49_; omega
        have k50_ : (w3 134 6).toInt = q1.1.toInt := by rw [ew3, wu_at]
        have zz51_l : -2147483648 ≤ (w3 134 6).toInt := Int32.le_toInt (w3 134 6)
        have zz51_h : (w3 134 6).toInt ≤ 2147483647 := Int32.toInt_le (w3 134 6)
        have k52_ : (w4 134 6).toInt = (w3 134 6).toInt := by rw [ew4, wu_ne (by omega)]
        have zz53_l : -2147483648 ≤ (w4 134 6).toInt := Int32.le_toInt (w4 134 6)
        have zz53_h : (w4 134 6).toInt ≤ 2147483647 := Int32.toInt_le (w4 134 6)
        have k54_ : (q5.2 134 6).toInt = (w4 134 6).toInt := congrArg Int32.toInt (fr_X10_readsSign (59 : Int32) w4 q5 hqq5 134 6 (by omega))
        have zz55_l : -2147483648 ≤ (q5.2 134 6).toInt := Int32.le_toInt (q5.2 134 6)
        have zz55_h : (q5.2 134 6).toInt ≤ 2147483647 := Int32.toInt_le (q5.2 134 6)
        have k56_ : (w4 134 7).toInt = v2.1.toInt := by rw [ew4, wu_at]
        have zz57_l : -2147483648 ≤ (w4 134 7).toInt := Int32.le_toInt (w4 134 7)
        have zz57_h : (w4 134 7).toInt ≤ 2147483647 := Int32.toInt_le (w4 134 7)
        have k58_ : (q5.2 134 7).toInt = (w4 134 7).toInt := congrArg Int32.toInt (fr_X10_readsSign (59 : Int32) w4 q5 hqq5 134 7 (by omega))
        have zz59_l : -2147483648 ≤ (q5.2 134 7).toInt := Int32.le_toInt (q5.2 134 7)
        have zz59_h : (q5.2 134 7).toInt ≤ 2147483647 := Int32.toInt_le (q5.2 134 7)
        exact sf_some (show (Inv g q5.2) ∧ (0 ≤ (0 : Int32).toInt ∧ (0 : Int32).toInt ≤ 1) ∧ ((w 134 2).toInt ≤ (q5.2 134 2).toInt) ∧ ((0 : Int32).toInt = 0 ∨ (1 ≤ (q5.2 134 6).toInt ∧ (q5.2 134 6).toInt ≤ 60 ∧ 1 ≤ (q5.2 134 7).toInt ∧ (q5.2 134 7).toInt ≤ 9)) from ⟨hIq5, by omega, by omega, by omega⟩)
      · have rc49_ : ¬ q5.1.toInt = 0 := by rw [i_eq_iff] at c49_; omega
        have k60_ : (w3 134 6).toInt = q1.1.toInt := by rw [ew3, wu_at]
        have zz61_l : -2147483648 ≤ (w3 134 6).toInt := Int32.le_toInt (w3 134 6)
        have zz61_h : (w3 134 6).toInt ≤ 2147483647 := Int32.toInt_le (w3 134 6)
        have k62_ : (w4 134 6).toInt = (w3 134 6).toInt := by rw [ew4, wu_ne (by omega)]
        have zz63_l : -2147483648 ≤ (w4 134 6).toInt := Int32.le_toInt (w4 134 6)
        have zz63_h : (w4 134 6).toInt ≤ 2147483647 := Int32.toInt_le (w4 134 6)
        have k64_ : (q5.2 134 6).toInt = (w4 134 6).toInt := congrArg Int32.toInt (fr_X10_readsSign (59 : Int32) w4 q5 hqq5 134 6 (by omega))
        have zz65_l : -2147483648 ≤ (q5.2 134 6).toInt := Int32.le_toInt (q5.2 134 6)
        have zz65_h : (q5.2 134 6).toInt ≤ 2147483647 := Int32.toInt_le (q5.2 134 6)
        have k66_ : (w4 134 7).toInt = v2.1.toInt := by rw [ew4, wu_at]
        have zz67_l : -2147483648 ≤ (w4 134 7).toInt := Int32.le_toInt (w4 134 7)
        have zz67_h : (w4 134 7).toInt ≤ 2147483647 := Int32.toInt_le (w4 134 7)
        have k68_ : (q5.2 134 7).toInt = (w4 134 7).toInt := congrArg Int32.toInt (fr_X10_readsSign (59 : Int32) w4 q5 hqq5 134 7 (by omega))
        have zz69_l : -2147483648 ≤ (q5.2 134 7).toInt := Int32.le_toInt (q5.2 134 7)
        have zz69_h : (q5.2 134 7).toInt ≤ 2147483647 := Int32.toInt_le (q5.2 134 7)
        exact sf_some (show (Inv g q5.2) ∧ (0 ≤ (1 : Int32).toInt ∧ (1 : Int32).toInt ≤ 1) ∧ ((w 134 2).toInt ≤ (q5.2 134 2).toInt) ∧ ((1 : Int32).toInt = 0 ∨ (1 ≤ (q5.2 134 6).toInt ∧ (q5.2 134 6).toInt ≤ 60 ∧ 1 ≤ (q5.2 134 7).toInt ∧ (q5.2 134 7).toInt ≤ 9)) from ⟨hIq5, by omega, by omega, by omega⟩)
set_option maxRecDepth 20000 in
set_option maxHeartbeats 2000000 in
theorem sf_X10_readsClause {g : Nat → Int} (w : Mem) (hI : Inv g w) (pre0 : (w 134 2).toInt ≤ 240) (pre1 : ((w 134 6).toInt = 0 ∧ (w 134 7).toInt = 0 ∧ (w 134 8).toInt = 0 ∧ (w 134 9).toInt = 0) ∨ (1 ≤ (w 134 6).toInt ∧ (w 134 6).toInt ≤ 60 ∧ 1 ≤ (w 134 7).toInt ∧ (w 134 7).toInt ≤ 9)) : Sf (fun (q : Int32 × Mem) => (Inv g q.2) ∧ (0 ≤ q.1.toInt ∧ q.1.toInt ≤ 1) ∧ ((w 134 2).toInt ≤ (q.2 134 2).toInt) ∧ (q.1.toInt = 0 ∨ ((w 134 2).toInt < (q.2 134 2).toInt ∧ (((q.2 134 6).toInt = 0 ∧ (q.2 134 7).toInt = 0 ∧ (q.2 134 8).toInt = 0 ∧ (q.2 134 9).toInt = 0) ∨ (1 ≤ (q.2 134 6).toInt ∧ (q.2 134 6).toInt ≤ 60 ∧ 1 ≤ (q.2 134 7).toInt ∧ (q.2 134 7).toInt ≤ 9))))) (f_X10_readsClause w) := by
  obtain ⟨hg0, hg1⟩ := hI.1
  have h1_ : 0 ≤ (w 134 2).toInt ∧ (w 134 2).toInt ≤ 241 := iv_134_2 hI
  have zz2_l : -2147483648 ≤ (w 134 6).toInt := Int32.le_toInt (w 134 6)
  have zz2_h : (w 134 6).toInt ≤ 2147483647 := Int32.toInt_le (w 134 6)
  have zz3_l : -2147483648 ≤ (w 134 7).toInt := Int32.le_toInt (w 134 7)
  have zz3_h : (w 134 7).toInt ≤ 2147483647 := Int32.toInt_le (w 134 7)
  have h4_ : 0 ≤ (w 134 8).toInt ∧ (w 134 8).toInt ≤ 8 := iv_134_8 hI
  have h5_ : 0 ≤ (w 134 9).toInt ∧ (w 134 9).toInt ≤ 6 := iv_134_9 hI
  unfold f_X10_readsClause
  refine sf_bind (sf_X10_nextLetter  w hI) (fun q1 hqq1 hpq1 => ?_)
  obtain ⟨hIq1, hpq1_0, hpq1_1, hpq1_2⟩ := hpq1
  have h6_ : 0 ≤ (q1.2 134 2).toInt ∧ (q1.2 134 2).toInt ≤ 241 := iv_134_2 hIq1
  have h7_ : 0 ≤ (q1.2 134 0).toInt ∧ (q1.2 134 0).toInt ≤ 240 := iv_134_0 hIq1
  have h8_ : 0 ≤ (w 134 0).toInt ∧ (w 134 0).toInt ≤ 240 := iv_134_0 hI
  have k9_ : (q1.2 134 0).toInt = (w 134 0).toInt := congrArg Int32.toInt (fr_X10_nextLetter  w q1 hqq1 134 0 (by omega))
  have l_1 : (1 : Int32).toInt = 1 := by decide
  have e10_ : ((q1.2 134 2) + (1 : Int32)).toInt = (q1.2 134 2).toInt + (1 : Int32).toInt := i_add (by omega) (by omega)
  refine sf_pw (fun w2 ew2 => ?_)
  have hIw2 : Inv g w2 := by rw [ew2]; exact up_134_2 hIq1 (show 0 ≤ ((q1.2 134 2) + (1 : Int32)).toInt ∧ ((q1.2 134 2) + (1 : Int32)).toInt ≤ 241 from by omega)
  have zz11_l : -2147483648 ≤ q1.1.toInt := Int32.le_toInt q1.1
  have zz11_h : q1.1.toInt ≤ 2147483647 := Int32.toInt_le q1.1
  have l_107 : (107 : Int32).toInt = 107 := by decide
  refine sf_ite (fun c12_ => ?_) (fun c12_ => ?_)
  · have rc12_ : q1.1.toInt = 107 := by rw [i_eq_iff] at c12_; omega
    have k13_ : (q1.2 134 7).toInt = (w 134 7).toInt := congrArg Int32.toInt (fr_X10_nextLetter  w q1 hqq1 134 7 (by omega))
    have zz14_l : -2147483648 ≤ (q1.2 134 7).toInt := Int32.le_toInt (q1.2 134 7)
    have zz14_h : (q1.2 134 7).toInt ≤ 2147483647 := Int32.toInt_le (q1.2 134 7)
    have k15_ : (w2 134 7).toInt = (q1.2 134 7).toInt := by rw [ew2, wu_ne (by omega)]
    have zz16_l : -2147483648 ≤ (w2 134 7).toInt := Int32.le_toInt (w2 134 7)
    have zz16_h : (w2 134 7).toInt ≤ 2147483647 := Int32.toInt_le (w2 134 7)
    have l_0 : (0 : Int32).toInt = 0 := by decide
    refine sf_ite (fun c17_ => ?_) (fun c17_ => ?_)
    · have rc17_ : (w2 134 7).toInt = 0 := by rw [i_eq_iff] at c17_; omega
      refine sf_bind (sf_X10_readsHead  w2 hIw2) (fun q49 hqq49 hpq49 => ?_)
      obtain ⟨hIq49, hpq49_0, hpq49_1, hpq49_2⟩ := hpq49
      have h18_ : 0 ≤ (w2 134 2).toInt ∧ (w2 134 2).toInt ≤ 241 := iv_134_2 hIw2
      have k19_ : (w2 134 2).toInt = ((q1.2 134 2) + (1 : Int32)).toInt := by rw [ew2, wu_at]
      have h20_ : 0 ≤ (q49.2 134 2).toInt ∧ (q49.2 134 2).toInt ≤ 241 := iv_134_2 hIq49
      have zz21_l : -2147483648 ≤ (q49.2 134 6).toInt := Int32.le_toInt (q49.2 134 6)
      have zz21_h : (q49.2 134 6).toInt ≤ 2147483647 := Int32.toInt_le (q49.2 134 6)
      have zz22_l : -2147483648 ≤ (q49.2 134 7).toInt := Int32.le_toInt (q49.2 134 7)
      have zz22_h : (q49.2 134 7).toInt ≤ 2147483647 := Int32.toInt_le (q49.2 134 7)
      refine sf_zr (i_z01 (by omega) (by omega)) ?_
      have h23_ : 0 ≤ (q49.2 134 8).toInt ∧ (q49.2 134 8).toInt ≤ 8 := iv_134_8 hIq49
      have h24_ : 0 ≤ (w2 134 8).toInt ∧ (w2 134 8).toInt ≤ 8 := iv_134_8 hIw2
      have h25_ : 0 ≤ (q1.2 134 8).toInt ∧ (q1.2 134 8).toInt ≤ 8 := iv_134_8 hIq1
      have k26_ : (q1.2 134 8).toInt = (w 134 8).toInt := congrArg Int32.toInt (fr_X10_nextLetter  w q1 hqq1 134 8 (by omega))
      have k27_ : (w2 134 8).toInt = (q1.2 134 8).toInt := by rw [ew2, wu_ne (by omega)]
      have k28_ : (q49.2 134 8).toInt = (w2 134 8).toInt := congrArg Int32.toInt (fr_X10_readsHead  w2 q49 hqq49 134 8 (by omega))
      have h29_ : 0 ≤ (q49.2 134 9).toInt ∧ (q49.2 134 9).toInt ≤ 6 := iv_134_9 hIq49
      have h30_ : 0 ≤ (w2 134 9).toInt ∧ (w2 134 9).toInt ≤ 6 := iv_134_9 hIw2
      have h31_ : 0 ≤ (q1.2 134 9).toInt ∧ (q1.2 134 9).toInt ≤ 6 := iv_134_9 hIq1
      have k32_ : (q1.2 134 9).toInt = (w 134 9).toInt := congrArg Int32.toInt (fr_X10_nextLetter  w q1 hqq1 134 9 (by omega))
      have k33_ : (w2 134 9).toInt = (q1.2 134 9).toInt := by rw [ew2, wu_ne (by omega)]
      have k34_ : (q49.2 134 9).toInt = (w2 134 9).toInt := congrArg Int32.toInt (fr_X10_readsHead  w2 q49 hqq49 134 9 (by omega))
      exact sf_some (show (Inv g q49.2) ∧ (0 ≤ q49.1.toInt ∧ q49.1.toInt ≤ 1) ∧ ((w 134 2).toInt ≤ (q49.2 134 2).toInt) ∧ (q49.1.toInt = 0 ∨ ((w 134 2).toInt < (q49.2 134 2).toInt ∧ (((q49.2 134 6).toInt = 0 ∧ (q49.2 134 7).toInt = 0 ∧ (q49.2 134 8).toInt = 0 ∧ (q49.2 134 9).toInt = 0) ∨ (1 ≤ (q49.2 134 6).toInt ∧ (q49.2 134 6).toInt ≤ 60 ∧ 1 ≤ (q49.2 134 7).toInt ∧ (q49.2 134 7).toInt ≤ 9)))) from ⟨hIq49, by omega, by omega, by omega⟩)
    · have rc17_ : ¬ (w2 134 7).toInt = 0 := by rw [i_eq_iff] at c17_; omega
      refine sf_bind (Q := fun (v26 : Int32) => (1 ≤ v26.toInt) ∧ (v26.toInt ≤ 1) ∧ (v26.toInt = 0 ∨ q1.1.toInt = 107 ∨ q1.1.toInt = 109 ∨ q1.1.toInt = 116)) ?_ (fun v26 hqv26 hvv26 => ?_)
      · refine sf_ite (fun c35_ => ?_) (fun c35_ => ?_)
        · have rc35_ : q1.1.toInt = 107 := by rw [i_eq_iff] at c35_; omega
          exact sf_some (show (1 ≤ (1 : Int32).toInt) ∧ ((1 : Int32).toInt ≤ 1) ∧ ((1 : Int32).toInt = 0 ∨ q1.1.toInt = 107 ∨ q1.1.toInt = 109 ∨ q1.1.toInt = 116) from ⟨by omega, by omega, by omega⟩)
        · have rc35_ : ¬ q1.1.toInt = 107 := by rw [i_eq_iff] at c35_; omega
          exfalso; omega
      · obtain ⟨hvv26_0, hvv26_1, hvv26_2⟩ := hvv26
        refine sf_ite (fun c36_ => ?_) (fun c36_ => ?_)
        · have rc36_ : v26.toInt = 0 := by rw [i_eq_iff] at c36_; omega
          exfalso; omega
        · have rc36_ : ¬ v26.toInt = 0 := by rw [i_eq_iff] at c36_; omega
          refine sf_ite (fun c37_ => ?_) (fun c37_ => ?_)
          · have rc37_ : (w2 134 7).toInt = 0 := by rw [i_eq_iff] at c37_; omega
            refine sf_bind (sf_X10_fails (1 : Int32) (q1.2 134 2) w2 hIw2 (by omega) (by omega)) (fun q48 hqq48 hpq48 => ?_)
            obtain ⟨hIq48, hpq48_0, hpq48_1⟩ := hpq48
            have h38_ : 0 ≤ (q48.2 134 2).toInt ∧ (q48.2 134 2).toInt ≤ 241 := iv_134_2 hIq48
            have k39_ : (q1.2 134 6).toInt = (w 134 6).toInt := congrArg Int32.toInt (fr_X10_nextLetter  w q1 hqq1 134 6 (by omega))
            have zz40_l : -2147483648 ≤ (q1.2 134 6).toInt := Int32.le_toInt (q1.2 134 6)
            have zz40_h : (q1.2 134 6).toInt ≤ 2147483647 := Int32.toInt_le (q1.2 134 6)
            have k41_ : (w2 134 6).toInt = (q1.2 134 6).toInt := by rw [ew2, wu_ne (by omega)]
            have zz42_l : -2147483648 ≤ (w2 134 6).toInt := Int32.le_toInt (w2 134 6)
            have zz42_h : (w2 134 6).toInt ≤ 2147483647 := Int32.toInt_le (w2 134 6)
            have k43_ : (q48.2 134 6).toInt = (w2 134 6).toInt := congrArg Int32.toInt (fr_X10_fails (1 : Int32) (q1.2 134 2) w2 q48 hqq48 134 6 (by omega))
            have zz44_l : -2147483648 ≤ (q48.2 134 6).toInt := Int32.le_toInt (q48.2 134 6)
            have zz44_h : (q48.2 134 6).toInt ≤ 2147483647 := Int32.toInt_le (q48.2 134 6)
            have k45_ : (q48.2 134 7).toInt = (w2 134 7).toInt := congrArg Int32.toInt (fr_X10_fails (1 : Int32) (q1.2 134 2) w2 q48 hqq48 134 7 (by omega))
            have h46_ : 0 ≤ (q48.2 134 8).toInt ∧ (q48.2 134 8).toInt ≤ 8 := iv_134_8 hIq48
            have h47_ : 0 ≤ (w2 134 8).toInt ∧ (w2 134 8).toInt ≤ 8 := iv_134_8 hIw2
            have h48_ : 0 ≤ (q1.2 134 8).toInt ∧ (q1.2 134 8).toInt ≤ 8 := iv_134_8 hIq1
            have k49_ : (q1.2 134 8).toInt = (w 134 8).toInt := congrArg Int32.toInt (fr_X10_nextLetter  w q1 hqq1 134 8 (by omega))
            have k50_ : (w2 134 8).toInt = (q1.2 134 8).toInt := by rw [ew2, wu_ne (by omega)]
            have k51_ : (q48.2 134 8).toInt = (w2 134 8).toInt := congrArg Int32.toInt (fr_X10_fails (1 : Int32) (q1.2 134 2) w2 q48 hqq48 134 8 (by omega))
            have h52_ : 0 ≤ (q48.2 134 9).toInt ∧ (q48.2 134 9).toInt ≤ 6 := iv_134_9 hIq48
            have h53_ : 0 ≤ (w2 134 9).toInt ∧ (w2 134 9).toInt ≤ 6 := iv_134_9 hIw2
            have h54_ : 0 ≤ (q1.2 134 9).toInt ∧ (q1.2 134 9).toInt ≤ 6 := iv_134_9 hIq1
            have k55_ : (q1.2 134 9).toInt = (w 134 9).toInt := congrArg Int32.toInt (fr_X10_nextLetter  w q1 hqq1 134 9 (by omega))
            have k56_ : (w2 134 9).toInt = (q1.2 134 9).toInt := by rw [ew2, wu_ne (by omega)]
            have k57_ : (q48.2 134 9).toInt = (w2 134 9).toInt := congrArg Int32.toInt (fr_X10_fails (1 : Int32) (q1.2 134 2) w2 q48 hqq48 134 9 (by omega))
            exact sf_some (show (Inv g q48.2) ∧ (0 ≤ (0 : Int32).toInt ∧ (0 : Int32).toInt ≤ 1) ∧ ((w 134 2).toInt ≤ (q48.2 134 2).toInt) ∧ ((0 : Int32).toInt = 0 ∨ ((w 134 2).toInt < (q48.2 134 2).toInt ∧ (((q48.2 134 6).toInt = 0 ∧ (q48.2 134 7).toInt = 0 ∧ (q48.2 134 8).toInt = 0 ∧ (q48.2 134 9).toInt = 0) ∨ (1 ≤ (q48.2 134 6).toInt ∧ (q48.2 134 6).toInt ≤ 60 ∧ 1 ≤ (q48.2 134 7).toInt ∧ (q48.2 134 7).toInt ≤ 9)))) from ⟨hIq48, by omega, by omega, by omega⟩)
          · have rc37_ : ¬ (w2 134 7).toInt = 0 := by rw [i_eq_iff] at c37_; omega
            refine sf_ite (fun c58_ => ?_) (fun c58_ => ?_)
            · have rc58_ : q1.1.toInt = 107 := by rw [i_eq_iff] at c58_; omega
              have l_3 : (3 : Int32).toInt = 3 := by decide
              refine sf_bind (sf_X10_fails (3 : Int32) (q1.2 134 2) w2 hIw2 (by omega) (by omega)) (fun q28 hqq28 hpq28 => ?_)
              obtain ⟨hIq28, hpq28_0, hpq28_1⟩ := hpq28
              have h59_ : 0 ≤ (q28.2 134 2).toInt ∧ (q28.2 134 2).toInt ≤ 241 := iv_134_2 hIq28
              have k60_ : (q1.2 134 6).toInt = (w 134 6).toInt := congrArg Int32.toInt (fr_X10_nextLetter  w q1 hqq1 134 6 (by omega))
              have zz61_l : -2147483648 ≤ (q1.2 134 6).toInt := Int32.le_toInt (q1.2 134 6)
              have zz61_h : (q1.2 134 6).toInt ≤ 2147483647 := Int32.toInt_le (q1.2 134 6)
              have k62_ : (w2 134 6).toInt = (q1.2 134 6).toInt := by rw [ew2, wu_ne (by omega)]
              have zz63_l : -2147483648 ≤ (w2 134 6).toInt := Int32.le_toInt (w2 134 6)
              have zz63_h : (w2 134 6).toInt ≤ 2147483647 := Int32.toInt_le (w2 134 6)
              have k64_ : (q28.2 134 6).toInt = (w2 134 6).toInt := congrArg Int32.toInt (fr_X10_fails (3 : Int32) (q1.2 134 2) w2 q28 hqq28 134 6 (by omega))
              have zz65_l : -2147483648 ≤ (q28.2 134 6).toInt := Int32.le_toInt (q28.2 134 6)
              have zz65_h : (q28.2 134 6).toInt ≤ 2147483647 := Int32.toInt_le (q28.2 134 6)
              have k66_ : (q28.2 134 7).toInt = (w2 134 7).toInt := congrArg Int32.toInt (fr_X10_fails (3 : Int32) (q1.2 134 2) w2 q28 hqq28 134 7 (by omega))
              have zz67_l : -2147483648 ≤ (q28.2 134 7).toInt := Int32.le_toInt (q28.2 134 7)
              have zz67_h : (q28.2 134 7).toInt ≤ 2147483647 := Int32.toInt_le (q28.2 134 7)
              have h68_ : 0 ≤ (q28.2 134 8).toInt ∧ (q28.2 134 8).toInt ≤ 8 := iv_134_8 hIq28
              have h69_ : 0 ≤ (w2 134 8).toInt ∧ (w2 134 8).toInt ≤ 8 := iv_134_8 hIw2
              have h70_ : 0 ≤ (q1.2 134 8).toInt ∧ (q1.2 134 8).toInt ≤ 8 := iv_134_8 hIq1
              have k71_ : (q1.2 134 8).toInt = (w 134 8).toInt := congrArg Int32.toInt (fr_X10_nextLetter  w q1 hqq1 134 8 (by omega))
              have k72_ : (w2 134 8).toInt = (q1.2 134 8).toInt := by rw [ew2, wu_ne (by omega)]
              have k73_ : (q28.2 134 8).toInt = (w2 134 8).toInt := congrArg Int32.toInt (fr_X10_fails (3 : Int32) (q1.2 134 2) w2 q28 hqq28 134 8 (by omega))
              have h74_ : 0 ≤ (q28.2 134 9).toInt ∧ (q28.2 134 9).toInt ≤ 6 := iv_134_9 hIq28
              have h75_ : 0 ≤ (w2 134 9).toInt ∧ (w2 134 9).toInt ≤ 6 := iv_134_9 hIw2
              have h76_ : 0 ≤ (q1.2 134 9).toInt ∧ (q1.2 134 9).toInt ≤ 6 := iv_134_9 hIq1
              have k77_ : (q1.2 134 9).toInt = (w 134 9).toInt := congrArg Int32.toInt (fr_X10_nextLetter  w q1 hqq1 134 9 (by omega))
              have k78_ : (w2 134 9).toInt = (q1.2 134 9).toInt := by rw [ew2, wu_ne (by omega)]
              have k79_ : (q28.2 134 9).toInt = (w2 134 9).toInt := congrArg Int32.toInt (fr_X10_fails (3 : Int32) (q1.2 134 2) w2 q28 hqq28 134 9 (by omega))
              exact sf_some (show (Inv g q28.2) ∧ (0 ≤ (0 : Int32).toInt ∧ (0 : Int32).toInt ≤ 1) ∧ ((w 134 2).toInt ≤ (q28.2 134 2).toInt) ∧ ((0 : Int32).toInt = 0 ∨ ((w 134 2).toInt < (q28.2 134 2).toInt ∧ (((q28.2 134 6).toInt = 0 ∧ (q28.2 134 7).toInt = 0 ∧ (q28.2 134 8).toInt = 0 ∧ (q28.2 134 9).toInt = 0) ∨ (1 ≤ (q28.2 134 6).toInt ∧ (q28.2 134 6).toInt ≤ 60 ∧ 1 ≤ (q28.2 134 7).toInt ∧ (q28.2 134 7).toInt ≤ 9)))) from ⟨hIq28, by omega, by omega, by omega⟩)
            · have rc58_ : ¬ q1.1.toInt = 107 := by rw [i_eq_iff] at c58_; omega
              exfalso; omega
  · have rc12_ : ¬ q1.1.toInt = 107 := by rw [i_eq_iff] at c12_; omega
    refine sf_bind (Q := fun (v3 : Int32) => (0 ≤ v3.toInt) ∧ (v3.toInt ≤ 1) ∧ (v3.toInt = 0 ∨ q1.1.toInt = 107 ∨ q1.1.toInt = 109 ∨ q1.1.toInt = 116)) ?_ (fun v3 hqv3 hvv3 => ?_)
    · refine sf_ite (fun c80_ => ?_) (fun c80_ => ?_)
      · have rc80_ : q1.1.toInt = 107 := by rw [i_eq_iff] at c80_; omega
        exact sf_some (show (0 ≤ (1 : Int32).toInt) ∧ ((1 : Int32).toInt ≤ 1) ∧ ((1 : Int32).toInt = 0 ∨ q1.1.toInt = 107 ∨ q1.1.toInt = 109 ∨ q1.1.toInt = 116) from ⟨by omega, by omega, by omega⟩)
      · have rc80_ : ¬ q1.1.toInt = 107 := by rw [i_eq_iff] at c80_; omega
        have l_109 : (109 : Int32).toInt = 109 := by decide
        refine sf_ite (fun c81_ => ?_) (fun c81_ => ?_)
        · have rc81_ : q1.1.toInt = 109 := by rw [i_eq_iff] at c81_; omega
          exact sf_some (show (0 ≤ (1 : Int32).toInt) ∧ ((1 : Int32).toInt ≤ 1) ∧ ((1 : Int32).toInt = 0 ∨ q1.1.toInt = 107 ∨ q1.1.toInt = 109 ∨ q1.1.toInt = 116) from ⟨by omega, by omega, by omega⟩)
        · have rc81_ : ¬ q1.1.toInt = 109 := by rw [i_eq_iff] at c81_; omega
          have l_116 : (116 : Int32).toInt = 116 := by decide
          refine sf_ite (fun c82_ => ?_) (fun c82_ => ?_)
          · have rc82_ : q1.1.toInt = 116 := by rw [i_eq_iff] at c82_; omega
            exact sf_some (show (0 ≤ (1 : Int32).toInt) ∧ ((1 : Int32).toInt ≤ 1) ∧ ((1 : Int32).toInt = 0 ∨ q1.1.toInt = 107 ∨ q1.1.toInt = 109 ∨ q1.1.toInt = 116) from ⟨by omega, by omega, by omega⟩)
          · have rc82_ : ¬ q1.1.toInt = 116 := by rw [i_eq_iff] at c82_; omega
            have l_0 : (0 : Int32).toInt = 0 := by decide
            exact sf_some (show (0 ≤ (0 : Int32).toInt) ∧ ((0 : Int32).toInt ≤ 1) ∧ ((0 : Int32).toInt = 0 ∨ q1.1.toInt = 107 ∨ q1.1.toInt = 109 ∨ q1.1.toInt = 116) from ⟨by omega, by omega, by omega⟩)
    · obtain ⟨hvv3_0, hvv3_1, hvv3_2⟩ := hvv3
      have l_0 : (0 : Int32).toInt = 0 := by decide
      refine sf_ite (fun c83_ => ?_) (fun c83_ => ?_)
      · have rc83_ : v3.toInt = 0 := by rw [i_eq_iff] at c83_; omega
        refine sf_bind (sf_X10_fails (1 : Int32) (q1.2 134 2) w2 hIw2 (by omega) (by omega)) (fun q4 hqq4 hpq4 => ?_)
        obtain ⟨hIq4, hpq4_0, hpq4_1⟩ := hpq4
        have h84_ : 0 ≤ (q4.2 134 2).toInt ∧ (q4.2 134 2).toInt ≤ 241 := iv_134_2 hIq4
        have k85_ : (q1.2 134 6).toInt = (w 134 6).toInt := congrArg Int32.toInt (fr_X10_nextLetter  w q1 hqq1 134 6 (by omega))
        have zz86_l : -2147483648 ≤ (q1.2 134 6).toInt := Int32.le_toInt (q1.2 134 6)
        have zz86_h : (q1.2 134 6).toInt ≤ 2147483647 := Int32.toInt_le (q1.2 134 6)
        have k87_ : (w2 134 6).toInt = (q1.2 134 6).toInt := by rw [ew2, wu_ne (by omega)]
        have zz88_l : -2147483648 ≤ (w2 134 6).toInt := Int32.le_toInt (w2 134 6)
        have zz88_h : (w2 134 6).toInt ≤ 2147483647 := Int32.toInt_le (w2 134 6)
        have k89_ : (q4.2 134 6).toInt = (w2 134 6).toInt := congrArg Int32.toInt (fr_X10_fails (1 : Int32) (q1.2 134 2) w2 q4 hqq4 134 6 (by omega))
        have zz90_l : -2147483648 ≤ (q4.2 134 6).toInt := Int32.le_toInt (q4.2 134 6)
        have zz90_h : (q4.2 134 6).toInt ≤ 2147483647 := Int32.toInt_le (q4.2 134 6)
        have k91_ : (q1.2 134 7).toInt = (w 134 7).toInt := congrArg Int32.toInt (fr_X10_nextLetter  w q1 hqq1 134 7 (by omega))
        have zz92_l : -2147483648 ≤ (q1.2 134 7).toInt := Int32.le_toInt (q1.2 134 7)
        have zz92_h : (q1.2 134 7).toInt ≤ 2147483647 := Int32.toInt_le (q1.2 134 7)
        have k93_ : (w2 134 7).toInt = (q1.2 134 7).toInt := by rw [ew2, wu_ne (by omega)]
        have zz94_l : -2147483648 ≤ (w2 134 7).toInt := Int32.le_toInt (w2 134 7)
        have zz94_h : (w2 134 7).toInt ≤ 2147483647 := Int32.toInt_le (w2 134 7)
        have k95_ : (q4.2 134 7).toInt = (w2 134 7).toInt := congrArg Int32.toInt (fr_X10_fails (1 : Int32) (q1.2 134 2) w2 q4 hqq4 134 7 (by omega))
        have zz96_l : -2147483648 ≤ (q4.2 134 7).toInt := Int32.le_toInt (q4.2 134 7)
        have zz96_h : (q4.2 134 7).toInt ≤ 2147483647 := Int32.toInt_le (q4.2 134 7)
        have h97_ : 0 ≤ (q4.2 134 8).toInt ∧ (q4.2 134 8).toInt ≤ 8 := iv_134_8 hIq4
        have h98_ : 0 ≤ (w2 134 8).toInt ∧ (w2 134 8).toInt ≤ 8 := iv_134_8 hIw2
        have h99_ : 0 ≤ (q1.2 134 8).toInt ∧ (q1.2 134 8).toInt ≤ 8 := iv_134_8 hIq1
        have k100_ : (q1.2 134 8).toInt = (w 134 8).toInt := congrArg Int32.toInt (fr_X10_nextLetter  w q1 hqq1 134 8 (by omega))
        have k101_ : (w2 134 8).toInt = (q1.2 134 8).toInt := by rw [ew2, wu_ne (by omega)]
        have k102_ : (q4.2 134 8).toInt = (w2 134 8).toInt := congrArg Int32.toInt (fr_X10_fails (1 : Int32) (q1.2 134 2) w2 q4 hqq4 134 8 (by omega))
        have h103_ : 0 ≤ (q4.2 134 9).toInt ∧ (q4.2 134 9).toInt ≤ 6 := iv_134_9 hIq4
        have h104_ : 0 ≤ (w2 134 9).toInt ∧ (w2 134 9).toInt ≤ 6 := iv_134_9 hIw2
        have h105_ : 0 ≤ (q1.2 134 9).toInt ∧ (q1.2 134 9).toInt ≤ 6 := iv_134_9 hIq1
        have k106_ : (q1.2 134 9).toInt = (w 134 9).toInt := congrArg Int32.toInt (fr_X10_nextLetter  w q1 hqq1 134 9 (by omega))
        have k107_ : (w2 134 9).toInt = (q1.2 134 9).toInt := by rw [ew2, wu_ne (by omega)]
        have k108_ : (q4.2 134 9).toInt = (w2 134 9).toInt := congrArg Int32.toInt (fr_X10_fails (1 : Int32) (q1.2 134 2) w2 q4 hqq4 134 9 (by omega))
        exact sf_some (show (Inv g q4.2) ∧ (0 ≤ (0 : Int32).toInt ∧ (0 : Int32).toInt ≤ 1) ∧ ((w 134 2).toInt ≤ (q4.2 134 2).toInt) ∧ ((0 : Int32).toInt = 0 ∨ ((w 134 2).toInt < (q4.2 134 2).toInt ∧ (((q4.2 134 6).toInt = 0 ∧ (q4.2 134 7).toInt = 0 ∧ (q4.2 134 8).toInt = 0 ∧ (q4.2 134 9).toInt = 0) ∨ (1 ≤ (q4.2 134 6).toInt ∧ (q4.2 134 6).toInt ≤ 60 ∧ 1 ≤ (q4.2 134 7).toInt ∧ (q4.2 134 7).toInt ≤ 9)))) from ⟨hIq4, by omega, by omega, by omega⟩)
      · have rc83_ : ¬ v3.toInt = 0 := by rw [i_eq_iff] at c83_; omega
        have k109_ : (q1.2 134 7).toInt = (w 134 7).toInt := congrArg Int32.toInt (fr_X10_nextLetter  w q1 hqq1 134 7 (by omega))
        have zz110_l : -2147483648 ≤ (q1.2 134 7).toInt := Int32.le_toInt (q1.2 134 7)
        have zz110_h : (q1.2 134 7).toInt ≤ 2147483647 := Int32.toInt_le (q1.2 134 7)
        have k111_ : (w2 134 7).toInt = (q1.2 134 7).toInt := by rw [ew2, wu_ne (by omega)]
        have zz112_l : -2147483648 ≤ (w2 134 7).toInt := Int32.le_toInt (w2 134 7)
        have zz112_h : (w2 134 7).toInt ≤ 2147483647 := Int32.toInt_le (w2 134 7)
        refine sf_ite (fun c113_ => ?_) (fun c113_ => ?_)
        · have rc113_ : (w2 134 7).toInt = 0 := by rw [i_eq_iff] at c113_; omega
          refine sf_bind (sf_X10_fails (1 : Int32) (q1.2 134 2) w2 hIw2 (by omega) (by omega)) (fun q25 hqq25 hpq25 => ?_)
          obtain ⟨hIq25, hpq25_0, hpq25_1⟩ := hpq25
          have h114_ : 0 ≤ (q25.2 134 2).toInt ∧ (q25.2 134 2).toInt ≤ 241 := iv_134_2 hIq25
          have k115_ : (q1.2 134 6).toInt = (w 134 6).toInt := congrArg Int32.toInt (fr_X10_nextLetter  w q1 hqq1 134 6 (by omega))
          have zz116_l : -2147483648 ≤ (q1.2 134 6).toInt := Int32.le_toInt (q1.2 134 6)
          have zz116_h : (q1.2 134 6).toInt ≤ 2147483647 := Int32.toInt_le (q1.2 134 6)
          have k117_ : (w2 134 6).toInt = (q1.2 134 6).toInt := by rw [ew2, wu_ne (by omega)]
          have zz118_l : -2147483648 ≤ (w2 134 6).toInt := Int32.le_toInt (w2 134 6)
          have zz118_h : (w2 134 6).toInt ≤ 2147483647 := Int32.toInt_le (w2 134 6)
          have k119_ : (q25.2 134 6).toInt = (w2 134 6).toInt := congrArg Int32.toInt (fr_X10_fails (1 : Int32) (q1.2 134 2) w2 q25 hqq25 134 6 (by omega))
          have zz120_l : -2147483648 ≤ (q25.2 134 6).toInt := Int32.le_toInt (q25.2 134 6)
          have zz120_h : (q25.2 134 6).toInt ≤ 2147483647 := Int32.toInt_le (q25.2 134 6)
          have k121_ : (q25.2 134 7).toInt = (w2 134 7).toInt := congrArg Int32.toInt (fr_X10_fails (1 : Int32) (q1.2 134 2) w2 q25 hqq25 134 7 (by omega))
          have h122_ : 0 ≤ (q25.2 134 8).toInt ∧ (q25.2 134 8).toInt ≤ 8 := iv_134_8 hIq25
          have h123_ : 0 ≤ (w2 134 8).toInt ∧ (w2 134 8).toInt ≤ 8 := iv_134_8 hIw2
          have h124_ : 0 ≤ (q1.2 134 8).toInt ∧ (q1.2 134 8).toInt ≤ 8 := iv_134_8 hIq1
          have k125_ : (q1.2 134 8).toInt = (w 134 8).toInt := congrArg Int32.toInt (fr_X10_nextLetter  w q1 hqq1 134 8 (by omega))
          have k126_ : (w2 134 8).toInt = (q1.2 134 8).toInt := by rw [ew2, wu_ne (by omega)]
          have k127_ : (q25.2 134 8).toInt = (w2 134 8).toInt := congrArg Int32.toInt (fr_X10_fails (1 : Int32) (q1.2 134 2) w2 q25 hqq25 134 8 (by omega))
          have h128_ : 0 ≤ (q25.2 134 9).toInt ∧ (q25.2 134 9).toInt ≤ 6 := iv_134_9 hIq25
          have h129_ : 0 ≤ (w2 134 9).toInt ∧ (w2 134 9).toInt ≤ 6 := iv_134_9 hIw2
          have h130_ : 0 ≤ (q1.2 134 9).toInt ∧ (q1.2 134 9).toInt ≤ 6 := iv_134_9 hIq1
          have k131_ : (q1.2 134 9).toInt = (w 134 9).toInt := congrArg Int32.toInt (fr_X10_nextLetter  w q1 hqq1 134 9 (by omega))
          have k132_ : (w2 134 9).toInt = (q1.2 134 9).toInt := by rw [ew2, wu_ne (by omega)]
          have k133_ : (q25.2 134 9).toInt = (w2 134 9).toInt := congrArg Int32.toInt (fr_X10_fails (1 : Int32) (q1.2 134 2) w2 q25 hqq25 134 9 (by omega))
          exact sf_some (show (Inv g q25.2) ∧ (0 ≤ (0 : Int32).toInt ∧ (0 : Int32).toInt ≤ 1) ∧ ((w 134 2).toInt ≤ (q25.2 134 2).toInt) ∧ ((0 : Int32).toInt = 0 ∨ ((w 134 2).toInt < (q25.2 134 2).toInt ∧ (((q25.2 134 6).toInt = 0 ∧ (q25.2 134 7).toInt = 0 ∧ (q25.2 134 8).toInt = 0 ∧ (q25.2 134 9).toInt = 0) ∨ (1 ≤ (q25.2 134 6).toInt ∧ (q25.2 134 6).toInt ≤ 60 ∧ 1 ≤ (q25.2 134 7).toInt ∧ (q25.2 134 7).toInt ≤ 9)))) from ⟨hIq25, by omega, by omega, by omega⟩)
        · have rc113_ : ¬ (w2 134 7).toInt = 0 := by rw [i_eq_iff] at c113_; omega
          refine sf_ite (fun c134_ => ?_) (fun c134_ => ?_)
          · have rc134_ : q1.1.toInt = 107 := by rw [i_eq_iff] at c134_; omega
            have l_3 : (3 : Int32).toInt = 3 := by decide
            refine sf_bind (sf_X10_fails (3 : Int32) (q1.2 134 2) w2 hIw2 (by omega) (by omega)) (fun q5 hqq5 hpq5 => ?_)
            obtain ⟨hIq5, hpq5_0, hpq5_1⟩ := hpq5
            have h135_ : 0 ≤ (q5.2 134 2).toInt ∧ (q5.2 134 2).toInt ≤ 241 := iv_134_2 hIq5
            have k136_ : (q1.2 134 6).toInt = (w 134 6).toInt := congrArg Int32.toInt (fr_X10_nextLetter  w q1 hqq1 134 6 (by omega))
            have zz137_l : -2147483648 ≤ (q1.2 134 6).toInt := Int32.le_toInt (q1.2 134 6)
            have zz137_h : (q1.2 134 6).toInt ≤ 2147483647 := Int32.toInt_le (q1.2 134 6)
            have k138_ : (w2 134 6).toInt = (q1.2 134 6).toInt := by rw [ew2, wu_ne (by omega)]
            have zz139_l : -2147483648 ≤ (w2 134 6).toInt := Int32.le_toInt (w2 134 6)
            have zz139_h : (w2 134 6).toInt ≤ 2147483647 := Int32.toInt_le (w2 134 6)
            have k140_ : (q5.2 134 6).toInt = (w2 134 6).toInt := congrArg Int32.toInt (fr_X10_fails (3 : Int32) (q1.2 134 2) w2 q5 hqq5 134 6 (by omega))
            have zz141_l : -2147483648 ≤ (q5.2 134 6).toInt := Int32.le_toInt (q5.2 134 6)
            have zz141_h : (q5.2 134 6).toInt ≤ 2147483647 := Int32.toInt_le (q5.2 134 6)
            have k142_ : (q5.2 134 7).toInt = (w2 134 7).toInt := congrArg Int32.toInt (fr_X10_fails (3 : Int32) (q1.2 134 2) w2 q5 hqq5 134 7 (by omega))
            have zz143_l : -2147483648 ≤ (q5.2 134 7).toInt := Int32.le_toInt (q5.2 134 7)
            have zz143_h : (q5.2 134 7).toInt ≤ 2147483647 := Int32.toInt_le (q5.2 134 7)
            have h144_ : 0 ≤ (q5.2 134 8).toInt ∧ (q5.2 134 8).toInt ≤ 8 := iv_134_8 hIq5
            have h145_ : 0 ≤ (w2 134 8).toInt ∧ (w2 134 8).toInt ≤ 8 := iv_134_8 hIw2
            have h146_ : 0 ≤ (q1.2 134 8).toInt ∧ (q1.2 134 8).toInt ≤ 8 := iv_134_8 hIq1
            have k147_ : (q1.2 134 8).toInt = (w 134 8).toInt := congrArg Int32.toInt (fr_X10_nextLetter  w q1 hqq1 134 8 (by omega))
            have k148_ : (w2 134 8).toInt = (q1.2 134 8).toInt := by rw [ew2, wu_ne (by omega)]
            have k149_ : (q5.2 134 8).toInt = (w2 134 8).toInt := congrArg Int32.toInt (fr_X10_fails (3 : Int32) (q1.2 134 2) w2 q5 hqq5 134 8 (by omega))
            have h150_ : 0 ≤ (q5.2 134 9).toInt ∧ (q5.2 134 9).toInt ≤ 6 := iv_134_9 hIq5
            have h151_ : 0 ≤ (w2 134 9).toInt ∧ (w2 134 9).toInt ≤ 6 := iv_134_9 hIw2
            have h152_ : 0 ≤ (q1.2 134 9).toInt ∧ (q1.2 134 9).toInt ≤ 6 := iv_134_9 hIq1
            have k153_ : (q1.2 134 9).toInt = (w 134 9).toInt := congrArg Int32.toInt (fr_X10_nextLetter  w q1 hqq1 134 9 (by omega))
            have k154_ : (w2 134 9).toInt = (q1.2 134 9).toInt := by rw [ew2, wu_ne (by omega)]
            have k155_ : (q5.2 134 9).toInt = (w2 134 9).toInt := congrArg Int32.toInt (fr_X10_fails (3 : Int32) (q1.2 134 2) w2 q5 hqq5 134 9 (by omega))
            exact sf_some (show (Inv g q5.2) ∧ (0 ≤ (0 : Int32).toInt ∧ (0 : Int32).toInt ≤ 1) ∧ ((w 134 2).toInt ≤ (q5.2 134 2).toInt) ∧ ((0 : Int32).toInt = 0 ∨ ((w 134 2).toInt < (q5.2 134 2).toInt ∧ (((q5.2 134 6).toInt = 0 ∧ (q5.2 134 7).toInt = 0 ∧ (q5.2 134 8).toInt = 0 ∧ (q5.2 134 9).toInt = 0) ∨ (1 ≤ (q5.2 134 6).toInt ∧ (q5.2 134 6).toInt ≤ 60 ∧ 1 ≤ (q5.2 134 7).toInt ∧ (q5.2 134 7).toInt ≤ 9)))) from ⟨hIq5, by omega, by omega, by omega⟩)
          · have rc134_ : ¬ q1.1.toInt = 107 := by rw [i_eq_iff] at c134_; omega
            have l_109 : (109 : Int32).toInt = 109 := by decide
            refine sf_ite (fun c156_ => ?_) (fun c156_ => ?_)
            · have rc156_ : q1.1.toInt = 109 := by rw [i_eq_iff] at c156_; omega
              have h157_ : 0 ≤ (w2 134 8).toInt ∧ (w2 134 8).toInt ≤ 8 := iv_134_8 hIw2
              have h158_ : 0 ≤ (q1.2 134 8).toInt ∧ (q1.2 134 8).toInt ≤ 8 := iv_134_8 hIq1
              have k159_ : (q1.2 134 8).toInt = (w 134 8).toInt := congrArg Int32.toInt (fr_X10_nextLetter  w q1 hqq1 134 8 (by omega))
              have k160_ : (w2 134 8).toInt = (q1.2 134 8).toInt := by rw [ew2, wu_ne (by omega)]
              have l_8 : (8 : Int32).toInt = 8 := by decide
              refine sf_ite (fun c161_ => ?_) (fun c161_ => ?_)
              · have rc161_ : (w2 134 8).toInt = 8 := by rw [i_eq_iff] at c161_; omega
                have l_3 : (3 : Int32).toInt = 3 := by decide
                refine sf_bind (sf_X10_fails (3 : Int32) (q1.2 134 2) w2 hIw2 (by omega) (by omega)) (fun q15 hqq15 hpq15 => ?_)
                obtain ⟨hIq15, hpq15_0, hpq15_1⟩ := hpq15
                have h162_ : 0 ≤ (q15.2 134 2).toInt ∧ (q15.2 134 2).toInt ≤ 241 := iv_134_2 hIq15
                have k163_ : (q1.2 134 6).toInt = (w 134 6).toInt := congrArg Int32.toInt (fr_X10_nextLetter  w q1 hqq1 134 6 (by omega))
                have zz164_l : -2147483648 ≤ (q1.2 134 6).toInt := Int32.le_toInt (q1.2 134 6)
                have zz164_h : (q1.2 134 6).toInt ≤ 2147483647 := Int32.toInt_le (q1.2 134 6)
                have k165_ : (w2 134 6).toInt = (q1.2 134 6).toInt := by rw [ew2, wu_ne (by omega)]
                have zz166_l : -2147483648 ≤ (w2 134 6).toInt := Int32.le_toInt (w2 134 6)
                have zz166_h : (w2 134 6).toInt ≤ 2147483647 := Int32.toInt_le (w2 134 6)
                have k167_ : (q15.2 134 6).toInt = (w2 134 6).toInt := congrArg Int32.toInt (fr_X10_fails (3 : Int32) (q1.2 134 2) w2 q15 hqq15 134 6 (by omega))
                have zz168_l : -2147483648 ≤ (q15.2 134 6).toInt := Int32.le_toInt (q15.2 134 6)
                have zz168_h : (q15.2 134 6).toInt ≤ 2147483647 := Int32.toInt_le (q15.2 134 6)
                have k169_ : (q15.2 134 7).toInt = (w2 134 7).toInt := congrArg Int32.toInt (fr_X10_fails (3 : Int32) (q1.2 134 2) w2 q15 hqq15 134 7 (by omega))
                have zz170_l : -2147483648 ≤ (q15.2 134 7).toInt := Int32.le_toInt (q15.2 134 7)
                have zz170_h : (q15.2 134 7).toInt ≤ 2147483647 := Int32.toInt_le (q15.2 134 7)
                have h171_ : 0 ≤ (q15.2 134 8).toInt ∧ (q15.2 134 8).toInt ≤ 8 := iv_134_8 hIq15
                have k172_ : (q15.2 134 8).toInt = (w2 134 8).toInt := congrArg Int32.toInt (fr_X10_fails (3 : Int32) (q1.2 134 2) w2 q15 hqq15 134 8 (by omega))
                have h173_ : 0 ≤ (q15.2 134 9).toInt ∧ (q15.2 134 9).toInt ≤ 6 := iv_134_9 hIq15
                have h174_ : 0 ≤ (w2 134 9).toInt ∧ (w2 134 9).toInt ≤ 6 := iv_134_9 hIw2
                have h175_ : 0 ≤ (q1.2 134 9).toInt ∧ (q1.2 134 9).toInt ≤ 6 := iv_134_9 hIq1
                have k176_ : (q1.2 134 9).toInt = (w 134 9).toInt := congrArg Int32.toInt (fr_X10_nextLetter  w q1 hqq1 134 9 (by omega))
                have k177_ : (w2 134 9).toInt = (q1.2 134 9).toInt := by rw [ew2, wu_ne (by omega)]
                have k178_ : (q15.2 134 9).toInt = (w2 134 9).toInt := congrArg Int32.toInt (fr_X10_fails (3 : Int32) (q1.2 134 2) w2 q15 hqq15 134 9 (by omega))
                exact sf_some (show (Inv g q15.2) ∧ (0 ≤ (0 : Int32).toInt ∧ (0 : Int32).toInt ≤ 1) ∧ ((w 134 2).toInt ≤ (q15.2 134 2).toInt) ∧ ((0 : Int32).toInt = 0 ∨ ((w 134 2).toInt < (q15.2 134 2).toInt ∧ (((q15.2 134 6).toInt = 0 ∧ (q15.2 134 7).toInt = 0 ∧ (q15.2 134 8).toInt = 0 ∧ (q15.2 134 9).toInt = 0) ∨ (1 ≤ (q15.2 134 6).toInt ∧ (q15.2 134 6).toInt ≤ 60 ∧ 1 ≤ (q15.2 134 7).toInt ∧ (q15.2 134 7).toInt ≤ 9)))) from ⟨hIq15, by omega, by omega, by omega⟩)
              · have rc161_ : ¬ (w2 134 8).toInt = 8 := by rw [i_eq_iff] at c161_; omega
                have l_116 : (116 : Int32).toInt = 116 := by decide
                refine sf_ite (fun c179_ => ?_) (fun c179_ => ?_)
                · have rc179_ : q1.1.toInt = 116 := by rw [i_eq_iff] at c179_; omega
                  exfalso; omega
                · have rc179_ : ¬ q1.1.toInt = 116 := by rw [i_eq_iff] at c179_; omega
                  refine sf_ite (fun c180_ => ?_) (fun c180_ => ?_)
                  · have rc180_ : q1.1.toInt = 109 := by rw [i_eq_iff] at c180_; omega
                    refine sf_bind (sf_X10_readsMatter  w2 hIw2 (by omega)) (fun q18 hqq18 hpq18 => ?_)
                    obtain ⟨hIq18, hpq18_0, hpq18_1⟩ := hpq18
                    have h181_ : 0 ≤ (w2 134 2).toInt ∧ (w2 134 2).toInt ≤ 241 := iv_134_2 hIw2
                    have k182_ : (w2 134 2).toInt = ((q1.2 134 2) + (1 : Int32)).toInt := by rw [ew2, wu_at]
                    have h183_ : 0 ≤ (q18.2 134 2).toInt ∧ (q18.2 134 2).toInt ≤ 241 := iv_134_2 hIq18
                    refine sf_zr (i_z01 (by omega) (by omega)) ?_
                    have k184_ : (q1.2 134 6).toInt = (w 134 6).toInt := congrArg Int32.toInt (fr_X10_nextLetter  w q1 hqq1 134 6 (by omega))
                    have zz185_l : -2147483648 ≤ (q1.2 134 6).toInt := Int32.le_toInt (q1.2 134 6)
                    have zz185_h : (q1.2 134 6).toInt ≤ 2147483647 := Int32.toInt_le (q1.2 134 6)
                    have k186_ : (w2 134 6).toInt = (q1.2 134 6).toInt := by rw [ew2, wu_ne (by omega)]
                    have zz187_l : -2147483648 ≤ (w2 134 6).toInt := Int32.le_toInt (w2 134 6)
                    have zz187_h : (w2 134 6).toInt ≤ 2147483647 := Int32.toInt_le (w2 134 6)
                    have k188_ : (q18.2 134 6).toInt = (w2 134 6).toInt := congrArg Int32.toInt (fr_X10_readsMatter  w2 q18 hqq18 134 6 (by omega))
                    have zz189_l : -2147483648 ≤ (q18.2 134 6).toInt := Int32.le_toInt (q18.2 134 6)
                    have zz189_h : (q18.2 134 6).toInt ≤ 2147483647 := Int32.toInt_le (q18.2 134 6)
                    have k190_ : (q18.2 134 7).toInt = (w2 134 7).toInt := congrArg Int32.toInt (fr_X10_readsMatter  w2 q18 hqq18 134 7 (by omega))
                    have zz191_l : -2147483648 ≤ (q18.2 134 7).toInt := Int32.le_toInt (q18.2 134 7)
                    have zz191_h : (q18.2 134 7).toInt ≤ 2147483647 := Int32.toInt_le (q18.2 134 7)
                    have h192_ : 0 ≤ (q18.2 134 8).toInt ∧ (q18.2 134 8).toInt ≤ 8 := iv_134_8 hIq18
                    have h193_ : 0 ≤ (q18.2 134 9).toInt ∧ (q18.2 134 9).toInt ≤ 6 := iv_134_9 hIq18
                    have h194_ : 0 ≤ (w2 134 9).toInt ∧ (w2 134 9).toInt ≤ 6 := iv_134_9 hIw2
                    have h195_ : 0 ≤ (q1.2 134 9).toInt ∧ (q1.2 134 9).toInt ≤ 6 := iv_134_9 hIq1
                    have k196_ : (q1.2 134 9).toInt = (w 134 9).toInt := congrArg Int32.toInt (fr_X10_nextLetter  w q1 hqq1 134 9 (by omega))
                    have k197_ : (w2 134 9).toInt = (q1.2 134 9).toInt := by rw [ew2, wu_ne (by omega)]
                    have k198_ : (q18.2 134 9).toInt = (w2 134 9).toInt := congrArg Int32.toInt (fr_X10_readsMatter  w2 q18 hqq18 134 9 (by omega))
                    exact sf_some (show (Inv g q18.2) ∧ (0 ≤ q18.1.toInt ∧ q18.1.toInt ≤ 1) ∧ ((w 134 2).toInt ≤ (q18.2 134 2).toInt) ∧ (q18.1.toInt = 0 ∨ ((w 134 2).toInt < (q18.2 134 2).toInt ∧ (((q18.2 134 6).toInt = 0 ∧ (q18.2 134 7).toInt = 0 ∧ (q18.2 134 8).toInt = 0 ∧ (q18.2 134 9).toInt = 0) ∨ (1 ≤ (q18.2 134 6).toInt ∧ (q18.2 134 6).toInt ≤ 60 ∧ 1 ≤ (q18.2 134 7).toInt ∧ (q18.2 134 7).toInt ≤ 9)))) from ⟨hIq18, by omega, by omega, by omega⟩)
                  · have rc180_ : ¬ q1.1.toInt = 109 := by rw [i_eq_iff] at c180_; omega
                    exfalso; omega
            · have rc156_ : ¬ q1.1.toInt = 109 := by rw [i_eq_iff] at c156_; omega
              have l_116 : (116 : Int32).toInt = 116 := by decide
              refine sf_ite (fun c199_ => ?_) (fun c199_ => ?_)
              · have rc199_ : q1.1.toInt = 116 := by rw [i_eq_iff] at c199_; omega
                have h200_ : 0 ≤ (w2 134 9).toInt ∧ (w2 134 9).toInt ≤ 6 := iv_134_9 hIw2
                have h201_ : 0 ≤ (q1.2 134 9).toInt ∧ (q1.2 134 9).toInt ≤ 6 := iv_134_9 hIq1
                have k202_ : (q1.2 134 9).toInt = (w 134 9).toInt := congrArg Int32.toInt (fr_X10_nextLetter  w q1 hqq1 134 9 (by omega))
                have k203_ : (w2 134 9).toInt = (q1.2 134 9).toInt := by rw [ew2, wu_ne (by omega)]
                have l_6 : (6 : Int32).toInt = 6 := by decide
                refine sf_ite (fun c204_ => ?_) (fun c204_ => ?_)
                · have rc204_ : (w2 134 9).toInt = 6 := by rw [i_eq_iff] at c204_; omega
                  have l_3 : (3 : Int32).toInt = 3 := by decide
                  refine sf_bind (sf_X10_fails (3 : Int32) (q1.2 134 2) w2 hIw2 (by omega) (by omega)) (fun q14 hqq14 hpq14 => ?_)
                  obtain ⟨hIq14, hpq14_0, hpq14_1⟩ := hpq14
                  have h205_ : 0 ≤ (q14.2 134 2).toInt ∧ (q14.2 134 2).toInt ≤ 241 := iv_134_2 hIq14
                  have k206_ : (q1.2 134 6).toInt = (w 134 6).toInt := congrArg Int32.toInt (fr_X10_nextLetter  w q1 hqq1 134 6 (by omega))
                  have zz207_l : -2147483648 ≤ (q1.2 134 6).toInt := Int32.le_toInt (q1.2 134 6)
                  have zz207_h : (q1.2 134 6).toInt ≤ 2147483647 := Int32.toInt_le (q1.2 134 6)
                  have k208_ : (w2 134 6).toInt = (q1.2 134 6).toInt := by rw [ew2, wu_ne (by omega)]
                  have zz209_l : -2147483648 ≤ (w2 134 6).toInt := Int32.le_toInt (w2 134 6)
                  have zz209_h : (w2 134 6).toInt ≤ 2147483647 := Int32.toInt_le (w2 134 6)
                  have k210_ : (q14.2 134 6).toInt = (w2 134 6).toInt := congrArg Int32.toInt (fr_X10_fails (3 : Int32) (q1.2 134 2) w2 q14 hqq14 134 6 (by omega))
                  have zz211_l : -2147483648 ≤ (q14.2 134 6).toInt := Int32.le_toInt (q14.2 134 6)
                  have zz211_h : (q14.2 134 6).toInt ≤ 2147483647 := Int32.toInt_le (q14.2 134 6)
                  have k212_ : (q14.2 134 7).toInt = (w2 134 7).toInt := congrArg Int32.toInt (fr_X10_fails (3 : Int32) (q1.2 134 2) w2 q14 hqq14 134 7 (by omega))
                  have zz213_l : -2147483648 ≤ (q14.2 134 7).toInt := Int32.le_toInt (q14.2 134 7)
                  have zz213_h : (q14.2 134 7).toInt ≤ 2147483647 := Int32.toInt_le (q14.2 134 7)
                  have h214_ : 0 ≤ (q14.2 134 8).toInt ∧ (q14.2 134 8).toInt ≤ 8 := iv_134_8 hIq14
                  have h215_ : 0 ≤ (w2 134 8).toInt ∧ (w2 134 8).toInt ≤ 8 := iv_134_8 hIw2
                  have h216_ : 0 ≤ (q1.2 134 8).toInt ∧ (q1.2 134 8).toInt ≤ 8 := iv_134_8 hIq1
                  have k217_ : (q1.2 134 8).toInt = (w 134 8).toInt := congrArg Int32.toInt (fr_X10_nextLetter  w q1 hqq1 134 8 (by omega))
                  have k218_ : (w2 134 8).toInt = (q1.2 134 8).toInt := by rw [ew2, wu_ne (by omega)]
                  have k219_ : (q14.2 134 8).toInt = (w2 134 8).toInt := congrArg Int32.toInt (fr_X10_fails (3 : Int32) (q1.2 134 2) w2 q14 hqq14 134 8 (by omega))
                  have h220_ : 0 ≤ (q14.2 134 9).toInt ∧ (q14.2 134 9).toInt ≤ 6 := iv_134_9 hIq14
                  have k221_ : (q14.2 134 9).toInt = (w2 134 9).toInt := congrArg Int32.toInt (fr_X10_fails (3 : Int32) (q1.2 134 2) w2 q14 hqq14 134 9 (by omega))
                  exact sf_some (show (Inv g q14.2) ∧ (0 ≤ (0 : Int32).toInt ∧ (0 : Int32).toInt ≤ 1) ∧ ((w 134 2).toInt ≤ (q14.2 134 2).toInt) ∧ ((0 : Int32).toInt = 0 ∨ ((w 134 2).toInt < (q14.2 134 2).toInt ∧ (((q14.2 134 6).toInt = 0 ∧ (q14.2 134 7).toInt = 0 ∧ (q14.2 134 8).toInt = 0 ∧ (q14.2 134 9).toInt = 0) ∨ (1 ≤ (q14.2 134 6).toInt ∧ (q14.2 134 6).toInt ≤ 60 ∧ 1 ≤ (q14.2 134 7).toInt ∧ (q14.2 134 7).toInt ≤ 9)))) from ⟨hIq14, by omega, by omega, by omega⟩)
                · have rc204_ : ¬ (w2 134 9).toInt = 6 := by rw [i_eq_iff] at c204_; omega
                  refine sf_ite (fun c222_ => ?_) (fun c222_ => ?_)
                  · have rc222_ : q1.1.toInt = 109 := by rw [i_eq_iff] at c222_; omega
                    exfalso; omega
                  · have rc222_ : ¬ q1.1.toInt = 109 := by rw [i_eq_iff] at c222_; omega
                    refine sf_bind (sf_X10_readsTraveller  w2 hIw2 (by omega)) (fun q10 hqq10 hpq10 => ?_)
                    obtain ⟨hIq10, hpq10_0, hpq10_1⟩ := hpq10
                    have h223_ : 0 ≤ (w2 134 2).toInt ∧ (w2 134 2).toInt ≤ 241 := iv_134_2 hIw2
                    have k224_ : (w2 134 2).toInt = ((q1.2 134 2) + (1 : Int32)).toInt := by rw [ew2, wu_at]
                    have h225_ : 0 ≤ (q10.2 134 2).toInt ∧ (q10.2 134 2).toInt ≤ 241 := iv_134_2 hIq10
                    refine sf_zr (i_z01 (by omega) (by omega)) ?_
                    have k226_ : (q1.2 134 6).toInt = (w 134 6).toInt := congrArg Int32.toInt (fr_X10_nextLetter  w q1 hqq1 134 6 (by omega))
                    have zz227_l : -2147483648 ≤ (q1.2 134 6).toInt := Int32.le_toInt (q1.2 134 6)
                    have zz227_h : (q1.2 134 6).toInt ≤ 2147483647 := Int32.toInt_le (q1.2 134 6)
                    have k228_ : (w2 134 6).toInt = (q1.2 134 6).toInt := by rw [ew2, wu_ne (by omega)]
                    have zz229_l : -2147483648 ≤ (w2 134 6).toInt := Int32.le_toInt (w2 134 6)
                    have zz229_h : (w2 134 6).toInt ≤ 2147483647 := Int32.toInt_le (w2 134 6)
                    have k230_ : (q10.2 134 6).toInt = (w2 134 6).toInt := congrArg Int32.toInt (fr_X10_readsTraveller  w2 q10 hqq10 134 6 (by omega))
                    have zz231_l : -2147483648 ≤ (q10.2 134 6).toInt := Int32.le_toInt (q10.2 134 6)
                    have zz231_h : (q10.2 134 6).toInt ≤ 2147483647 := Int32.toInt_le (q10.2 134 6)
                    have k232_ : (q10.2 134 7).toInt = (w2 134 7).toInt := congrArg Int32.toInt (fr_X10_readsTraveller  w2 q10 hqq10 134 7 (by omega))
                    have zz233_l : -2147483648 ≤ (q10.2 134 7).toInt := Int32.le_toInt (q10.2 134 7)
                    have zz233_h : (q10.2 134 7).toInt ≤ 2147483647 := Int32.toInt_le (q10.2 134 7)
                    have h234_ : 0 ≤ (q10.2 134 8).toInt ∧ (q10.2 134 8).toInt ≤ 8 := iv_134_8 hIq10
                    have h235_ : 0 ≤ (w2 134 8).toInt ∧ (w2 134 8).toInt ≤ 8 := iv_134_8 hIw2
                    have h236_ : 0 ≤ (q1.2 134 8).toInt ∧ (q1.2 134 8).toInt ≤ 8 := iv_134_8 hIq1
                    have k237_ : (q1.2 134 8).toInt = (w 134 8).toInt := congrArg Int32.toInt (fr_X10_nextLetter  w q1 hqq1 134 8 (by omega))
                    have k238_ : (w2 134 8).toInt = (q1.2 134 8).toInt := by rw [ew2, wu_ne (by omega)]
                    have k239_ : (q10.2 134 8).toInt = (w2 134 8).toInt := congrArg Int32.toInt (fr_X10_readsTraveller  w2 q10 hqq10 134 8 (by omega))
                    have h240_ : 0 ≤ (q10.2 134 9).toInt ∧ (q10.2 134 9).toInt ≤ 6 := iv_134_9 hIq10
                    exact sf_some (show (Inv g q10.2) ∧ (0 ≤ q10.1.toInt ∧ q10.1.toInt ≤ 1) ∧ ((w 134 2).toInt ≤ (q10.2 134 2).toInt) ∧ (q10.1.toInt = 0 ∨ ((w 134 2).toInt < (q10.2 134 2).toInt ∧ (((q10.2 134 6).toInt = 0 ∧ (q10.2 134 7).toInt = 0 ∧ (q10.2 134 8).toInt = 0 ∧ (q10.2 134 9).toInt = 0) ∨ (1 ≤ (q10.2 134 6).toInt ∧ (q10.2 134 6).toInt ≤ 60 ∧ 1 ≤ (q10.2 134 7).toInt ∧ (q10.2 134 7).toInt ≤ 9)))) from ⟨hIq10, by omega, by omega, by omega⟩)
              · have rc199_ : ¬ q1.1.toInt = 116 := by rw [i_eq_iff] at c199_; omega
                refine sf_ite (fun c241_ => ?_) (fun c241_ => ?_)
                · have rc241_ : q1.1.toInt = 109 := by rw [i_eq_iff] at c241_; omega
                  have h242_ : 0 ≤ (w2 134 8).toInt ∧ (w2 134 8).toInt ≤ 8 := iv_134_8 hIw2
                  have h243_ : 0 ≤ (q1.2 134 8).toInt ∧ (q1.2 134 8).toInt ≤ 8 := iv_134_8 hIq1
                  have k244_ : (q1.2 134 8).toInt = (w 134 8).toInt := congrArg Int32.toInt (fr_X10_nextLetter  w q1 hqq1 134 8 (by omega))
                  have k245_ : (w2 134 8).toInt = (q1.2 134 8).toInt := by rw [ew2, wu_ne (by omega)]
                  refine sf_bind (sf_X10_readsMatter  w2 hIw2 (by omega)) (fun q8 hqq8 hpq8 => ?_)
                  obtain ⟨hIq8, hpq8_0, hpq8_1⟩ := hpq8
                  have h246_ : 0 ≤ (w2 134 2).toInt ∧ (w2 134 2).toInt ≤ 241 := iv_134_2 hIw2
                  have k247_ : (w2 134 2).toInt = ((q1.2 134 2) + (1 : Int32)).toInt := by rw [ew2, wu_at]
                  have h248_ : 0 ≤ (q8.2 134 2).toInt ∧ (q8.2 134 2).toInt ≤ 241 := iv_134_2 hIq8
                  refine sf_zr (i_z01 (by omega) (by omega)) ?_
                  have k249_ : (q1.2 134 6).toInt = (w 134 6).toInt := congrArg Int32.toInt (fr_X10_nextLetter  w q1 hqq1 134 6 (by omega))
                  have zz250_l : -2147483648 ≤ (q1.2 134 6).toInt := Int32.le_toInt (q1.2 134 6)
                  have zz250_h : (q1.2 134 6).toInt ≤ 2147483647 := Int32.toInt_le (q1.2 134 6)
                  have k251_ : (w2 134 6).toInt = (q1.2 134 6).toInt := by rw [ew2, wu_ne (by omega)]
                  have zz252_l : -2147483648 ≤ (w2 134 6).toInt := Int32.le_toInt (w2 134 6)
                  have zz252_h : (w2 134 6).toInt ≤ 2147483647 := Int32.toInt_le (w2 134 6)
                  have k253_ : (q8.2 134 6).toInt = (w2 134 6).toInt := congrArg Int32.toInt (fr_X10_readsMatter  w2 q8 hqq8 134 6 (by omega))
                  have zz254_l : -2147483648 ≤ (q8.2 134 6).toInt := Int32.le_toInt (q8.2 134 6)
                  have zz254_h : (q8.2 134 6).toInt ≤ 2147483647 := Int32.toInt_le (q8.2 134 6)
                  have k255_ : (q8.2 134 7).toInt = (w2 134 7).toInt := congrArg Int32.toInt (fr_X10_readsMatter  w2 q8 hqq8 134 7 (by omega))
                  have zz256_l : -2147483648 ≤ (q8.2 134 7).toInt := Int32.le_toInt (q8.2 134 7)
                  have zz256_h : (q8.2 134 7).toInt ≤ 2147483647 := Int32.toInt_le (q8.2 134 7)
                  have h257_ : 0 ≤ (q8.2 134 8).toInt ∧ (q8.2 134 8).toInt ≤ 8 := iv_134_8 hIq8
                  have h258_ : 0 ≤ (q8.2 134 9).toInt ∧ (q8.2 134 9).toInt ≤ 6 := iv_134_9 hIq8
                  have h259_ : 0 ≤ (w2 134 9).toInt ∧ (w2 134 9).toInt ≤ 6 := iv_134_9 hIw2
                  have h260_ : 0 ≤ (q1.2 134 9).toInt ∧ (q1.2 134 9).toInt ≤ 6 := iv_134_9 hIq1
                  have k261_ : (q1.2 134 9).toInt = (w 134 9).toInt := congrArg Int32.toInt (fr_X10_nextLetter  w q1 hqq1 134 9 (by omega))
                  have k262_ : (w2 134 9).toInt = (q1.2 134 9).toInt := by rw [ew2, wu_ne (by omega)]
                  have k263_ : (q8.2 134 9).toInt = (w2 134 9).toInt := congrArg Int32.toInt (fr_X10_readsMatter  w2 q8 hqq8 134 9 (by omega))
                  exact sf_some (show (Inv g q8.2) ∧ (0 ≤ q8.1.toInt ∧ q8.1.toInt ≤ 1) ∧ ((w 134 2).toInt ≤ (q8.2 134 2).toInt) ∧ (q8.1.toInt = 0 ∨ ((w 134 2).toInt < (q8.2 134 2).toInt ∧ (((q8.2 134 6).toInt = 0 ∧ (q8.2 134 7).toInt = 0 ∧ (q8.2 134 8).toInt = 0 ∧ (q8.2 134 9).toInt = 0) ∨ (1 ≤ (q8.2 134 6).toInt ∧ (q8.2 134 6).toInt ≤ 60 ∧ 1 ≤ (q8.2 134 7).toInt ∧ (q8.2 134 7).toInt ≤ 9)))) from ⟨hIq8, by omega, by omega, by omega⟩)
                · have rc241_ : ¬ q1.1.toInt = 109 := by rw [i_eq_iff] at c241_; omega
                  have h264_ : 0 ≤ (w2 134 9).toInt ∧ (w2 134 9).toInt ≤ 6 := iv_134_9 hIw2
                  have h265_ : 0 ≤ (q1.2 134 9).toInt ∧ (q1.2 134 9).toInt ≤ 6 := iv_134_9 hIq1
                  have k266_ : (q1.2 134 9).toInt = (w 134 9).toInt := congrArg Int32.toInt (fr_X10_nextLetter  w q1 hqq1 134 9 (by omega))
                  have k267_ : (w2 134 9).toInt = (q1.2 134 9).toInt := by rw [ew2, wu_ne (by omega)]
                  refine sf_bind (sf_X10_readsTraveller  w2 hIw2 (by omega)) (fun q6 hqq6 hpq6 => ?_)
                  obtain ⟨hIq6, hpq6_0, hpq6_1⟩ := hpq6
                  have h268_ : 0 ≤ (w2 134 2).toInt ∧ (w2 134 2).toInt ≤ 241 := iv_134_2 hIw2
                  have k269_ : (w2 134 2).toInt = ((q1.2 134 2) + (1 : Int32)).toInt := by rw [ew2, wu_at]
                  have h270_ : 0 ≤ (q6.2 134 2).toInt ∧ (q6.2 134 2).toInt ≤ 241 := iv_134_2 hIq6
                  refine sf_zr (i_z01 (by omega) (by omega)) ?_
                  have k271_ : (q1.2 134 6).toInt = (w 134 6).toInt := congrArg Int32.toInt (fr_X10_nextLetter  w q1 hqq1 134 6 (by omega))
                  have zz272_l : -2147483648 ≤ (q1.2 134 6).toInt := Int32.le_toInt (q1.2 134 6)
                  have zz272_h : (q1.2 134 6).toInt ≤ 2147483647 := Int32.toInt_le (q1.2 134 6)
                  have k273_ : (w2 134 6).toInt = (q1.2 134 6).toInt := by rw [ew2, wu_ne (by omega)]
                  have zz274_l : -2147483648 ≤ (w2 134 6).toInt := Int32.le_toInt (w2 134 6)
                  have zz274_h : (w2 134 6).toInt ≤ 2147483647 := Int32.toInt_le (w2 134 6)
                  have k275_ : (q6.2 134 6).toInt = (w2 134 6).toInt := congrArg Int32.toInt (fr_X10_readsTraveller  w2 q6 hqq6 134 6 (by omega))
                  have zz276_l : -2147483648 ≤ (q6.2 134 6).toInt := Int32.le_toInt (q6.2 134 6)
                  have zz276_h : (q6.2 134 6).toInt ≤ 2147483647 := Int32.toInt_le (q6.2 134 6)
                  have k277_ : (q6.2 134 7).toInt = (w2 134 7).toInt := congrArg Int32.toInt (fr_X10_readsTraveller  w2 q6 hqq6 134 7 (by omega))
                  have zz278_l : -2147483648 ≤ (q6.2 134 7).toInt := Int32.le_toInt (q6.2 134 7)
                  have zz278_h : (q6.2 134 7).toInt ≤ 2147483647 := Int32.toInt_le (q6.2 134 7)
                  have h279_ : 0 ≤ (q6.2 134 8).toInt ∧ (q6.2 134 8).toInt ≤ 8 := iv_134_8 hIq6
                  have h280_ : 0 ≤ (w2 134 8).toInt ∧ (w2 134 8).toInt ≤ 8 := iv_134_8 hIw2
                  have h281_ : 0 ≤ (q1.2 134 8).toInt ∧ (q1.2 134 8).toInt ≤ 8 := iv_134_8 hIq1
                  have k282_ : (q1.2 134 8).toInt = (w 134 8).toInt := congrArg Int32.toInt (fr_X10_nextLetter  w q1 hqq1 134 8 (by omega))
                  have k283_ : (w2 134 8).toInt = (q1.2 134 8).toInt := by rw [ew2, wu_ne (by omega)]
                  have k284_ : (q6.2 134 8).toInt = (w2 134 8).toInt := congrArg Int32.toInt (fr_X10_readsTraveller  w2 q6 hqq6 134 8 (by omega))
                  have h285_ : 0 ≤ (q6.2 134 9).toInt ∧ (q6.2 134 9).toInt ≤ 6 := iv_134_9 hIq6
                  exact sf_some (show (Inv g q6.2) ∧ (0 ≤ q6.1.toInt ∧ q6.1.toInt ≤ 1) ∧ ((w 134 2).toInt ≤ (q6.2 134 2).toInt) ∧ (q6.1.toInt = 0 ∨ ((w 134 2).toInt < (q6.2 134 2).toInt ∧ (((q6.2 134 6).toInt = 0 ∧ (q6.2 134 7).toInt = 0 ∧ (q6.2 134 8).toInt = 0 ∧ (q6.2 134 9).toInt = 0) ∨ (1 ≤ (q6.2 134 6).toInt ∧ (q6.2 134 6).toInt ≤ 60 ∧ 1 ≤ (q6.2 134 7).toInt ∧ (q6.2 134 7).toInt ≤ 9)))) from ⟨hIq6, by omega, by omega, by omega⟩)
