set_option maxRecDepth 20000 in
set_option maxHeartbeats 2000000 in
theorem sf_X9_seed {g : Nat → Int} (a1 : Int32) (w : Mem) (hI : Inv g w) : Sf (fun (q : Int32 × Mem) => (Inv g q.2)) (f_X9_seed a1 w) := by
  obtain ⟨hg0, hg1⟩ := hI.1
  unfold f_X9_seed
  have zz1_l : -2147483648 ≤ a1.toInt := Int32.le_toInt a1
  have zz1_h : a1.toInt ≤ 2147483647 := Int32.toInt_le a1
  have l_0 : (0 : Int32).toInt = 0 := by decide
  refine sf_ite (fun c2_ => ?_) (fun c2_ => ?_)
  · have rc2_ : a1.toInt < 0 := by rw [Int32.lt_iff_toInt_lt] at c2_; omega
    have l_m1000000002 : (-1000000002 : Int32).toInt = -1000000002 := by decide
    exact sf_some (show (Inv g w) from hI)
  · have rc2_ : ¬ a1.toInt < 0 := by rw [Int32.lt_iff_toInt_lt] at c2_; omega
    refine sf_pw (fun w1 ew1 => ?_)
    have hIw1 : Inv g w1 := by rw [ew1]; exact uq_0_10 hI
    have zz3_l : -2147483648 ≤ (w 0 10).toInt := Int32.le_toInt (w 0 10)
    have zz3_h : (w 0 10).toInt ≤ 2147483647 := Int32.toInt_le (w 0 10)
    exact sf_some (show (Inv g w1) from hIw1)
set_option maxRecDepth 20000 in
set_option maxHeartbeats 2000000 in
theorem sf_X9_keep {g : Nat → Int} (a1 : Int32) (w : Mem) (hI : Inv g w) : Sf (fun (q : Int32 × Mem) => (Inv g q.2)) (f_X9_keep a1 w) := by
  obtain ⟨hg0, hg1⟩ := hI.1
  unfold f_X9_keep
  have zz1_l : -2147483648 ≤ a1.toInt := Int32.le_toInt a1
  have zz1_h : a1.toInt ≤ 2147483647 := Int32.toInt_le a1
  have l_0 : (0 : Int32).toInt = 0 := by decide
  refine sf_ite (fun c2_ => ?_) (fun c2_ => ?_)
  · have rc2_ : a1.toInt < 0 := by rw [Int32.lt_iff_toInt_lt] at c2_; omega
    have l_m1000000001 : (-1000000001 : Int32).toInt = -1000000001 := by decide
    exact sf_some (show (Inv g w) from hI)
  · have rc2_ : ¬ a1.toInt < 0 := by rw [Int32.lt_iff_toInt_lt] at c2_; omega
    have l_2 : (2 : Int32).toInt = 2 := by decide
    refine sf_ite (fun c3_ => ?_) (fun c3_ => ?_)
    · have rc3_ : a1.toInt < 2 := by rw [Int32.lt_iff_toInt_lt] at c3_; omega
      refine sf_ri (by omega) (by omega) (fun o1 eo1 ho1 mo1 => ?_)
      refine sf_bind (sf_X3_copyFrom (o1 + 1) (ev_im ho1) 3 (Or.inl rfl) w hI) (fun w2 hqw2 hpw2 => ?_)
      have hIw2 := hpw2
      have zz4_l : -2147483648 ≤ (w 0 10).toInt := Int32.le_toInt (w 0 10)
      have zz4_h : (w 0 10).toInt ≤ 2147483647 := Int32.toInt_le (w 0 10)
      have k5_ : (w2 0 10).toInt = (w 0 10).toInt := congrArg Int32.toInt (fr_X3_copyFrom (o1 + 1) (ev_im ho1) 3 (Or.inl rfl) w w2 hqw2 0 10 (by omega))
      have zz6_l : -2147483648 ≤ (w2 0 10).toInt := Int32.le_toInt (w2 0 10)
      have zz6_h : (w2 0 10).toInt ≤ 2147483647 := Int32.toInt_le (w2 0 10)
      refine sf_pw (fun w3 ew3 => ?_)
      have hIw3 : Inv g w3 := by rw [ew3]; exact uqX4_1 ho1 hIw2
      have l_1 : (1 : Int32).toInt = 1 := by decide
      refine sf_pw (fun w4 ew4 => ?_)
      have hIw4 : Inv g w4 := by rw [ew4]; exact upX4_2 ho1 hIw3 (show 0 ≤ (1 : Int32).toInt ∧ (1 : Int32).toInt ≤ 1 from by omega)
      refine sf_bind (sf_X6_forget  w4 hIw4) (fun w5 hqw5 hpw5 => ?_)
      have hIw5 := hpw5
      exact sf_some (show (Inv g w5) from hIw5)
    · have rc3_ : ¬ a1.toInt < 2 := by rw [Int32.lt_iff_toInt_lt] at c3_; omega
      have l_m1000000001 : (-1000000001 : Int32).toInt = -1000000001 := by decide
      exact sf_some (show (Inv g w) from hI)
set_option maxRecDepth 20000 in
set_option maxHeartbeats 2000000 in
theorem sf_X9_goBack {g : Nat → Int} (a1 : Int32) (w : Mem) (hI : Inv g w) : Sf (fun (q : Int32 × Mem) => (Inv g q.2)) (f_X9_goBack a1 w) := by
  obtain ⟨hg0, hg1⟩ := hI.1
  unfold f_X9_goBack
  have zz1_l : -2147483648 ≤ a1.toInt := Int32.le_toInt a1
  have zz1_h : a1.toInt ≤ 2147483647 := Int32.toInt_le a1
  have l_0 : (0 : Int32).toInt = 0 := by decide
  refine sf_ite (fun c2_ => ?_) (fun c2_ => ?_)
  · have rc2_ : a1.toInt < 0 := by rw [Int32.lt_iff_toInt_lt] at c2_; omega
    have l_m1000000001 : (-1000000001 : Int32).toInt = -1000000001 := by decide
    exact sf_some (show (Inv g w) from hI)
  · have rc2_ : ¬ a1.toInt < 0 := by rw [Int32.lt_iff_toInt_lt] at c2_; omega
    have l_2 : (2 : Int32).toInt = 2 := by decide
    refine sf_ite (fun c3_ => ?_) (fun c3_ => ?_)
    · have rc3_ : a1.toInt < 2 := by rw [Int32.lt_iff_toInt_lt] at c3_; omega
      refine sf_ri (by omega) (by omega) (fun o1 eo1 ho1 mo1 => ?_)
      have h4_ : 0 ≤ (w o1 2).toInt ∧ (w o1 2).toInt ≤ 1 := ivX4_2 ho1 hI
      refine sf_ite (fun c5_ => ?_) (fun c5_ => ?_)
      · have rc5_ : (w o1 2).toInt = 0 := by rw [i_eq_iff] at c5_; omega
        have l_m1000000003 : (-1000000003 : Int32).toInt = -1000000003 := by decide
        exact sf_some (show (Inv g w) from hI)
      · have rc5_ : ¬ (w o1 2).toInt = 0 := by rw [i_eq_iff] at c5_; omega
        refine sf_bind (sf_X3_copyFrom 3 (Or.inl rfl) (o1 + 1) (ev_im ho1) w hI) (fun w2 hqw2 hpw2 => ?_)
        have hIw2 := hpw2
        have zz6_l : -2147483648 ≤ (w2 o1 1).toInt := Int32.le_toInt (w2 o1 1)
        have zz6_h : (w2 o1 1).toInt ≤ 2147483647 := Int32.toInt_le (w2 o1 1)
        refine sf_pw (fun w3 ew3 => ?_)
        have hIw3 : Inv g w3 := by rw [ew3]; exact uq_0_10 hIw2
        refine sf_bind (sf_X6_forget  w3 hIw3) (fun w4 hqw4 hpw4 => ?_)
        have hIw4 := hpw4
        have l_1 : (1 : Int32).toInt = 1 := by decide
        exact sf_some (show (Inv g w4) from hIw4)
    · have rc3_ : ¬ a1.toInt < 2 := by rw [Int32.lt_iff_toInt_lt] at c3_; omega
      have l_m1000000001 : (-1000000001 : Int32).toInt = -1000000001 := by decide
      exact sf_some (show (Inv g w) from hI)
set_option maxRecDepth 20000 in
set_option maxHeartbeats 2000000 in
theorem sf_X10_in (a0 : Int32) (a1 : Int32) (a2 : Int32) : Sf (fun (q : Int32) => (0 ≤ q.toInt ∧ q.toInt ≤ 1) ∧ (q.toInt = 0 ∨ (a1.toInt ≤ a0.toInt ∧ a0.toInt ≤ a2.toInt)) ∧ (q.toInt = 1 ∨ a0.toInt < a1.toInt ∨ a2.toInt < a0.toInt)) (f_X10_in a0 a1 a2) := by
  unfold f_X10_in
  have zz1_l : -2147483648 ≤ a0.toInt := Int32.le_toInt a0
  have zz1_h : a0.toInt ≤ 2147483647 := Int32.toInt_le a0
  have zz2_l : -2147483648 ≤ a1.toInt := Int32.le_toInt a1
  have zz2_h : a1.toInt ≤ 2147483647 := Int32.toInt_le a1
  refine sf_ite (fun c3_ => ?_) (fun c3_ => ?_)
  · have rc3_ : a0.toInt < a1.toInt := by rw [Int32.lt_iff_toInt_lt] at c3_; omega
    have l_0 : (0 : Int32).toInt = 0 := by decide
    exact sf_some (show (0 ≤ (0 : Int32).toInt ∧ (0 : Int32).toInt ≤ 1) ∧ ((0 : Int32).toInt = 0 ∨ (a1.toInt ≤ a0.toInt ∧ a0.toInt ≤ a2.toInt)) ∧ ((0 : Int32).toInt = 1 ∨ a0.toInt < a1.toInt ∨ a2.toInt < a0.toInt) from ⟨by omega, by omega, by omega⟩)
  · have rc3_ : ¬ a0.toInt < a1.toInt := by rw [Int32.lt_iff_toInt_lt] at c3_; omega
    have zz4_l : -2147483648 ≤ a2.toInt := Int32.le_toInt a2
    have zz4_h : a2.toInt ≤ 2147483647 := Int32.toInt_le a2
    refine sf_ite (fun c5_ => ?_) (fun c5_ => ?_)
    · have rc5_ : a2.toInt < a0.toInt := by rw [Int32.lt_iff_toInt_lt] at c5_; omega
      have l_0 : (0 : Int32).toInt = 0 := by decide
      exact sf_some (show (0 ≤ (0 : Int32).toInt ∧ (0 : Int32).toInt ≤ 1) ∧ ((0 : Int32).toInt = 0 ∨ (a1.toInt ≤ a0.toInt ∧ a0.toInt ≤ a2.toInt)) ∧ ((0 : Int32).toInt = 1 ∨ a0.toInt < a1.toInt ∨ a2.toInt < a0.toInt) from ⟨by omega, by omega, by omega⟩)
    · have rc5_ : ¬ a2.toInt < a0.toInt := by rw [Int32.lt_iff_toInt_lt] at c5_; omega
      have l_1 : (1 : Int32).toInt = 1 := by decide
      exact sf_some (show (0 ≤ (1 : Int32).toInt ∧ (1 : Int32).toInt ≤ 1) ∧ ((1 : Int32).toInt = 0 ∨ (a1.toInt ≤ a0.toInt ∧ a0.toInt ≤ a2.toInt)) ∧ ((1 : Int32).toInt = 1 ∨ a0.toInt < a1.toInt ∨ a2.toInt < a0.toInt) from ⟨by omega, by omega, by omega⟩)
set_option maxRecDepth 20000 in
set_option maxHeartbeats 2000000 in
theorem sf_X10_feed {g : Nat → Int} (a1 : Int32) (w : Mem) (hI : Inv g w) : Sf (fun (q : Int32 × Mem) => (Inv g q.2) ∧ (((a1.toInt < 0 ∨ 255 < a1.toInt) ∧ q.1.toInt = -1000000002 ∧ (q.2 134 0).toInt = (w 134 0).toInt) ∨ (0 ≤ a1.toInt ∧ a1.toInt ≤ 255 ∧ (w 134 0).toInt ≤ 239 ∧ q.1.toInt = (w 134 0).toInt + 1 ∧ (q.2 134 0).toInt = (w 134 0).toInt + 1) ∨ (0 ≤ a1.toInt ∧ a1.toInt ≤ 255 ∧ (w 134 0).toInt = 240 ∧ q.1.toInt = -1000000004 ∧ (q.2 134 0).toInt = (w 134 0).toInt))) (f_X10_feed a1 w) := by
  obtain ⟨hg0, hg1⟩ := hI.1
  unfold f_X10_feed
  have zz1_l : -2147483648 ≤ a1.toInt := Int32.le_toInt a1
  have zz1_h : a1.toInt ≤ 2147483647 := Int32.toInt_le a1
  have l_0 : (0 : Int32).toInt = 0 := by decide
  have l_255 : (255 : Int32).toInt = 255 := by decide
  refine sf_bind (sf_X10_in a1 (0 : Int32) (255 : Int32)) (fun r1 hqr1 hpr1 => ?_)
  obtain ⟨hpr1_0, hpr1_1, hpr1_2⟩ := hpr1
  refine sf_ite (fun c2_ => ?_) (fun c2_ => ?_)
  · have rc2_ : r1.toInt = 0 := by rw [i_eq_iff] at c2_; omega
    have l_m1000000002 : (-1000000002 : Int32).toInt = -1000000002 := by decide
    have h3_ : 0 ≤ (w 134 0).toInt ∧ (w 134 0).toInt ≤ 240 := iv_134_0 hI
    exact sf_some (show (Inv g w) ∧ (((a1.toInt < 0 ∨ 255 < a1.toInt) ∧ (-1000000002 : Int32).toInt = -1000000002 ∧ (w 134 0).toInt = (w 134 0).toInt) ∨ (0 ≤ a1.toInt ∧ a1.toInt ≤ 255 ∧ (w 134 0).toInt ≤ 239 ∧ (-1000000002 : Int32).toInt = (w 134 0).toInt + 1 ∧ (w 134 0).toInt = (w 134 0).toInt + 1) ∨ (0 ≤ a1.toInt ∧ a1.toInt ≤ 255 ∧ (w 134 0).toInt = 240 ∧ (-1000000002 : Int32).toInt = -1000000004 ∧ (w 134 0).toInt = (w 134 0).toInt)) from ⟨hI, by omega⟩)
  · have rc2_ : ¬ r1.toInt = 0 := by rw [i_eq_iff] at c2_; omega
    have h4_ : 0 ≤ (w 134 0).toInt ∧ (w 134 0).toInt ≤ 240 := iv_134_0 hI
    have l_240 : (240 : Int32).toInt = 240 := by decide
    refine sf_ite (fun c5_ => ?_) (fun c5_ => ?_)
    · have rc5_ : (w 134 0).toInt = 240 := by rw [i_eq_iff] at c5_; omega
      have l_m1000000004 : (-1000000004 : Int32).toInt = -1000000004 := by decide
      exact sf_some (show (Inv g w) ∧ (((a1.toInt < 0 ∨ 255 < a1.toInt) ∧ (-1000000004 : Int32).toInt = -1000000002 ∧ (w 134 0).toInt = (w 134 0).toInt) ∨ (0 ≤ a1.toInt ∧ a1.toInt ≤ 255 ∧ (w 134 0).toInt ≤ 239 ∧ (-1000000004 : Int32).toInt = (w 134 0).toInt + 1 ∧ (w 134 0).toInt = (w 134 0).toInt + 1) ∨ (0 ≤ a1.toInt ∧ a1.toInt ≤ 255 ∧ (w 134 0).toInt = 240 ∧ (-1000000004 : Int32).toInt = -1000000004 ∧ (w 134 0).toInt = (w 134 0).toInt)) from ⟨hI, by omega⟩)
    · have rc5_ : ¬ (w 134 0).toInt = 240 := by rw [i_eq_iff] at c5_; omega
      refine sf_wr (by omega) (by omega) (fun w2 ew2 => ?_)
      have n6_ : ((w 134 0).toNatClampNeg : Int) = (w 134 0).toInt := i_clq (by omega)
      have hIw2 : Inv g w2 := by rw [ew2]; exact ub_135 hI
      have h7_ : 0 ≤ (w2 134 0).toInt ∧ (w2 134 0).toInt ≤ 240 := iv_134_0 hIw2
      have k8_ : (w2 134 0).toInt = (w 134 0).toInt := by rw [ew2, wu_ne (by omega)]
      have l_1 : (1 : Int32).toInt = 1 := by decide
      have e9_ : ((w2 134 0) + (1 : Int32)).toInt = (w2 134 0).toInt + (1 : Int32).toInt := i_add (by omega) (by omega)
      refine sf_pw (fun w3 ew3 => ?_)
      have hIw3 : Inv g w3 := by rw [ew3]; exact up_134_0 hIw2 (show 0 ≤ ((w2 134 0) + (1 : Int32)).toInt ∧ ((w2 134 0) + (1 : Int32)).toInt ≤ 240 from by omega)
      have h10_ : 0 ≤ (w3 134 0).toInt ∧ (w3 134 0).toInt ≤ 240 := iv_134_0 hIw3
      have k11_ : (w3 134 0).toInt = ((w2 134 0) + (1 : Int32)).toInt := by rw [ew3, wu_at]
      exact sf_some (show (Inv g w3) ∧ (((a1.toInt < 0 ∨ 255 < a1.toInt) ∧ (w3 134 0).toInt = -1000000002 ∧ (w3 134 0).toInt = (w 134 0).toInt) ∨ (0 ≤ a1.toInt ∧ a1.toInt ≤ 255 ∧ (w 134 0).toInt ≤ 239 ∧ (w3 134 0).toInt = (w 134 0).toInt + 1 ∧ (w3 134 0).toInt = (w 134 0).toInt + 1) ∨ (0 ≤ a1.toInt ∧ a1.toInt ≤ 255 ∧ (w 134 0).toInt = 240 ∧ (w3 134 0).toInt = -1000000004 ∧ (w3 134 0).toInt = (w 134 0).toInt)) from ⟨hIw3, by omega⟩)
set_option maxRecDepth 20000 in
set_option maxHeartbeats 2000000 in
theorem sf_X10_letterAt {g : Nat → Int} (a1 : Int32) (w : Mem) (hI : Inv g w) (pre0 : 0 ≤ a1.toInt) : Sf (fun (q : Int32) => (q.toInt = -1 ∨ a1.toInt < (w 134 0).toInt)) (f_X10_letterAt a1 w) := by
  obtain ⟨hg0, hg1⟩ := hI.1
  unfold f_X10_letterAt
  have zz1_l : -2147483648 ≤ a1.toInt := Int32.le_toInt a1
  have zz1_h : a1.toInt ≤ 2147483647 := Int32.toInt_le a1
  have h2_ : 0 ≤ (w 134 0).toInt ∧ (w 134 0).toInt ≤ 240 := iv_134_0 hI
  refine sf_ite (fun c3_ => ?_) (fun c3_ => ?_)
  · have rc3_ : a1.toInt < (w 134 0).toInt := by rw [Int32.lt_iff_toInt_lt] at c3_; omega
    refine sf_rd (by omega) (by omega) (fun x1 ex1 => ?_)
    have zz4_l : -2147483648 ≤ x1.toInt := Int32.le_toInt x1
    have zz4_h : x1.toInt ≤ 2147483647 := Int32.toInt_le x1
    exact sf_some (show (x1.toInt = -1 ∨ a1.toInt < (w 134 0).toInt) from by omega)
  · have rc3_ : ¬ a1.toInt < (w 134 0).toInt := by rw [Int32.lt_iff_toInt_lt] at c3_; omega
    have l_m1 : (-1 : Int32).toInt = -1 := by decide
    exact sf_some (show ((-1 : Int32).toInt = -1 ∨ a1.toInt < (w 134 0).toInt) from by omega)
set_option maxRecDepth 20000 in
set_option maxHeartbeats 2000000 in
theorem sf_X10_nextLetter {g : Nat → Int} (w : Mem) (hI : Inv g w) : Sf (fun (q : Int32 × Mem) => (Inv g q.2) ∧ (q.1.toInt = -1 ∨ (q.2 134 2).toInt < (q.2 134 0).toInt) ∧ ((w 134 2).toInt ≤ (q.2 134 2).toInt) ∧ ((q.2 134 2).toInt ≤ 240 ∨ (q.2 134 2).toInt = (w 134 2).toInt)) (f_X10_nextLetter w) := by
  obtain ⟨hg0, hg1⟩ := hI.1
  unfold f_X10_nextLetter
  refine sf_bind (Q := fun (v3 : Mem) => (Inv g v3) ∧ ((v3 134 0).toInt = (w 134 0).toInt) ∧ ((w 134 2).toInt ≤ (v3 134 2).toInt) ∧ ((v3 134 2).toInt ≤ 240 ∨ (v3 134 2).toInt = (w 134 2).toInt)) ?_ (fun v3 hqv3 hvv3 => ?_)
  · have h1_ : 0 ≤ (w 134 0).toInt ∧ (w 134 0).toInt ≤ 240 := iv_134_0 hI
    have h2_ : 0 ≤ (w 134 2).toInt ∧ (w 134 2).toInt ≤ 241 := iv_134_2 hI
    refine sf_lp (fun (s0 : Mem) => (Inv g s0) ∧ ((s0 134 0).toInt = (w 134 0).toInt) ∧ ((w 134 2).toInt ≤ (s0 134 2).toInt) ∧ ((s0 134 2).toInt ≤ 240 ∨ (s0 134 2).toInt = (w 134 2).toInt)) (fun (s0 : Mem) => (242 - (s0 134 2).toInt).toNat) (fun s0 hss0 => ?_) _ _ (show (Inv g w) ∧ ((w 134 0).toInt = (w 134 0).toInt) ∧ ((w 134 2).toInt ≤ (w 134 2).toInt) ∧ ((w 134 2).toInt ≤ 240 ∨ (w 134 2).toInt = (w 134 2).toInt) from ⟨hI, rfl, by omega, by omega⟩) (show (242 - (w 134 2).toInt).toNat < 5000000000 from by omega)
    obtain ⟨hIs0, hss0_1, hss0_2, hss0_3⟩ := hss0
    refine (?_ : Sf (lpP _ _ (242 - (s0 134 2).toInt).toNat _) _)
    have h3_ : 0 ≤ (s0 134 0).toInt ∧ (s0 134 0).toInt ≤ 240 := iv_134_0 hIs0
    have h4_ : 0 ≤ (s0 134 2).toInt ∧ (s0 134 2).toInt ≤ 241 := iv_134_2 hIs0
    refine sf_bind (sf_X10_letterAt (s0 134 2) s0 hIs0 (by omega)) (fun r1 hqr1 hpr1 => ?_)
    have hpr1_0 := hpr1
    have zz5_l : -2147483648 ≤ r1.toInt := Int32.le_toInt r1
    have zz5_h : r1.toInt ≤ 2147483647 := Int32.toInt_le r1
    have l_32 : (32 : Int32).toInt = 32 := by decide
    refine sf_ite (fun c6_ => ?_) (fun c6_ => ?_)
    · have rc6_ : r1.toInt = 32 := by rw [i_eq_iff] at c6_; omega
      have l_1 : (1 : Int32).toInt = 1 := by decide
      have e7_ : ((s0 134 2) + (1 : Int32)).toInt = (s0 134 2).toInt + (1 : Int32).toInt := i_add (by omega) (by omega)
      refine sf_pw (fun w2 ew2 => ?_)
      have hIw2 : Inv g w2 := by rw [ew2]; exact up_134_2 hIs0 (show 0 ≤ ((s0 134 2) + (1 : Int32)).toInt ∧ ((s0 134 2) + (1 : Int32)).toInt ≤ 241 from by omega)
      have h8_ : 0 ≤ (w2 134 0).toInt ∧ (w2 134 0).toInt ≤ 240 := iv_134_0 hIw2
      have k9_ : (w2 134 0).toInt = (s0 134 0).toInt := by rw [ew2, wu_ne (by omega)]
      have h10_ : 0 ≤ (w2 134 2).toInt ∧ (w2 134 2).toInt ≤ 241 := iv_134_2 hIw2
      have k11_ : (w2 134 2).toInt = ((s0 134 2) + (1 : Int32)).toInt := by rw [ew2, wu_at]
      exact sf_some (show ((Inv g w2) ∧ ((w2 134 0).toInt = (w 134 0).toInt) ∧ ((w 134 2).toInt ≤ (w2 134 2).toInt) ∧ ((w2 134 2).toInt ≤ 240 ∨ (w2 134 2).toInt = (w 134 2).toInt)) ∧ (242 - (w2 134 2).toInt).toNat < (242 - (s0 134 2).toInt).toNat from ⟨⟨hIw2, by omega, by omega, by omega⟩, by omega⟩)
    · have rc6_ : ¬ r1.toInt = 32 := by rw [i_eq_iff] at c6_; omega
      exact sf_some (show (Inv g s0) ∧ ((s0 134 0).toInt = (w 134 0).toInt) ∧ ((w 134 2).toInt ≤ (s0 134 2).toInt) ∧ ((s0 134 2).toInt ≤ 240 ∨ (s0 134 2).toInt = (w 134 2).toInt) from ⟨hIs0, by omega, by omega, by omega⟩)
  · obtain ⟨hIv3, hvv3_1, hvv3_2, hvv3_3⟩ := hvv3
    have h12_ : 0 ≤ (w 134 0).toInt ∧ (w 134 0).toInt ≤ 240 := iv_134_0 hI
    have h13_ : 0 ≤ (v3 134 0).toInt ∧ (v3 134 0).toInt ≤ 240 := iv_134_0 hIv3
    have h14_ : 0 ≤ (w 134 2).toInt ∧ (w 134 2).toInt ≤ 241 := iv_134_2 hI
    have h15_ : 0 ≤ (v3 134 2).toInt ∧ (v3 134 2).toInt ≤ 241 := iv_134_2 hIv3
    refine sf_bind (sf_X10_letterAt (v3 134 2) v3 hIv3 (by omega)) (fun r4 hqr4 hpr4 => ?_)
    have hpr4_0 := hpr4
    have zz16_l : -2147483648 ≤ r4.toInt := Int32.le_toInt r4
    have zz16_h : r4.toInt ≤ 2147483647 := Int32.toInt_le r4
    exact sf_some (show (Inv g v3) ∧ (r4.toInt = -1 ∨ (v3 134 2).toInt < (v3 134 0).toInt) ∧ ((w 134 2).toInt ≤ (v3 134 2).toInt) ∧ ((v3 134 2).toInt ≤ 240 ∨ (v3 134 2).toInt = (w 134 2).toInt) from ⟨hIv3, by omega, by omega, by omega⟩)
set_option maxRecDepth 20000 in
set_option maxHeartbeats 2000000 in
theorem sf_X10_fails {g : Nat → Int} (a1 : Int32) (a2 : Int32) (w : Mem) (hI : Inv g w) (pre0 : 0 ≤ a2.toInt) (pre1 : a2.toInt ≤ 241) : Sf (fun (q : Int32 × Mem) => (Inv g q.2) ∧ ((q.2 134 2).toInt = a2.toInt) ∧ (q.1.toInt = -1)) (f_X10_fails a1 a2 w) := by
  obtain ⟨hg0, hg1⟩ := hI.1
  unfold f_X10_fails
  have zz1_l : -2147483648 ≤ a1.toInt := Int32.le_toInt a1
  have zz1_h : a1.toInt ≤ 2147483647 := Int32.toInt_le a1
  refine sf_pw (fun w1 ew1 => ?_)
  have hIw1 : Inv g w1 := by rw [ew1]; exact uq_134_4 hI
  refine sf_pw (fun w2 ew2 => ?_)
  have hIw2 : Inv g w2 := by rw [ew2]; exact up_134_2 hIw1 (show 0 ≤ a2.toInt ∧ a2.toInt ≤ 241 from by omega)
  have l_m1 : (-1 : Int32).toInt = -1 := by decide
  have h2_ : 0 ≤ (w2 134 2).toInt ∧ (w2 134 2).toInt ≤ 241 := iv_134_2 hIw2
  have k3_ : (w2 134 2).toInt = a2.toInt := by rw [ew2, wu_at]
  exact sf_some (show (Inv g w2) ∧ ((w2 134 2).toInt = a2.toInt) ∧ ((-1 : Int32).toInt = -1) from ⟨hIw2, by omega, by omega⟩)
set_option maxRecDepth 20000 in
set_option maxHeartbeats 2000000 in
theorem sf_X10_readsNumber {g : Nat → Int} (a1 : Int32) (a2 : Int32) (w : Mem) (hI : Inv g w) : Sf (fun (q : Int32 × Mem) => (Inv g q.2) ∧ ((w 134 2).toInt ≤ (q.2 134 2).toInt) ∧ (q.1.toInt = -1 ∨ (a1.toInt ≤ q.1.toInt ∧ q.1.toInt ≤ a2.toInt))) (f_X10_readsNumber a1 a2 w) := by
  obtain ⟨hg0, hg1⟩ := hI.1
  have zz1_l : -2147483648 ≤ a1.toInt := Int32.le_toInt a1
  have zz1_h : a1.toInt ≤ 2147483647 := Int32.toInt_le a1
  have zz2_l : -2147483648 ≤ a2.toInt := Int32.le_toInt a2
  have zz2_h : a2.toInt ≤ 2147483647 := Int32.toInt_le a2
  unfold f_X10_readsNumber
  refine sf_bind (sf_X10_nextLetter  w hI) (fun q1 hqq1 hpq1 => ?_)
  obtain ⟨hIq1, hpq1_0, hpq1_1, hpq1_2⟩ := hpq1
  have h3_ : 0 ≤ (q1.2 134 2).toInt ∧ (q1.2 134 2).toInt ≤ 241 := iv_134_2 hIq1
  have h4_ : 0 ≤ (q1.2 134 0).toInt ∧ (q1.2 134 0).toInt ≤ 240 := iv_134_0 hIq1
  have h5_ : 0 ≤ (w 134 0).toInt ∧ (w 134 0).toInt ≤ 240 := iv_134_0 hI
  have k6_ : (q1.2 134 0).toInt = (w 134 0).toInt := congrArg Int32.toInt (fr_X10_nextLetter  w q1 hqq1 134 0 (by omega))
  have h7_ : 0 ≤ (w 134 2).toInt ∧ (w 134 2).toInt ≤ 241 := iv_134_2 hI
  have zz8_l : -2147483648 ≤ q1.1.toInt := Int32.le_toInt q1.1
  have zz8_h : q1.1.toInt ≤ 2147483647 := Int32.toInt_le q1.1
  have l_48 : (48 : Int32).toInt = 48 := by decide
  have l_57 : (57 : Int32).toInt = 57 := by decide
  refine sf_bind (sf_X10_in q1.1 (48 : Int32) (57 : Int32)) (fun r2 hqr2 hpr2 => ?_)
  obtain ⟨hpr2_0, hpr2_1, hpr2_2⟩ := hpr2
  have l_0 : (0 : Int32).toInt = 0 := by decide
  refine sf_ite (fun c9_ => ?_) (fun c9_ => ?_)
  · have rc9_ : r2.toInt = 0 := by rw [i_eq_iff] at c9_; omega
    have l_1 : (1 : Int32).toInt = 1 := by decide
    refine sf_bind (sf_X10_fails (1 : Int32) (q1.2 134 2) q1.2 hIq1 (by omega) (by omega)) (fun q13 hqq13 hpq13 => ?_)
    obtain ⟨hIq13, hpq13_0, hpq13_1⟩ := hpq13
    have h10_ : 0 ≤ (q13.2 134 2).toInt ∧ (q13.2 134 2).toInt ≤ 241 := iv_134_2 hIq13
    have zz11_l : -2147483648 ≤ q13.1.toInt := Int32.le_toInt q13.1
    have zz11_h : q13.1.toInt ≤ 2147483647 := Int32.toInt_le q13.1
    exact sf_some (show (Inv g q13.2) ∧ ((w 134 2).toInt ≤ (q13.2 134 2).toInt) ∧ (q13.1.toInt = -1 ∨ (a1.toInt ≤ q13.1.toInt ∧ q13.1.toInt ≤ a2.toInt)) from ⟨hIq13, by omega, by omega⟩)
  · have rc9_ : ¬ r2.toInt = 0 := by rw [i_eq_iff] at c9_; omega
    refine sf_pw (fun w3 ew3 => ?_)
    have hIw3 : Inv g w3 := by rw [ew3]; exact uq_134_3 hIq1
    refine sf_bind (Q := fun (v9 : (Int32 × Mem)) => (Inv g v9.2) ∧ ((v9.2 134 3).toInt = (w3 134 3).toInt) ∧ ((w 134 2).toInt ≤ (v9.2 134 2).toInt)) ?_ (fun v9 hqv9 hvv9 => ?_)
    · have k12_ : (w3 134 3).toInt = (q1.2 134 2).toInt := by rw [ew3, wu_at]
      have h13_ : 0 ≤ (w3 134 2).toInt ∧ (w3 134 2).toInt ≤ 241 := iv_134_2 hIw3
      have k14_ : (w3 134 2).toInt = (q1.2 134 2).toInt := by rw [ew3, wu_ne (by omega)]
      refine sf_lp (fun (s34 : (Int32 × Mem)) => (Inv g s34.2) ∧ ((s34.2 134 3).toInt = (w3 134 3).toInt) ∧ ((s34.2 134 3).toInt ≤ (s34.2 134 2).toInt) ∧ ((w 134 2).toInt ≤ (s34.2 134 2).toInt)) (fun (s34 : (Int32 × Mem)) => (242 - (s34.2 134 2).toInt).toNat) (fun s34 hss34 => ?_) _ _ (show (Inv g w3) ∧ ((w3 134 3).toInt = (w3 134 3).toInt) ∧ ((w3 134 3).toInt ≤ (w3 134 2).toInt) ∧ ((w 134 2).toInt ≤ (w3 134 2).toInt) from ⟨hIw3, rfl, by omega, by omega⟩) (show (242 - (w3 134 2).toInt).toNat < 5000000000 from by omega)
      obtain ⟨hIs34, hss34_1, hss34_2, hss34_3⟩ := hss34
      refine (?_ : Sf (lpP _ _ (242 - (s34.2 134 2).toInt).toNat _) _)
      have h15_ : 0 ≤ (s34.2 134 2).toInt ∧ (s34.2 134 2).toInt ≤ 241 := iv_134_2 hIs34
      refine sf_bind (sf_X10_letterAt (s34.2 134 2) s34.2 hIs34 (by omega)) (fun r4 hqr4 hpr4 => ?_)
      have hpr4_0 := hpr4
      have h16_ : 0 ≤ (s34.2 134 0).toInt ∧ (s34.2 134 0).toInt ≤ 240 := iv_134_0 hIs34
      have zz17_l : -2147483648 ≤ r4.toInt := Int32.le_toInt r4
      have zz17_h : r4.toInt ≤ 2147483647 := Int32.toInt_le r4
      refine sf_bind (sf_X10_in r4 (48 : Int32) (57 : Int32)) (fun r5 hqr5 hpr5 => ?_)
      obtain ⟨hpr5_0, hpr5_1, hpr5_2⟩ := hpr5
      refine sf_ite (fun c18_ => ?_) (fun c18_ => ?_)
      · have rc18_ : r5.toInt = 0 := by rw [i_eq_iff] at c18_; omega
        have zz19_l : -2147483648 ≤ s34.1.toInt := Int32.le_toInt s34.1
        have zz19_h : s34.1.toInt ≤ 2147483647 := Int32.toInt_le s34.1
        exact sf_some (show (Inv g s34.2) ∧ ((s34.2 134 3).toInt = (w3 134 3).toInt) ∧ ((w 134 2).toInt ≤ (s34.2 134 2).toInt) from ⟨hIs34, by omega, by omega⟩)
      · have rc18_ : ¬ r5.toInt = 0 := by rw [i_eq_iff] at c18_; omega
        refine sf_bind (Q := fun (v6 : Int32) => (True)) ?_ (fun v6 hqv6 hvv6 => ?_)
        · have l_999 : (999 : Int32).toInt = 999 := by decide
          have zz20_l : -2147483648 ≤ s34.1.toInt := Int32.le_toInt s34.1
          have zz20_h : s34.1.toInt ≤ 2147483647 := Int32.toInt_le s34.1
          refine sf_ite (fun c21_ => ?_) (fun c21_ => ?_)
          · have rc21_ : 999 < s34.1.toInt := by rw [Int32.lt_iff_toInt_lt] at c21_; omega
            exact sf_some (show (True) from trivial)
          · have rc21_ : ¬ 999 < s34.1.toInt := by rw [Int32.lt_iff_toInt_lt] at c21_; omega
            refine sf_bind (sf_X10_letterAt (s34.2 134 2) s34.2 hIs34 (by omega)) (fun r8 hqr8 hpr8 => ?_)
            have hpr8_0 := hpr8
            have l_10 : (10 : Int32).toInt = 10 := by decide
            have zz22_l : -2147483648 ≤ r8.toInt := Int32.le_toInt r8
            have zz22_h : r8.toInt ≤ 2147483647 := Int32.toInt_le r8
            exact sf_some (show (True) from trivial)
        · have hvv6_0 := hvv6
          have l_1 : (1 : Int32).toInt = 1 := by decide
          have e23_ : ((s34.2 134 2) + (1 : Int32)).toInt = (s34.2 134 2).toInt + (1 : Int32).toInt := i_add (by omega) (by omega)
          refine sf_pw (fun w7 ew7 => ?_)
          have hIw7 : Inv g w7 := by rw [ew7]; exact up_134_2 hIs34 (show 0 ≤ ((s34.2 134 2) + (1 : Int32)).toInt ∧ ((s34.2 134 2) + (1 : Int32)).toInt ≤ 241 from by omega)
          have zz24_l : -2147483648 ≤ v6.toInt := Int32.le_toInt v6
          have zz24_h : v6.toInt ≤ 2147483647 := Int32.toInt_le v6
          have k25_ : (w7 134 3).toInt = (s34.2 134 3).toInt := by rw [ew7, wu_ne (by omega)]
          have h26_ : 0 ≤ (w7 134 2).toInt ∧ (w7 134 2).toInt ≤ 241 := iv_134_2 hIw7
          have k27_ : (w7 134 2).toInt = ((s34.2 134 2) + (1 : Int32)).toInt := by rw [ew7, wu_at]
          exact sf_some (show ((Inv g w7) ∧ ((w7 134 3).toInt = (w3 134 3).toInt) ∧ ((w7 134 3).toInt ≤ (w7 134 2).toInt) ∧ ((w 134 2).toInt ≤ (w7 134 2).toInt)) ∧ (242 - (w7 134 2).toInt).toNat < (242 - (s34.2 134 2).toInt).toNat from ⟨⟨hIw7, by omega, by omega, by omega⟩, by omega⟩)
    · obtain ⟨hIv9, hvv9_1, hvv9_2⟩ := hvv9
      have k28_ : (w3 134 3).toInt = (q1.2 134 2).toInt := by rw [ew3, wu_at]
      have h29_ : 0 ≤ (v9.2 134 2).toInt ∧ (v9.2 134 2).toInt ≤ 241 := iv_134_2 hIv9
      have l_3 : (3 : Int32).toInt = 3 := by decide
      have e30_ : ((v9.2 134 2) - (v9.2 134 3)).toInt = (v9.2 134 2).toInt - (v9.2 134 3).toInt := i_sub (by omega) (by omega)
      refine sf_ite (fun c31_ => ?_) (fun c31_ => ?_)
      · have rc31_ : 3 < ((v9.2 134 2) - (v9.2 134 3)).toInt := by rw [Int32.lt_iff_toInt_lt] at c31_; omega
        have l_2 : (2 : Int32).toInt = 2 := by decide
        refine sf_bind (sf_X10_fails (2 : Int32) (v9.2 134 3) v9.2 hIv9 (by omega) (by omega)) (fun q10 hqq10 hpq10 => ?_)
        obtain ⟨hIq10, hpq10_0, hpq10_1⟩ := hpq10
        have h32_ : 0 ≤ (q10.2 134 2).toInt ∧ (q10.2 134 2).toInt ≤ 241 := iv_134_2 hIq10
        have zz33_l : -2147483648 ≤ q10.1.toInt := Int32.le_toInt q10.1
        have zz33_h : q10.1.toInt ≤ 2147483647 := Int32.toInt_le q10.1
        exact sf_some (show (Inv g q10.2) ∧ ((w 134 2).toInt ≤ (q10.2 134 2).toInt) ∧ (q10.1.toInt = -1 ∨ (a1.toInt ≤ q10.1.toInt ∧ q10.1.toInt ≤ a2.toInt)) from ⟨hIq10, by omega, by omega⟩)
      · have rc31_ : ¬ 3 < ((v9.2 134 2) - (v9.2 134 3)).toInt := by rw [Int32.lt_iff_toInt_lt] at c31_; omega
        have zz34_l : -2147483648 ≤ v9.1.toInt := Int32.le_toInt v9.1
        have zz34_h : v9.1.toInt ≤ 2147483647 := Int32.toInt_le v9.1
        refine sf_bind (sf_X10_in v9.1 a1 a2) (fun r11 hqr11 hpr11 => ?_)
        obtain ⟨hpr11_0, hpr11_1, hpr11_2⟩ := hpr11
        refine sf_ite (fun c35_ => ?_) (fun c35_ => ?_)
        · have rc35_ : r11.toInt = 0 := by rw [i_eq_iff] at c35_; omega
          have l_2 : (2 : Int32).toInt = 2 := by decide
          refine sf_bind (sf_X10_fails (2 : Int32) (v9.2 134 3) v9.2 hIv9 (by omega) (by omega)) (fun q12 hqq12 hpq12 => ?_)
          obtain ⟨hIq12, hpq12_0, hpq12_1⟩ := hpq12
          have h36_ : 0 ≤ (q12.2 134 2).toInt ∧ (q12.2 134 2).toInt ≤ 241 := iv_134_2 hIq12
          have zz37_l : -2147483648 ≤ q12.1.toInt := Int32.le_toInt q12.1
          have zz37_h : q12.1.toInt ≤ 2147483647 := Int32.toInt_le q12.1
          exact sf_some (show (Inv g q12.2) ∧ ((w 134 2).toInt ≤ (q12.2 134 2).toInt) ∧ (q12.1.toInt = -1 ∨ (a1.toInt ≤ q12.1.toInt ∧ q12.1.toInt ≤ a2.toInt)) from ⟨hIq12, by omega, by omega⟩)
        · have rc35_ : ¬ r11.toInt = 0 := by rw [i_eq_iff] at c35_; omega
          exact sf_some (show (Inv g v9.2) ∧ ((w 134 2).toInt ≤ (v9.2 134 2).toInt) ∧ (v9.1.toInt = -1 ∨ (a1.toInt ≤ v9.1.toInt ∧ v9.1.toInt ≤ a2.toInt)) from ⟨hIv9, by omega, by omega⟩)
set_option maxRecDepth 20000 in
set_option maxHeartbeats 2000000 in
theorem sf_X10_readsSign {g : Nat → Int} (a1 : Int32) (w : Mem) (hI : Inv g w) (pre0 : 0 ≤ a1.toInt) : Sf (fun (q : Int32 × Mem) => (Inv g q.2) ∧ (0 ≤ q.1.toInt ∧ q.1.toInt ≤ 1) ∧ ((w 134 2).toInt ≤ (q.2 134 2).toInt)) (f_X10_readsSign a1 w) := by
  obtain ⟨hg0, hg1⟩ := hI.1
  unfold f_X10_readsSign
  refine sf_bind (sf_X10_nextLetter  w hI) (fun q1 hqq1 hpq1 => ?_)
  obtain ⟨hIq1, hpq1_0, hpq1_1, hpq1_2⟩ := hpq1
  have h1_ : 0 ≤ (q1.2 134 2).toInt ∧ (q1.2 134 2).toInt ≤ 241 := iv_134_2 hIq1
  have h2_ : 0 ≤ (q1.2 134 0).toInt ∧ (q1.2 134 0).toInt ≤ 240 := iv_134_0 hIq1
  have h3_ : 0 ≤ (w 134 0).toInt ∧ (w 134 0).toInt ≤ 240 := iv_134_0 hI
  have k4_ : (q1.2 134 0).toInt = (w 134 0).toInt := congrArg Int32.toInt (fr_X10_nextLetter  w q1 hqq1 134 0 (by omega))
  have h5_ : 0 ≤ (w 134 2).toInt ∧ (w 134 2).toInt ≤ 241 := iv_134_2 hI
  have zz6_l : -2147483648 ≤ q1.1.toInt := Int32.le_toInt q1.1
  have zz6_h : q1.1.toInt ≤ 2147483647 := Int32.toInt_le q1.1
  have zz7_l : -2147483648 ≤ a1.toInt := Int32.le_toInt a1
  have zz7_h : a1.toInt ≤ 2147483647 := Int32.toInt_le a1
  refine sf_ite (fun c8_ => ?_) (fun c8_ => ?_)
  · have rc8_ : q1.1.toInt = a1.toInt := by rw [i_eq_iff] at c8_; omega
    have l_1 : (1 : Int32).toInt = 1 := by decide
    have e9_ : ((q1.2 134 2) + (1 : Int32)).toInt = (q1.2 134 2).toInt + (1 : Int32).toInt := i_add (by omega) (by omega)
    refine sf_pw (fun w2 ew2 => ?_)
    have hIw2 : Inv g w2 := by rw [ew2]; exact up_134_2 hIq1 (show 0 ≤ ((q1.2 134 2) + (1 : Int32)).toInt ∧ ((q1.2 134 2) + (1 : Int32)).toInt ≤ 241 from by omega)
    have h10_ : 0 ≤ (w2 134 2).toInt ∧ (w2 134 2).toInt ≤ 241 := iv_134_2 hIw2
    have k11_ : (w2 134 2).toInt = ((q1.2 134 2) + (1 : Int32)).toInt := by rw [ew2, wu_at]
    exact sf_some (show (Inv g w2) ∧ (0 ≤ (1 : Int32).toInt ∧ (1 : Int32).toInt ≤ 1) ∧ ((w 134 2).toInt ≤ (w2 134 2).toInt) from ⟨hIw2, by omega, by omega⟩)
  · have rc8_ : ¬ q1.1.toInt = a1.toInt := by rw [i_eq_iff] at c8_; omega
    have l_1 : (1 : Int32).toInt = 1 := by decide
    refine sf_bind (sf_X10_fails (1 : Int32) (q1.2 134 2) q1.2 hIq1 (by omega) (by omega)) (fun q3 hqq3 hpq3 => ?_)
    obtain ⟨hIq3, hpq3_0, hpq3_1⟩ := hpq3
    have h12_ : 0 ≤ (q3.2 134 2).toInt ∧ (q3.2 134 2).toInt ≤ 241 := iv_134_2 hIq3
    have l_0 : (0 : Int32).toInt = 0 := by decide
    exact sf_some (show (Inv g q3.2) ∧ (0 ≤ (0 : Int32).toInt ∧ (0 : Int32).toInt ≤ 1) ∧ ((w 134 2).toInt ≤ (q3.2 134 2).toInt) from ⟨hIq3, by omega, by omega⟩)
set_option maxRecDepth 20000 in
set_option maxHeartbeats 2000000 in
theorem sf_X10_readsTraveller {g : Nat → Int} (w : Mem) (hI : Inv g w) (pre0 : (w 134 9).toInt ≤ 5) : Sf (fun (q : Int32 × Mem) => (Inv g q.2) ∧ (0 ≤ q.1.toInt ∧ q.1.toInt ≤ 1) ∧ ((w 134 2).toInt ≤ (q.2 134 2).toInt)) (f_X10_readsTraveller w) := by
  obtain ⟨hg0, hg1⟩ := hI.1
  have h1_ : 0 ≤ (w 134 9).toInt ∧ (w 134 9).toInt ≤ 6 := iv_134_9 hI
  unfold f_X10_readsTraveller
  have l_0 : (0 : Int32).toInt = 0 := by decide
  have l_4 : (4 : Int32).toInt = 4 := by decide
  refine sf_bind (sf_X10_readsNumber (0 : Int32) (4 : Int32) w hI) (fun q1 hqq1 hpq1 => ?_)
  obtain ⟨hIq1, hpq1_0, hpq1_1⟩ := hpq1
  have h2_ : 0 ≤ (w 134 2).toInt ∧ (w 134 2).toInt ≤ 241 := iv_134_2 hI
  have h3_ : 0 ≤ (q1.2 134 2).toInt ∧ (q1.2 134 2).toInt ≤ 241 := iv_134_2 hIq1
  have zz4_l : -2147483648 ≤ q1.1.toInt := Int32.le_toInt q1.1
  have zz4_h : q1.1.toInt ≤ 2147483647 := Int32.toInt_le q1.1
  refine sf_wr (by omega) (by omega) (fun w2 ew2 => ?_)
  have n5_ : ((w 134 9).toNatClampNeg : Int) = (w 134 9).toInt := i_clq (by omega)
  have hIw2 : Inv g w2 := by rw [ew2]; exact ub_138 hIq1
  refine sf_rd (by omega) (by omega) (fun x3 ex3 => ?_)
  refine sf_bind (Q := fun (v4 : (Int32 × Mem)) => (Inv g v4.2) ∧ ((v4.2 134 9).toInt = (w2 134 9).toInt) ∧ ((w 134 2).toInt ≤ (v4.2 134 2).toInt)) ?_ (fun v4 hqv4 hvv4 => ?_)
  · have zz6_l : -2147483648 ≤ x3.toInt := Int32.le_toInt x3
    have zz6_h : x3.toInt ≤ 2147483647 := Int32.toInt_le x3
    have l_m1 : (-1 : Int32).toInt = -1 := by decide
    refine sf_ite (fun c7_ => ?_) (fun c7_ => ?_)
    · have rc7_ : x3.toInt = -1 := by rw [i_eq_iff] at c7_; omega
      have h8_ : 0 ≤ (w2 134 9).toInt ∧ (w2 134 9).toInt ≤ 6 := iv_134_9 hIw2
      have h9_ : 0 ≤ (q1.2 134 9).toInt ∧ (q1.2 134 9).toInt ≤ 6 := iv_134_9 hIq1
      have k10_ : (q1.2 134 9).toInt = (w 134 9).toInt := congrArg Int32.toInt (fr_X10_readsNumber (0 : Int32) (4 : Int32) w q1 hqq1 134 9 (by omega))
      have k11_ : (w2 134 9).toInt = (q1.2 134 9).toInt := by rw [ew2, wu_ne (by omega)]
      have h12_ : 0 ≤ (w2 134 2).toInt ∧ (w2 134 2).toInt ≤ 241 := iv_134_2 hIw2
      have k13_ : (w2 134 2).toInt = (q1.2 134 2).toInt := by rw [ew2, wu_ne (by omega)]
      exact sf_some (show (Inv g w2) ∧ ((w2 134 9).toInt = (w2 134 9).toInt) ∧ ((w 134 2).toInt ≤ (w2 134 2).toInt) from ⟨hIw2, rfl, by omega⟩)
    · have rc7_ : ¬ x3.toInt = -1 := by rw [i_eq_iff] at c7_; omega
      have l_9 : (9 : Int32).toInt = 9 := by decide
      refine sf_bind (sf_X10_readsNumber (0 : Int32) (9 : Int32) w2 hIw2) (fun q13 hqq13 hpq13 => ?_)
      obtain ⟨hIq13, hpq13_0, hpq13_1⟩ := hpq13
      have h14_ : 0 ≤ (w2 134 2).toInt ∧ (w2 134 2).toInt ≤ 241 := iv_134_2 hIw2
      have k15_ : (w2 134 2).toInt = (q1.2 134 2).toInt := by rw [ew2, wu_ne (by omega)]
      have h16_ : 0 ≤ (q13.2 134 2).toInt ∧ (q13.2 134 2).toInt ≤ 241 := iv_134_2 hIq13
      have zz17_l : -2147483648 ≤ q13.1.toInt := Int32.le_toInt q13.1
      have zz17_h : q13.1.toInt ≤ 2147483647 := Int32.toInt_le q13.1
      have h18_ : 0 ≤ (q13.2 134 9).toInt ∧ (q13.2 134 9).toInt ≤ 6 := iv_134_9 hIq13
      have h19_ : 0 ≤ (w2 134 9).toInt ∧ (w2 134 9).toInt ≤ 6 := iv_134_9 hIw2
      have h20_ : 0 ≤ (q1.2 134 9).toInt ∧ (q1.2 134 9).toInt ≤ 6 := iv_134_9 hIq1
      have k21_ : (q1.2 134 9).toInt = (w 134 9).toInt := congrArg Int32.toInt (fr_X10_readsNumber (0 : Int32) (4 : Int32) w q1 hqq1 134 9 (by omega))
      have k22_ : (w2 134 9).toInt = (q1.2 134 9).toInt := by rw [ew2, wu_ne (by omega)]
      have k23_ : (q13.2 134 9).toInt = (w2 134 9).toInt := congrArg Int32.toInt (fr_X10_readsNumber (0 : Int32) (9 : Int32) w2 q13 hqq13 134 9 (by omega))
      exact sf_some (show (Inv g q13.2) ∧ ((q13.2 134 9).toInt = (w2 134 9).toInt) ∧ ((w 134 2).toInt ≤ (q13.2 134 2).toInt) from ⟨hIq13, by omega, by omega⟩)
  · obtain ⟨hIv4, hvv4_1, hvv4_2⟩ := hvv4
    have h24_ : 0 ≤ (w2 134 9).toInt ∧ (w2 134 9).toInt ≤ 6 := iv_134_9 hIw2
    have h25_ : 0 ≤ (q1.2 134 9).toInt ∧ (q1.2 134 9).toInt ≤ 6 := iv_134_9 hIq1
    have k26_ : (q1.2 134 9).toInt = (w 134 9).toInt := congrArg Int32.toInt (fr_X10_readsNumber (0 : Int32) (4 : Int32) w q1 hqq1 134 9 (by omega))
    have k27_ : (w2 134 9).toInt = (q1.2 134 9).toInt := by rw [ew2, wu_ne (by omega)]
    have h28_ : 0 ≤ (v4.2 134 9).toInt ∧ (v4.2 134 9).toInt ≤ 6 := iv_134_9 hIv4
    have h29_ : 0 ≤ (v4.2 134 2).toInt ∧ (v4.2 134 2).toInt ≤ 241 := iv_134_2 hIv4
    have zz30_l : -2147483648 ≤ v4.1.toInt := Int32.le_toInt v4.1
    have zz30_h : v4.1.toInt ≤ 2147483647 := Int32.toInt_le v4.1
    refine sf_wr (by omega) (by omega) (fun w5 ew5 => ?_)
    have hIw5 : Inv g w5 := by rw [ew5]; exact ub_139 hIv4
    refine sf_rd (by omega) (by omega) (fun x6 ex6 => ?_)
    refine sf_bind (Q := fun (v7 : (Int32 × Mem)) => (Inv g v7.2) ∧ ((v7.2 134 9).toInt = (w5 134 9).toInt) ∧ ((w 134 2).toInt ≤ (v7.2 134 2).toInt)) ?_ (fun v7 hqv7 hvv7 => ?_)
    · have zz31_l : -2147483648 ≤ x6.toInt := Int32.le_toInt x6
      have zz31_h : x6.toInt ≤ 2147483647 := Int32.toInt_le x6
      have l_m1 : (-1 : Int32).toInt = -1 := by decide
      refine sf_ite (fun c32_ => ?_) (fun c32_ => ?_)
      · have rc32_ : x6.toInt = -1 := by rw [i_eq_iff] at c32_; omega
        have h33_ : 0 ≤ (w5 134 9).toInt ∧ (w5 134 9).toInt ≤ 6 := iv_134_9 hIw5
        have k34_ : (w5 134 9).toInt = (v4.2 134 9).toInt := by rw [ew5, wu_ne (by omega)]
        have h35_ : 0 ≤ (w5 134 2).toInt ∧ (w5 134 2).toInt ≤ 241 := iv_134_2 hIw5
        have k36_ : (w5 134 2).toInt = (v4.2 134 2).toInt := by rw [ew5, wu_ne (by omega)]
        exact sf_some (show (Inv g w5) ∧ ((w5 134 9).toInt = (w5 134 9).toInt) ∧ ((w 134 2).toInt ≤ (w5 134 2).toInt) from ⟨hIw5, rfl, by omega⟩)
      · have rc32_ : ¬ x6.toInt = -1 := by rw [i_eq_iff] at c32_; omega
        have l_255 : (255 : Int32).toInt = 255 := by decide
        refine sf_bind (sf_X10_readsNumber (0 : Int32) (255 : Int32) w5 hIw5) (fun q12 hqq12 hpq12 => ?_)
        obtain ⟨hIq12, hpq12_0, hpq12_1⟩ := hpq12
        have h37_ : 0 ≤ (w5 134 2).toInt ∧ (w5 134 2).toInt ≤ 241 := iv_134_2 hIw5
        have k38_ : (w5 134 2).toInt = (v4.2 134 2).toInt := by rw [ew5, wu_ne (by omega)]
        have h39_ : 0 ≤ (q12.2 134 2).toInt ∧ (q12.2 134 2).toInt ≤ 241 := iv_134_2 hIq12
        have zz40_l : -2147483648 ≤ q12.1.toInt := Int32.le_toInt q12.1
        have zz40_h : q12.1.toInt ≤ 2147483647 := Int32.toInt_le q12.1
        have h41_ : 0 ≤ (q12.2 134 9).toInt ∧ (q12.2 134 9).toInt ≤ 6 := iv_134_9 hIq12
        have h42_ : 0 ≤ (w5 134 9).toInt ∧ (w5 134 9).toInt ≤ 6 := iv_134_9 hIw5
        have k43_ : (w5 134 9).toInt = (v4.2 134 9).toInt := by rw [ew5, wu_ne (by omega)]
        have k44_ : (q12.2 134 9).toInt = (w5 134 9).toInt := congrArg Int32.toInt (fr_X10_readsNumber (0 : Int32) (255 : Int32) w5 q12 hqq12 134 9 (by omega))
        exact sf_some (show (Inv g q12.2) ∧ ((q12.2 134 9).toInt = (w5 134 9).toInt) ∧ ((w 134 2).toInt ≤ (q12.2 134 2).toInt) from ⟨hIq12, by omega, by omega⟩)
    · obtain ⟨hIv7, hvv7_1, hvv7_2⟩ := hvv7
      have h45_ : 0 ≤ (w5 134 9).toInt ∧ (w5 134 9).toInt ≤ 6 := iv_134_9 hIw5
      have k46_ : (w5 134 9).toInt = (v4.2 134 9).toInt := by rw [ew5, wu_ne (by omega)]
      have h47_ : 0 ≤ (v7.2 134 9).toInt ∧ (v7.2 134 9).toInt ≤ 6 := iv_134_9 hIv7
      have h48_ : 0 ≤ (v7.2 134 2).toInt ∧ (v7.2 134 2).toInt ≤ 241 := iv_134_2 hIv7
      have zz49_l : -2147483648 ≤ v7.1.toInt := Int32.le_toInt v7.1
      have zz49_h : v7.1.toInt ≤ 2147483647 := Int32.toInt_le v7.1
      refine sf_wr (by omega) (by omega) (fun w8 ew8 => ?_)
      have hIw8 : Inv g w8 := by rw [ew8]; exact ub_140 hIv7
      have h50_ : 0 ≤ (w8 134 9).toInt ∧ (w8 134 9).toInt ≤ 6 := iv_134_9 hIw8
      have k51_ : (w8 134 9).toInt = (v7.2 134 9).toInt := by rw [ew8, wu_ne (by omega)]
      have l_1 : (1 : Int32).toInt = 1 := by decide
      have e52_ : ((w8 134 9) + (1 : Int32)).toInt = (w8 134 9).toInt + (1 : Int32).toInt := i_add (by omega) (by omega)
      refine sf_pw (fun w9 ew9 => ?_)
      have hIw9 : Inv g w9 := by rw [ew9]; exact up_134_9 hIw8 (show 0 ≤ ((w8 134 9) + (1 : Int32)).toInt ∧ ((w8 134 9) + (1 : Int32)).toInt ≤ 6 from by omega)
      refine sf_rd (by omega) (by omega) (fun x10 ex10 => ?_)
      have zz53_l : -2147483648 ≤ x10.toInt := Int32.le_toInt x10
      have zz53_h : x10.toInt ≤ 2147483647 := Int32.toInt_le x10
      have l_m1 : (-1 : Int32).toInt = -1 := by decide
      refine sf_ite (fun c54_ => ?_) (fun c54_ => ?_)
      · have rc54_ : x10.toInt = -1 := by rw [i_eq_iff] at c54_; omega
        have h55_ : 0 ≤ (w9 134 2).toInt ∧ (w9 134 2).toInt ≤ 241 := iv_134_2 hIw9
        have h56_ : 0 ≤ (w8 134 2).toInt ∧ (w8 134 2).toInt ≤ 241 := iv_134_2 hIw8
        have k57_ : (w8 134 2).toInt = (v7.2 134 2).toInt := by rw [ew8, wu_ne (by omega)]
        have k58_ : (w9 134 2).toInt = (w8 134 2).toInt := by rw [ew9, wu_ne (by omega)]
        exact sf_some (show (Inv g w9) ∧ (0 ≤ (0 : Int32).toInt ∧ (0 : Int32).toInt ≤ 1) ∧ ((w 134 2).toInt ≤ (w9 134 2).toInt) from ⟨hIw9, by omega, by omega⟩)
      · have rc54_ : ¬ x10.toInt = -1 := by rw [i_eq_iff] at c54_; omega
        have l_59 : (59 : Int32).toInt = 59 := by decide
        refine sf_bind (sf_X10_readsSign (59 : Int32) w9 hIw9 (by omega)) (fun q11 hqq11 hpq11 => ?_)
        obtain ⟨hIq11, hpq11_0, hpq11_1⟩ := hpq11
        have h59_ : 0 ≤ (w9 134 2).toInt ∧ (w9 134 2).toInt ≤ 241 := iv_134_2 hIw9
        have h60_ : 0 ≤ (w8 134 2).toInt ∧ (w8 134 2).toInt ≤ 241 := iv_134_2 hIw8
        have k61_ : (w8 134 2).toInt = (v7.2 134 2).toInt := by rw [ew8, wu_ne (by omega)]
        have k62_ : (w9 134 2).toInt = (w8 134 2).toInt := by rw [ew9, wu_ne (by omega)]
        have h63_ : 0 ≤ (q11.2 134 2).toInt ∧ (q11.2 134 2).toInt ≤ 241 := iv_134_2 hIq11
        refine sf_ite (fun c64_ => ?_) (fun c64_ => ?_)
        · have rc64_ : q11.1.toInt = 0 := by rw [i_eq_iff] at c64_; omega
          exact sf_some (show (Inv g q11.2) ∧ (0 ≤ (0 : Int32).toInt ∧ (0 : Int32).toInt ≤ 1) ∧ ((w 134 2).toInt ≤ (q11.2 134 2).toInt) from ⟨hIq11, by omega, by omega⟩)
        · have rc64_ : ¬ q11.1.toInt = 0 := by rw [i_eq_iff] at c64_; omega
          exact sf_some (show (Inv g q11.2) ∧ (0 ≤ (1 : Int32).toInt ∧ (1 : Int32).toInt ≤ 1) ∧ ((w 134 2).toInt ≤ (q11.2 134 2).toInt) from ⟨hIq11, by omega, by omega⟩)
set_option maxRecDepth 20000 in
set_option maxHeartbeats 2000000 in
theorem sf_X10_readsMatter {g : Nat → Int} (w : Mem) (hI : Inv g w) (pre0 : (w 134 8).toInt ≤ 7) : Sf (fun (q : Int32 × Mem) => (Inv g q.2) ∧ (0 ≤ q.1.toInt ∧ q.1.toInt ≤ 1) ∧ ((w 134 2).toInt ≤ (q.2 134 2).toInt)) (f_X10_readsMatter w) := by
  obtain ⟨hg0, hg1⟩ := hI.1
  have h1_ : 0 ≤ (w 134 8).toInt ∧ (w 134 8).toInt ≤ 8 := iv_134_8 hI
  unfold f_X10_readsMatter
  have l_1 : (1 : Int32).toInt = 1 := by decide
  have l_60 : (60 : Int32).toInt = 60 := by decide
  refine sf_bind (sf_X10_readsNumber (1 : Int32) (60 : Int32) w hI) (fun q1 hqq1 hpq1 => ?_)
  obtain ⟨hIq1, hpq1_0, hpq1_1⟩ := hpq1
  have h2_ : 0 ≤ (w 134 2).toInt ∧ (w 134 2).toInt ≤ 241 := iv_134_2 hI
  have h3_ : 0 ≤ (q1.2 134 2).toInt ∧ (q1.2 134 2).toInt ≤ 241 := iv_134_2 hIq1
  have zz4_l : -2147483648 ≤ q1.1.toInt := Int32.le_toInt q1.1
  have zz4_h : q1.1.toInt ≤ 2147483647 := Int32.toInt_le q1.1
  refine sf_wr (by omega) (by omega) (fun w2 ew2 => ?_)
  have n5_ : ((w 134 8).toNatClampNeg : Int) = (w 134 8).toInt := i_clq (by omega)
  have hIw2 : Inv g w2 := by rw [ew2]; exact ub_136 hIq1
  refine sf_rd (by omega) (by omega) (fun x3 ex3 => ?_)
  refine sf_bind (Q := fun (v4 : (Int32 × Mem)) => (Inv g v4.2) ∧ ((v4.2 134 8).toInt = (w2 134 8).toInt) ∧ ((w 134 2).toInt ≤ (v4.2 134 2).toInt)) ?_ (fun v4 hqv4 hvv4 => ?_)
  · have zz6_l : -2147483648 ≤ x3.toInt := Int32.le_toInt x3
    have zz6_h : x3.toInt ≤ 2147483647 := Int32.toInt_le x3
    have l_m1 : (-1 : Int32).toInt = -1 := by decide
    refine sf_ite (fun c7_ => ?_) (fun c7_ => ?_)
    · have rc7_ : x3.toInt = -1 := by rw [i_eq_iff] at c7_; omega
      have h8_ : 0 ≤ (w2 134 8).toInt ∧ (w2 134 8).toInt ≤ 8 := iv_134_8 hIw2
      have h9_ : 0 ≤ (q1.2 134 8).toInt ∧ (q1.2 134 8).toInt ≤ 8 := iv_134_8 hIq1
      have k10_ : (q1.2 134 8).toInt = (w 134 8).toInt := congrArg Int32.toInt (fr_X10_readsNumber (1 : Int32) (60 : Int32) w q1 hqq1 134 8 (by omega))
      have k11_ : (w2 134 8).toInt = (q1.2 134 8).toInt := by rw [ew2, wu_ne (by omega)]
      have h12_ : 0 ≤ (w2 134 2).toInt ∧ (w2 134 2).toInt ≤ 241 := iv_134_2 hIw2
      have k13_ : (w2 134 2).toInt = (q1.2 134 2).toInt := by rw [ew2, wu_ne (by omega)]
      exact sf_some (show (Inv g w2) ∧ ((w2 134 8).toInt = (w2 134 8).toInt) ∧ ((w 134 2).toInt ≤ (w2 134 2).toInt) from ⟨hIw2, rfl, by omega⟩)
    · have rc7_ : ¬ x3.toInt = -1 := by rw [i_eq_iff] at c7_; omega
      have l_0 : (0 : Int32).toInt = 0 := by decide
      have l_255 : (255 : Int32).toInt = 255 := by decide
      refine sf_bind (sf_X10_readsNumber (0 : Int32) (255 : Int32) w2 hIw2) (fun q9 hqq9 hpq9 => ?_)
      obtain ⟨hIq9, hpq9_0, hpq9_1⟩ := hpq9
      have h14_ : 0 ≤ (w2 134 2).toInt ∧ (w2 134 2).toInt ≤ 241 := iv_134_2 hIw2
      have k15_ : (w2 134 2).toInt = (q1.2 134 2).toInt := by rw [ew2, wu_ne (by omega)]
      have h16_ : 0 ≤ (q9.2 134 2).toInt ∧ (q9.2 134 2).toInt ≤ 241 := iv_134_2 hIq9
      have zz17_l : -2147483648 ≤ q9.1.toInt := Int32.le_toInt q9.1
      have zz17_h : q9.1.toInt ≤ 2147483647 := Int32.toInt_le q9.1
      have h18_ : 0 ≤ (q9.2 134 8).toInt ∧ (q9.2 134 8).toInt ≤ 8 := iv_134_8 hIq9
      have h19_ : 0 ≤ (w2 134 8).toInt ∧ (w2 134 8).toInt ≤ 8 := iv_134_8 hIw2
      have h20_ : 0 ≤ (q1.2 134 8).toInt ∧ (q1.2 134 8).toInt ≤ 8 := iv_134_8 hIq1
      have k21_ : (q1.2 134 8).toInt = (w 134 8).toInt := congrArg Int32.toInt (fr_X10_readsNumber (1 : Int32) (60 : Int32) w q1 hqq1 134 8 (by omega))
      have k22_ : (w2 134 8).toInt = (q1.2 134 8).toInt := by rw [ew2, wu_ne (by omega)]
      have k23_ : (q9.2 134 8).toInt = (w2 134 8).toInt := congrArg Int32.toInt (fr_X10_readsNumber (0 : Int32) (255 : Int32) w2 q9 hqq9 134 8 (by omega))
      exact sf_some (show (Inv g q9.2) ∧ ((q9.2 134 8).toInt = (w2 134 8).toInt) ∧ ((w 134 2).toInt ≤ (q9.2 134 2).toInt) from ⟨hIq9, by omega, by omega⟩)
  · obtain ⟨hIv4, hvv4_1, hvv4_2⟩ := hvv4
    have h24_ : 0 ≤ (w2 134 8).toInt ∧ (w2 134 8).toInt ≤ 8 := iv_134_8 hIw2
    have h25_ : 0 ≤ (q1.2 134 8).toInt ∧ (q1.2 134 8).toInt ≤ 8 := iv_134_8 hIq1
    have k26_ : (q1.2 134 8).toInt = (w 134 8).toInt := congrArg Int32.toInt (fr_X10_readsNumber (1 : Int32) (60 : Int32) w q1 hqq1 134 8 (by omega))
    have k27_ : (w2 134 8).toInt = (q1.2 134 8).toInt := by rw [ew2, wu_ne (by omega)]
    have h28_ : 0 ≤ (v4.2 134 8).toInt ∧ (v4.2 134 8).toInt ≤ 8 := iv_134_8 hIv4
    have h29_ : 0 ≤ (v4.2 134 2).toInt ∧ (v4.2 134 2).toInt ≤ 241 := iv_134_2 hIv4
    have zz30_l : -2147483648 ≤ v4.1.toInt := Int32.le_toInt v4.1
    have zz30_h : v4.1.toInt ≤ 2147483647 := Int32.toInt_le v4.1
    refine sf_wr (by omega) (by omega) (fun w5 ew5 => ?_)
    have hIw5 : Inv g w5 := by rw [ew5]; exact ub_137 hIv4
    have h31_ : 0 ≤ (w5 134 8).toInt ∧ (w5 134 8).toInt ≤ 8 := iv_134_8 hIw5
    have k32_ : (w5 134 8).toInt = (v4.2 134 8).toInt := by rw [ew5, wu_ne (by omega)]
    have e33_ : ((w5 134 8) + (1 : Int32)).toInt = (w5 134 8).toInt + (1 : Int32).toInt := i_add (by omega) (by omega)
    refine sf_pw (fun w6 ew6 => ?_)
    have hIw6 : Inv g w6 := by rw [ew6]; exact up_134_8 hIw5 (show 0 ≤ ((w5 134 8) + (1 : Int32)).toInt ∧ ((w5 134 8) + (1 : Int32)).toInt ≤ 8 from by omega)
    refine sf_rd (by omega) (by omega) (fun x7 ex7 => ?_)
    have zz34_l : -2147483648 ≤ x7.toInt := Int32.le_toInt x7
    have zz34_h : x7.toInt ≤ 2147483647 := Int32.toInt_le x7
    have l_m1 : (-1 : Int32).toInt = -1 := by decide
    refine sf_ite (fun c35_ => ?_) (fun c35_ => ?_)
    · have rc35_ : x7.toInt = -1 := by rw [i_eq_iff] at c35_; omega
      have l_0 : (0 : Int32).toInt = 0 := by decide
      have h36_ : 0 ≤ (w6 134 2).toInt ∧ (w6 134 2).toInt ≤ 241 := iv_134_2 hIw6
      have h37_ : 0 ≤ (w5 134 2).toInt ∧ (w5 134 2).toInt ≤ 241 := iv_134_2 hIw5
      have k38_ : (w5 134 2).toInt = (v4.2 134 2).toInt := by rw [ew5, wu_ne (by omega)]
      have k39_ : (w6 134 2).toInt = (w5 134 2).toInt := by rw [ew6, wu_ne (by omega)]
      exact sf_some (show (Inv g w6) ∧ (0 ≤ (0 : Int32).toInt ∧ (0 : Int32).toInt ≤ 1) ∧ ((w 134 2).toInt ≤ (w6 134 2).toInt) from ⟨hIw6, by omega, by omega⟩)
    · have rc35_ : ¬ x7.toInt = -1 := by rw [i_eq_iff] at c35_; omega
      have l_59 : (59 : Int32).toInt = 59 := by decide
      refine sf_bind (sf_X10_readsSign (59 : Int32) w6 hIw6 (by omega)) (fun q8 hqq8 hpq8 => ?_)
      obtain ⟨hIq8, hpq8_0, hpq8_1⟩ := hpq8
      have h40_ : 0 ≤ (w6 134 2).toInt ∧ (w6 134 2).toInt ≤ 241 := iv_134_2 hIw6
      have h41_ : 0 ≤ (w5 134 2).toInt ∧ (w5 134 2).toInt ≤ 241 := iv_134_2 hIw5
      have k42_ : (w5 134 2).toInt = (v4.2 134 2).toInt := by rw [ew5, wu_ne (by omega)]
      have k43_ : (w6 134 2).toInt = (w5 134 2).toInt := by rw [ew6, wu_ne (by omega)]
      have h44_ : 0 ≤ (q8.2 134 2).toInt ∧ (q8.2 134 2).toInt ≤ 241 := iv_134_2 hIq8
      have l_0 : (0 : Int32).toInt = 0 := by decide
      refine sf_ite (fun c45_ => ?_) (fun c45_ => ?_)
      · have rc45_ : q8.1.toInt = 0 := by rw [i_eq_iff] at c45_; omega
        exact sf_some (show (Inv g q8.2) ∧ (0 ≤ (0 : Int32).toInt ∧ (0 : Int32).toInt ≤ 1) ∧ ((w 134 2).toInt ≤ (q8.2 134 2).toInt) from ⟨hIq8, by omega, by omega⟩)
      · have rc45_ : ¬ q8.1.toInt = 0 := by rw [i_eq_iff] at c45_; omega
        exact sf_some (show (Inv g q8.2) ∧ (0 ≤ (1 : Int32).toInt ∧ (1 : Int32).toInt ≤ 1) ∧ ((w 134 2).toInt ≤ (q8.2 134 2).toInt) from ⟨hIq8, by omega, by omega⟩)
set_option maxRecDepth 20000 in
set_option maxHeartbeats 2000000 in
theorem sf_X10_readsHead {g : Nat → Int} (w : Mem) (hI : Inv g w) : Sf (fun (q : Int32 × Mem) => (Inv g q.2) ∧ (0 ≤ q.1.toInt ∧ q.1.toInt ≤ 1) ∧ ((w 134 2).toInt ≤ (q.2 134 2).toInt) ∧ (q.1.toInt = 0 ∨ (1 ≤ (q.2 134 6).toInt ∧ (q.2 134 6).toInt ≤ 60 ∧ 1 ≤ (q.2 134 7).toInt ∧ (q.2 134 7).toInt ≤ 9))) (f_X10_readsHead w) := by
  obtain ⟨hg0, hg1⟩ := hI.1
  unfold f_X10_readsHead
  have l_1 : (1 : Int32).toInt = 1 := by decide
  have l_60 : (60 : Int32).toInt = 60 := by decide
  refine sf_bind (sf_X10_readsNumber (1 : Int32) (60 : Int32) w hI) (fun q1 hqq1 hpq1 => ?_)
  obtain ⟨hIq1, hpq1_0, hpq1_1⟩ := hpq1
  have h1_ : 0 ≤ (w 134 2).toInt ∧ (w 134 2).toInt ≤ 241 := iv_134_2 hI
  have h2_ : 0 ≤ (q1.2 134 2).toInt ∧ (q1.2 134 2).toInt ≤ 241 := iv_134_2 hIq1
  refine sf_bind (Q := fun (v2 : (Int32 × Mem)) => (Inv g v2.2) ∧ ((v2.2 134 6).toInt = (q1.2 134 6).toInt) ∧ ((v2.2 134 7).toInt = (q1.2 134 7).toInt) ∧ (v2.1.toInt = -1 ∨ (1 ≤ v2.1.toInt ∧ v2.1.toInt ≤ 9 ∧ 1 ≤ q1.1.toInt ∧ q1.1.toInt ≤ 60)) ∧ ((w 134 2).toInt ≤ (v2.2 134 2).toInt)) ?_ (fun v2 hqv2 hvv2 => ?_)
  · have zz3_l : -2147483648 ≤ q1.1.toInt := Int32.le_toInt q1.1
    have zz3_h : q1.1.toInt ≤ 2147483647 := Int32.toInt_le q1.1
    have l_m1 : (-1 : Int32).toInt = -1 := by decide
    refine sf_ite (fun c4_ => ?_) (fun c4_ => ?_)
    · have rc4_ : q1.1.toInt = -1 := by rw [i_eq_iff] at c4_; omega
      have zz5_l : -2147483648 ≤ (w 134 6).toInt := Int32.le_toInt (w 134 6)
      have zz5_h : (w 134 6).toInt ≤ 2147483647 := Int32.toInt_le (w 134 6)
      have k6_ : (q1.2 134 6).toInt = (w 134 6).toInt := congrArg Int32.toInt (fr_X10_readsNumber (1 : Int32) (60 : Int32) w q1 hqq1 134 6 (by omega))
      have zz7_l : -2147483648 ≤ (q1.2 134 6).toInt := Int32.le_toInt (q1.2 134 6)
      have zz7_h : (q1.2 134 6).toInt ≤ 2147483647 := Int32.toInt_le (q1.2 134 6)
      have zz8_l : -2147483648 ≤ (w 134 7).toInt := Int32.le_toInt (w 134 7)
      have zz8_h : (w 134 7).toInt ≤ 2147483647 := Int32.toInt_le (w 134 7)
      have k9_ : (q1.2 134 7).toInt = (w 134 7).toInt := congrArg Int32.toInt (fr_X10_readsNumber (1 : Int32) (60 : Int32) w q1 hqq1 134 7 (by omega))
      have zz10_l : -2147483648 ≤ (q1.2 134 7).toInt := Int32.le_toInt (q1.2 134 7)
      have zz10_h : (q1.2 134 7).toInt ≤ 2147483647 := Int32.toInt_le (q1.2 134 7)
      exact sf_some (show (Inv g q1.2) ∧ ((q1.2 134 6).toInt = (q1.2 134 6).toInt) ∧ ((q1.2 134 7).toInt = (q1.2 134 7).toInt) ∧ ((-1 : Int32).toInt = -1 ∨ (1 ≤ (-1 : Int32).toInt ∧ (-1 : Int32).toInt ≤ 9 ∧ 1 ≤ q1.1.toInt ∧ q1.1.toInt ≤ 60)) ∧ ((w 134 2).toInt ≤ (q1.2 134 2).toInt) from ⟨hIq1, rfl, rfl, by omega, by omega⟩)
    · have rc4_ : ¬ q1.1.toInt = -1 := by rw [i_eq_iff] at c4_; omega
      have l_9 : (9 : Int32).toInt = 9 := by decide
      refine sf_bind (sf_X10_readsNumber (1 : Int32) (9 : Int32) q1.2 hIq1) (fun q6 hqq6 hpq6 => ?_)
      obtain ⟨hIq6, hpq6_0, hpq6_1⟩ := hpq6
      have h11_ : 0 ≤ (q6.2 134 2).toInt ∧ (q6.2 134 2).toInt ≤ 241 := iv_134_2 hIq6
      have zz12_l : -2147483648 ≤ q6.1.toInt := Int32.le_toInt q6.1
      have zz12_h : q6.1.toInt ≤ 2147483647 := Int32.toInt_le q6.1
      have zz13_l : -2147483648 ≤ (w 134 6).toInt := Int32.le_toInt (w 134 6)
      have zz13_h : (w 134 6).toInt ≤ 2147483647 := Int32.toInt_le (w 134 6)
      have k14_ : (q1.2 134 6).toInt = (w 134 6).toInt := congrArg Int32.toInt (fr_X10_readsNumber (1 : Int32) (60 : Int32) w q1 hqq1 134 6 (by omega))
      have zz15_l : -2147483648 ≤ (q1.2 134 6).toInt := Int32.le_toInt (q1.2 134 6)
      have zz15_h : (q1.2 134 6).toInt ≤ 2147483647 := Int32.toInt_le (q1.2 134 6)
      have k16_ : (q6.2 134 6).toInt = (q1.2 134 6).toInt := congrArg Int32.toInt (fr_X10_readsNumber (1 : Int32) (9 : Int32) q1.2 q6 hqq6 134 6 (by omega))
      have zz17_l : -2147483648 ≤ (q6.2 134 6).toInt := Int32.le_toInt (q6.2 134 6)
      have zz17_h : (q6.2 134 6).toInt ≤ 2147483647 := Int32.toInt_le (q6.2 134 6)
      have zz18_l : -2147483648 ≤ (w 134 7).toInt := Int32.le_toInt (w 134 7)
      have zz18_h : (w 134 7).toInt ≤ 2147483647 := Int32.toInt_le (w 134 7)
      have k19_ : (q1.2 134 7).toInt = (w 134 7).toInt := congrArg Int32.toInt (fr_X10_readsNumber (1 : Int32) (60 : Int32) w q1 hqq1 134 7 (by omega))
      have zz20_l : -2147483648 ≤ (q1.2 134 7).toInt := Int32.le_toInt (q1.2 134 7)
      have zz20_h : (q1.2 134 7).toInt ≤ 2147483647 := Int32.toInt_le (q1.2 134 7)
      have k21_ : (q6.2 134 7).toInt = (q1.2 134 7).toInt := congrArg Int32.toInt (fr_X10_readsNumber (1 : Int32) (9 : Int32) q1.2 q6 hqq6 134 7 (by omega))
      have zz22_l : -2147483648 ≤ (q6.2 134 7).toInt := Int32.le_toInt (q6.2 134 7)
      have zz22_h : (q6.2 134 7).toInt ≤ 2147483647 := Int32.toInt_le (q6.2 134 7)
      exact sf_some (show (Inv g q6.2) ∧ ((q6.2 134 6).toInt = (q1.2 134 6).toInt) ∧ ((q6.2 134 7).toInt = (q1.2 134 7).toInt) ∧ (q6.1.toInt = -1 ∨ (1 ≤ q6.1.toInt ∧ q6.1.toInt ≤ 9 ∧ 1 ≤ q1.1.toInt ∧ q1.1.toInt ≤ 60)) ∧ ((w 134 2).toInt ≤ (q6.2 134 2).toInt) from ⟨hIq6, by omega, by omega, by omega, by omega⟩)
  · obtain ⟨hIv2, hvv2_1, hvv2_2, hvv2_3, hvv2_4⟩ := hvv2
    have zz23_l : -2147483648 ≤ (w 134 6).toInt := Int32.le_toInt (w 134 6)
    have zz23_h : (w 134 6).toInt ≤ 2147483647 := Int32.toInt_le (w 134 6)
    have k24_ : (q1.2 134 6).toInt = (w 134 6).toInt := congrArg Int32.toInt (fr_X10_readsNumber (1 : Int32) (60 : Int32) w q1 hqq1 134 6 (by omega))
    have zz25_l : -2147483648 ≤ (q1.2 134 6).toInt := Int32.le_toInt (q1.2 134 6)
    have zz25_h : (q1.2 134 6).toInt ≤ 2147483647 := Int32.toInt_le (q1.2 134 6)
    have zz26_l : -2147483648 ≤ (v2.2 134 6).toInt := Int32.le_toInt (v2.2 134 6)
    have zz26_h : (v2.2 134 6).toInt ≤ 2147483647 := Int32.toInt_le (v2.2 134 6)
    have zz27_l : -2147483648 ≤ (w 134 7).toInt := Int32.le_toInt (w 134 7)
    have zz27_h : (w 134 7).toInt ≤ 2147483647 := Int32.toInt_le (w 134 7)
    have k28_ : (q1.2 134 7).toInt = (w 134 7).toInt := congrArg Int32.toInt (fr_X10_readsNumber (1 : Int32) (60 : Int32) w q1 hqq1 134 7 (by omega))
    have zz29_l : -2147483648 ≤ (q1.2 134 7).toInt := Int32.le_toInt (q1.2 134 7)
    have zz29_h : (q1.2 134 7).toInt ≤ 2147483647 := Int32.toInt_le (q1.2 134 7)
    have zz30_l : -2147483648 ≤ (v2.2 134 7).toInt := Int32.le_toInt (v2.2 134 7)
    have zz30_h : (v2.2 134 7).toInt ≤ 2147483647 := Int32.toInt_le (v2.2 134 7)
    have h31_ : 0 ≤ (v2.2 134 2).toInt ∧ (v2.2 134 2).toInt ≤ 241 := iv_134_2 hIv2
    have zz32_l : -2147483648 ≤ q1.1.toInt := Int32.le_toInt q1.1
    have zz32_h : q1.1.toInt ≤ 2147483647 := Int32.toInt_le q1.1
    refine sf_pw (fun w3 ew3 => ?_)
    have hIw3 : Inv g w3 := by rw [ew3]; exact uq_134_6 hIv2
    have zz33_l : -2147483648 ≤ v2.1.toInt := Int32.le_toInt v2.1
    have zz33_h : v2.1.toInt ≤ 2147483647 := Int32.toInt_le v2.1
    refine sf_pw (fun w4 ew4 => ?_)
    have hIw4 : Inv g w4 := by rw [ew4]; exact uq_134_7 hIw3
    have l_m1 : (-1 : Int32).toInt = -1 := by decide
    refine sf_ite (fun c34_ => ?_) (fun c34_ => ?_)
    · have rc34_ : v2.1.toInt = -1 := by rw [i_eq_iff] at c34_; omega
      have l_0 : (0 : Int32).toInt = 0 := by decide
      have h35_ : 0 ≤ (w4 134 2).toInt ∧ (w4 134 2).toInt ≤ 241 := iv_134_2 hIw4
      have h36_ : 0 ≤ (w3 134 2).toInt ∧ (w3 134 2).toInt ≤ 241 := iv_134_2 hIw3
      have k37_ : (w3 134 2).toInt = (v2.2 134 2).toInt := by rw [ew3, wu_ne (by omega)]
      have k38_ : (w4 134 2).toInt = (w3 134 2).toInt := by rw [ew4, wu_ne (by omega)]
      have k39_ : (w3 134 6).toInt = q1.1.toInt := by rw [ew3, wu_at]
      have zz40_l : -2147483648 ≤ (w3 134 6).toInt := Int32.le_toInt (w3 134 6)
      have zz40_h : (w3 134 6).toInt ≤ 2147483647 := Int32.toInt_le (w3 134 6)
      have k41_ : (w4 134 6).toInt = (w3 134 6).toInt := by rw [ew4, wu_ne (by omega)]
      have zz42_l : -2147483648 ≤ (w4 134 6).toInt := Int32.le_toInt (w4 134 6)
      have zz42_h : (w4 134 6).toInt ≤ 2147483647 := Int32.toInt_le (w4 134 6)
      have k43_ : (w4 134 7).toInt = v2.1.toInt := by rw [ew4, wu_at]
      exact sf_some (show (Inv g w4) ∧ (0 ≤ (0 : Int32).toInt ∧ (0 : Int32).toInt ≤ 1) ∧ ((w 134 2).toInt ≤ (w4 134 2).toInt) ∧ ((0 : Int32).toInt = 0 ∨ (1 ≤ (w4 134 6).toInt ∧ (w4 134 6).toInt ≤ 60 ∧ 1 ≤ (w4 134 7).toInt ∧ (w4 134 7).toInt ≤ 9)) from ⟨hIw4, by omega, by omega, by omega⟩)
    · have rc34_ : ¬ v2.1.toInt = -1 := by rw [i_eq_iff] at c34_; omega
      have l_59 : (59 : Int32).toInt = 59 := by decide
      refine sf_bind (sf_X10_readsSign (59 : Int32) w4 hIw4 (by omega)) (fun q5 hqq5 hpq5 => ?_)
      obtain ⟨hIq5, hpq5_0, hpq5_1⟩ := hpq5
      have h44_ : 0 ≤ (w4 134 2).toInt ∧ (w4 134 2).toInt ≤ 241 := iv_134_2 hIw4
      have h45_ : 0 ≤ (w3 134 2).toInt ∧ (w3 134 2).toInt ≤ 241 := iv_134_2 hIw3
      have k46_ : (w3 134 2).toInt = (v2.2 134 2).toInt := by rw [ew3, wu_ne (by omega)]
      have k47_ : (w4 134 2).toInt = (w3 134 2).toInt := by rw [ew4, wu_ne (by omega)]
      have h48_ : 0 ≤ (q5.2 134 2).toInt ∧ (q5.2 134 2).toInt ≤ 241 := iv_134_2 hIq5
      have l_0 : (0 : Int32).toInt = 0 := by decide
      refine sf_ite (fun c49_ => ?_) (fun c49_ => ?_)
      · have rc49_ : q5.1.toInt = 0 := by rw [i_eq_iff] at c49_; omega
        have k50_ : (w3 134 6).toInt = q1.1.toInt := by rw [ew3, wu_at]
        have zz51_l : -2147483648 ≤ (w3 134 6).toInt := Int32.le_toInt (w3 134 6)
        have zz51_h : (w3 134 6).toInt ≤ 2147483647 := Int32.toInt_le (w3 134 6)
        have k52_ : (w4 134 6).toInt = (w3 134 6).toInt := by rw [ew4, wu_ne (by omega)]
        have zz53_l : -2147483648 ≤ (w4 134 6).toInt := Int32.le_toInt (w4 134 6)
        have zz53_h : (w4 134 6).toInt ≤ 2147483647 := Int32.toInt_le (w4 134 6)
        have k54_ : (q5.2 134 6).toInt = (w4 134 6).toInt := congrArg Int32.toInt (fr_X10_readsSign (59 : Int32) w4 q5 hqq5 134 6 (by omega))
        have zz55_l : -2147483648 ≤ (q5.2 134 6).toInt := Int32.le_toInt (q5.2 134 6)
        have zz55_h : (q5.2 134 6).toInt ≤ 2147483647 := Int32.toInt_le (q5.2 134 6)
        have k56_ : (w4 134 7).toInt = v2.1.toInt := by rw [ew4, wu_at]
        have zz57_l : -2147483648 ≤ (w4 134 7).toInt := Int32.le_toInt (w4 134 7)
        have zz57_h : (w4 134 7).toInt ≤ 2147483647 := Int32.toInt_le (w4 134 7)
        have k58_ : (q5.2 134 7).toInt = (w4 134 7).toInt := congrArg Int32.toInt (fr_X10_readsSign (59 : Int32) w4 q5 hqq5 134 7 (by omega))
        have zz59_l : -2147483648 ≤ (q5.2 134 7).toInt := Int32.le_toInt (q5.2 134 7)
        have zz59_h : (q5.2 134 7).toInt ≤ 2147483647 := Int32.toInt_le (q5.2 134 7)
        exact sf_some (show (Inv g q5.2) ∧ (0 ≤ (0 : Int32).toInt ∧ (0 : Int32).toInt ≤ 1) ∧ ((w 134 2).toInt ≤ (q5.2 134 2).toInt) ∧ ((0 : Int32).toInt = 0 ∨ (1 ≤ (q5.2 134 6).toInt ∧ (q5.2 134 6).toInt ≤ 60 ∧ 1 ≤ (q5.2 134 7).toInt ∧ (q5.2 134 7).toInt ≤ 9)) from ⟨hIq5, by omega, by omega, by omega⟩)
      · have rc49_ : ¬ q5.1.toInt = 0 := by rw [i_eq_iff] at c49_; omega
        have k60_ : (w3 134 6).toInt = q1.1.toInt := by rw [ew3, wu_at]
        have zz61_l : -2147483648 ≤ (w3 134 6).toInt := Int32.le_toInt (w3 134 6)
        have zz61_h : (w3 134 6).toInt ≤ 2147483647 := Int32.toInt_le (w3 134 6)
        have k62_ : (w4 134 6).toInt = (w3 134 6).toInt := by rw [ew4, wu_ne (by omega)]
        have zz63_l : -2147483648 ≤ (w4 134 6).toInt := Int32.le_toInt (w4 134 6)
        have zz63_h : (w4 134 6).toInt ≤ 2147483647 := Int32.toInt_le (w4 134 6)
        have k64_ : (q5.2 134 6).toInt = (w4 134 6).toInt := congrArg Int32.toInt (fr_X10_readsSign (59 : Int32) w4 q5 hqq5 134 6 (by omega))
        have zz65_l : -2147483648 ≤ (q5.2 134 6).toInt := Int32.le_toInt (q5.2 134 6)
        have zz65_h : (q5.2 134 6).toInt ≤ 2147483647 := Int32.toInt_le (q5.2 134 6)
        have k66_ : (w4 134 7).toInt = v2.1.toInt := by rw [ew4, wu_at]
        have zz67_l : -2147483648 ≤ (w4 134 7).toInt := Int32.le_toInt (w4 134 7)
        have zz67_h : (w4 134 7).toInt ≤ 2147483647 := Int32.toInt_le (w4 134 7)
        have k68_ : (q5.2 134 7).toInt = (w4 134 7).toInt := congrArg Int32.toInt (fr_X10_readsSign (59 : Int32) w4 q5 hqq5 134 7 (by omega))
        have zz69_l : -2147483648 ≤ (q5.2 134 7).toInt := Int32.le_toInt (q5.2 134 7)
        have zz69_h : (q5.2 134 7).toInt ≤ 2147483647 := Int32.toInt_le (q5.2 134 7)
        exact sf_some (show (Inv g q5.2) ∧ (0 ≤ (1 : Int32).toInt ∧ (1 : Int32).toInt ≤ 1) ∧ ((w 134 2).toInt ≤ (q5.2 134 2).toInt) ∧ ((1 : Int32).toInt = 0 ∨ (1 ≤ (q5.2 134 6).toInt ∧ (q5.2 134 6).toInt ≤ 60 ∧ 1 ≤ (q5.2 134 7).toInt ∧ (q5.2 134 7).toInt ≤ 9)) from ⟨hIq5, by omega, by omega, by omega⟩)
