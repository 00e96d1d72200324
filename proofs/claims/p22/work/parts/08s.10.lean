set_option maxRecDepth 20000 in
set_option maxHeartbeats 2000000 in
theorem sf_X10_draw {g : Nat → Int} (a1 : Int32) (w : Mem) (hI : Inv g w) (pre0 : 1 ≤ a1.toInt) : Sf (fun (q : Int32 × Mem) => (Inv g q.2) ∧ (0 ≤ q.1.toInt) ∧ (q.1.toInt ≤ a1.toInt - 1)) (f_X10_draw a1 w) := by
  have l0 : 0 ≤ (w 134 28).toInt := iv_134_28 hI
  have l1 : (w 134 28).toInt ≤ 2147483647 := Int32.toInt_le _
  have l2 : a1.toInt ≤ 2147483647 := Int32.toInt_le _
  have e1 := l_seed l0
  have c1 : (2147483648 : Int64).toInt = 2147483648 := by decide
  have c2 : (65536 : Int64).toInt = 65536 := by decide
  have c3 : (0 : Int64).toInt = 0 := by decide
  have e2 := l_remp (x := (w 134 28).toInt64 * (1103515245 : Int64) + (12345 : Int64)) (y := 2147483648) (by rw [e1]; omega) (by decide)
  unfold f_X10_draw
  generalize ((w 134 28).toInt64 * (1103515245 : Int64) + (12345 : Int64)) - ((w 134 28).toInt64 * (1103515245 : Int64) + (12345 : Int64)) / (2147483648 : Int64) * (2147483648 : Int64) = r at e2 ⊢
  rw [c1] at e2
  have hr0 : 0 ≤ r.toInt := by rw [e2]; exact Int.emod_nonneg _ (by decide)
  have hr1 : r.toInt < 2147483648 := by rw [e2]; exact Int.emod_lt_of_pos _ (by decide)
  obtain ⟨e3, e4⟩ := l_lok hr0 hr1
  refine sf_pl e4 (fun w1 ew1 => ?_)
  have hI1 : Inv g w1 := by rw [ew1]; exact up_134_28 hI (show 0 ≤ r.toInt32.toInt by omega)
  have e5 : (w1 134 28).toInt64 = r := by rw [ew1, wu_at, e4]
  rw [e5]
  have ha : a1.toInt64.toInt = a1.toInt := Int32.toInt_toInt64 _
  refine sf_nzl (fun h => by have h9 := congrArg Int64.toInt h; rw [ha, c3] at h9; omega) ?_
  have e6 : (r / 65536).toInt = r.toInt / 65536 := by rw [l_divp hr0 (by decide), c2]
  have e7 := l_remp (x := r / 65536) (y := a1.toInt64) (by omega) (by omega)
  have e8 : 0 ≤ (r / 65536).toInt % a1.toInt64.toInt := Int.emod_nonneg _ (by omega)
  have e9 : (r / 65536).toInt % a1.toInt64.toInt < a1.toInt64.toInt := Int.emod_lt_of_pos _ (by omega)
  obtain ⟨e10, _⟩ := l_lok (x := r / 65536 - r / 65536 / a1.toInt64 * a1.toInt64) (by omega) (by omega)
  exact sf_some ⟨hI1, by show 0 ≤ (r / 65536 - r / 65536 / a1.toInt64 * a1.toInt64).toInt32.toInt; omega, by show (r / 65536 - r / 65536 / a1.toInt64 * a1.toInt64).toInt32.toInt ≤ a1.toInt - 1; omega⟩
set_option maxRecDepth 20000 in
set_option maxHeartbeats 2000000 in
theorem sf_X10_draws {g : Nat → Int} (w : Mem) (hI : Inv g w) : Sf (fun (q : Mem) => (Inv g q)) (f_X10_draws w) := by
  obtain ⟨hg0, hg1⟩ := hI.1
  unfold f_X10_draws
  have l_4 : (4 : Int32).toInt = 4 := by decide
  refine sf_rd (by omega) (by omega) (fun x1 ex1 => ?_)
  have h1_ : ((4 : Int) = 4 → -1 ≤ (w 146 4).toInt ∧ (w 146 4).toInt ≤ 6 * g 0 - 1) ∧ ((4 : Int) = 6 → -1 ≤ (w 146 4).toInt ∧ (w 146 4).toInt ≤ 7) := ia_146 (j := 4) hI
  have fx1 : x1.toInt = (w 146 4).toInt := by rw [ex1, show (4 : Int32).toNatClampNeg = 4 by decide]
  have l_m1 : (-1 : Int32).toInt = -1 := by decide
  refine sf_ite (fun c2_ => ?_) (fun c2_ => ?_)
  · have rc2_ : x1.toInt = -1 := by rw [i_eq_iff] at c2_; omega
    refine sf_bind (Q := fun (v7 : (Int32 × Mem)) => (Inv g v7.2) ∧ (-1 ≤ v7.1.toInt) ∧ (v7.1.toInt ≤ 5) ∧ ((v7.2 134 17).toInt = (w 134 17).toInt) ∧ ((v7.2 134 18).toInt = (w 134 18).toInt) ∧ (v7.1.toInt = -1 ∨ g 0 = 1)) ?_ (fun v7 hqv7 hvv7 => ?_)
    · have l_0 : (0 : Int32).toInt = 0 := by decide
      have h3_ : 0 ≤ (w 134 18).toInt ∧ (w 134 18).toInt ≤ 6 * g 0 := iv_134_18 hI
      refine sf_ite (fun c4_ => ?_) (fun c4_ => ?_)
      · have rc4_ : 0 < (w 134 18).toInt := by rw [Int32.lt_iff_toInt_lt] at c4_; omega
        refine sf_bind (sf_X10_draw (w 134 18) w hI (by omega)) (fun q11 hqq11 hpq11 => ?_)
        obtain ⟨hIq11, hpq11_0, hpq11_1⟩ := hpq11
        have h5_ : 0 ≤ (q11.2 134 17).toInt ∧ (q11.2 134 17).toInt ≤ 8 * g 0 := iv_134_17 hIq11
        have h6_ : 0 ≤ (w 134 17).toInt ∧ (w 134 17).toInt ≤ 8 * g 0 := iv_134_17 hI
        have k7_ : (q11.2 134 17).toInt = (w 134 17).toInt := congrArg Int32.toInt (fr_X10_draw (w 134 18) w q11 hqq11 134 17 (by omega))
        have h8_ : 0 ≤ (q11.2 134 18).toInt ∧ (q11.2 134 18).toInt ≤ 6 * g 0 := iv_134_18 hIq11
        have k9_ : (q11.2 134 18).toInt = (w 134 18).toInt := congrArg Int32.toInt (fr_X10_draw (w 134 18) w q11 hqq11 134 18 (by omega))
        exact sf_some (show (Inv g q11.2) ∧ (-1 ≤ q11.1.toInt) ∧ (q11.1.toInt ≤ 5) ∧ ((q11.2 134 17).toInt = (w 134 17).toInt) ∧ ((q11.2 134 18).toInt = (w 134 18).toInt) ∧ (q11.1.toInt = -1 ∨ g 0 = 1) from ⟨hIq11, by omega, by omega, by omega, by omega, by omega⟩)
      · have rc4_ : ¬ 0 < (w 134 18).toInt := by rw [Int32.lt_iff_toInt_lt] at c4_; omega
        have h10_ : 0 ≤ (w 134 17).toInt ∧ (w 134 17).toInt ≤ 8 * g 0 := iv_134_17 hI
        exact sf_some (show (Inv g w) ∧ (-1 ≤ (-1 : Int32).toInt) ∧ ((-1 : Int32).toInt ≤ 5) ∧ ((w 134 17).toInt = (w 134 17).toInt) ∧ ((w 134 18).toInt = (w 134 18).toInt) ∧ ((-1 : Int32).toInt = -1 ∨ g 0 = 1) from ⟨hI, by omega, by omega, rfl, rfl, by omega⟩)
    · obtain ⟨hIv7, hvv7_1, hvv7_2, hvv7_3, hvv7_4, hvv7_5⟩ := hvv7
      have h11_ : 0 ≤ (w 134 17).toInt ∧ (w 134 17).toInt ≤ 8 * g 0 := iv_134_17 hI
      have h12_ : 0 ≤ (v7.2 134 17).toInt ∧ (v7.2 134 17).toInt ≤ 8 * g 0 := iv_134_17 hIv7
      have h13_ : 0 ≤ (w 134 18).toInt ∧ (w 134 18).toInt ≤ 6 * g 0 := iv_134_18 hI
      have h14_ : 0 ≤ (v7.2 134 18).toInt ∧ (v7.2 134 18).toInt ≤ 6 * g 0 := iv_134_18 hIv7
      refine sf_bind (Q := fun (v8 : Mem) => (Inv g v8) ∧ ((v8 134 17).toInt = (v7.2 134 17).toInt) ∧ ((v8 134 18).toInt = (v7.2 134 18).toInt)) ?_ (fun v8 hqv8 hvv8 => ?_)
      · refine sf_ite (fun c15_ => ?_) (fun c15_ => ?_)
        · have rc15_ : v7.1.toInt = -1 := by rw [i_eq_iff] at c15_; omega
          exact sf_some (show (Inv g v7.2) ∧ ((v7.2 134 17).toInt = (v7.2 134 17).toInt) ∧ ((v7.2 134 18).toInt = (v7.2 134 18).toInt) from ⟨hIv7, rfl, rfl⟩)
        · have rc15_ : ¬ v7.1.toInt = -1 := by rw [i_eq_iff] at c15_; omega
          have l_7 : (7 : Int32).toInt = 7 := by decide
          have e16_ : ((7 : Int32) + v7.1).toInt = (7 : Int32).toInt + v7.1.toInt := i_add (by omega) (by omega)
          refine sf_rd (by omega) (by omega) (fun x9 ex9 => ?_)
          have zz17_l : -2147483648 ≤ x9.toInt := Int32.le_toInt x9
          have zz17_h : x9.toInt ≤ 2147483647 := Int32.toInt_le x9
          have l_0 : (0 : Int32).toInt = 0 := by decide
          refine sf_ite (fun c18_ => ?_) (fun c18_ => ?_)
          · have rc18_ : x9.toInt = 0 := by rw [i_eq_iff] at c18_; omega
            refine sf_bind (sf_X10_seats v7.1 v7.2 hIv7 (by omega) (by omega) (by omega)) (fun w10 hqw10 hpw10 => ?_)
            have hIw10 := hpw10
            have h19_ : 0 ≤ (w10 134 17).toInt ∧ (w10 134 17).toInt ≤ 8 * g 0 := iv_134_17 hIw10
            have k20_ : (w10 134 17).toInt = (v7.2 134 17).toInt := congrArg Int32.toInt (fr_X10_seats v7.1 v7.2 w10 hqw10 134 17 (by omega))
            have h21_ : 0 ≤ (w10 134 18).toInt ∧ (w10 134 18).toInt ≤ 6 * g 0 := iv_134_18 hIw10
            have k22_ : (w10 134 18).toInt = (v7.2 134 18).toInt := congrArg Int32.toInt (fr_X10_seats v7.1 v7.2 w10 hqw10 134 18 (by omega))
            exact sf_some (show (Inv g w10) ∧ ((w10 134 17).toInt = (v7.2 134 17).toInt) ∧ ((w10 134 18).toInt = (v7.2 134 18).toInt) from ⟨hIw10, by omega, by omega⟩)
          · have rc18_ : ¬ x9.toInt = 0 := by rw [i_eq_iff] at c18_; omega
            exact sf_some (show (Inv g v7.2) ∧ ((v7.2 134 17).toInt = (v7.2 134 17).toInt) ∧ ((v7.2 134 18).toInt = (v7.2 134 18).toInt) from ⟨hIv7, rfl, rfl⟩)
      · obtain ⟨hIv8, hvv8_1, hvv8_2⟩ := hvv8
        have h23_ : 0 ≤ (v8 134 17).toInt ∧ (v8 134 17).toInt ≤ 8 * g 0 := iv_134_17 hIv8
        have h24_ : 0 ≤ (v8 134 18).toInt ∧ (v8 134 18).toInt ≤ 6 * g 0 := iv_134_18 hIv8
        exact sf_some (show (Inv g v8) from hIv8)
  · have rc2_ : ¬ x1.toInt = -1 := by rw [i_eq_iff] at c2_; omega
    refine sf_bind (sf_X10_draw (4 : Int32) w hI (by omega)) (fun q2 hqq2 hpq2 => ?_)
    obtain ⟨hIq2, hpq2_0, hpq2_1⟩ := hpq2
    have l_0 : (0 : Int32).toInt = 0 := by decide
    refine sf_ite (fun c25_ => ?_) (fun c25_ => ?_)
    · have rc25_ : q2.1.toInt = 0 := by rw [i_eq_iff] at c25_; omega
      have h26_ : ((4 : Int) = 4 → -1 ≤ (q2.2 146 4).toInt ∧ (q2.2 146 4).toInt ≤ 6 * g 0 - 1) ∧ ((4 : Int) = 6 → -1 ≤ (q2.2 146 4).toInt ∧ (q2.2 146 4).toInt ≤ 7) := ia_146 (j := 4) hIq2
      have k27_ : (q2.2 146 4).toInt = (w 146 4).toInt := congrArg Int32.toInt (fr_X10_draw (4 : Int32) w q2 hqq2 146 4 (by omega))
      refine sf_bind (sf_X10_rises  q2.2 hIq2 (by omega)) (fun q6 hqq6 hpq6 => ?_)
      have hIq6 := hpq6
      exact sf_some (show (Inv g q6.2) from hIq6)
    · have rc25_ : ¬ q2.1.toInt = 0 := by rw [i_eq_iff] at c25_; omega
      have h28_ : 0 ≤ (q2.2 134 17).toInt ∧ (q2.2 134 17).toInt ≤ 8 * g 0 := iv_134_17 hIq2
      have h29_ : 0 ≤ (w 134 17).toInt ∧ (w 134 17).toInt ≤ 8 * g 0 := iv_134_17 hI
      have k30_ : (q2.2 134 17).toInt = (w 134 17).toInt := congrArg Int32.toInt (fr_X10_draw (4 : Int32) w q2 hqq2 134 17 (by omega))
      refine sf_ite (fun c31_ => ?_) (fun c31_ => ?_)
      · have rc31_ : 0 < (q2.2 134 17).toInt := by rw [Int32.lt_iff_toInt_lt] at c31_; omega
        refine sf_bind (sf_X10_draw (q2.2 134 17) q2.2 hIq2 (by omega)) (fun q3 hqq3 hpq3 => ?_)
        obtain ⟨hIq3, hpq3_0, hpq3_1⟩ := hpq3
        refine sf_bind (sf_X10_isTellable q3.1 q3.2 hIq3) (fun r4 hqr4 hpr4 => ?_)
        obtain ⟨hpr4_0, hpr4_1⟩ := hpr4
        have h32_ : ((4 : Int) = 4 → -1 ≤ (q3.2 146 4).toInt ∧ (q3.2 146 4).toInt ≤ 6 * g 0 - 1) ∧ ((4 : Int) = 6 → -1 ≤ (q3.2 146 4).toInt ∧ (q3.2 146 4).toInt ≤ 7) := ia_146 (j := 4) hIq3
        have h33_ : ((4 : Int) = 4 → -1 ≤ (q2.2 146 4).toInt ∧ (q2.2 146 4).toInt ≤ 6 * g 0 - 1) ∧ ((4 : Int) = 6 → -1 ≤ (q2.2 146 4).toInt ∧ (q2.2 146 4).toInt ≤ 7) := ia_146 (j := 4) hIq2
        have k34_ : (q2.2 146 4).toInt = (w 146 4).toInt := congrArg Int32.toInt (fr_X10_draw (4 : Int32) w q2 hqq2 146 4 (by omega))
        have k35_ : (q3.2 146 4).toInt = (q2.2 146 4).toInt := congrArg Int32.toInt (fr_X10_draw (q2.2 134 17) q2.2 q3 hqq3 146 4 (by omega))
        refine sf_ite (fun c36_ => ?_) (fun c36_ => ?_)
        · have rc36_ : r4.toInt = 0 := by rw [i_eq_iff] at c36_; omega
          exact sf_some (show (Inv g q3.2) from hIq3)
        · have rc36_ : ¬ r4.toInt = 0 := by rw [i_eq_iff] at c36_; omega
          refine sf_bind (sf_X10_tells q3.1 q3.2 hIq3 (by omega) (by omega) (by omega)) (fun q5 hqq5 hpq5 => ?_)
          have hIq5 := hpq5
          exact sf_some (show (Inv g q5.2) from hIq5)
      · have rc31_ : ¬ 0 < (q2.2 134 17).toInt := by rw [Int32.lt_iff_toInt_lt] at c31_; omega
        exact sf_some (show (Inv g q2.2) from hIq2)
set_option maxRecDepth 20000 in
set_option maxHeartbeats 2000000 in
theorem sf_X10_drift {g : Nat → Int} (a1 : Int32) (w : Mem) (hI : Inv g w) : Sf (fun (q : Int32 × Mem) => (Inv g q.2)) (f_X10_drift a1 w) := by
  obtain ⟨hg0, hg1⟩ := hI.1
  unfold f_X10_drift
  have zz1_l : -2147483648 ≤ a1.toInt := Int32.le_toInt a1
  have zz1_h : a1.toInt ≤ 2147483647 := Int32.toInt_le a1
  have l_1 : (1 : Int32).toInt = 1 := by decide
  have l_30 : (30 : Int32).toInt = 30 := by decide
  refine sf_bind (sf_X10_in a1 (1 : Int32) (30 : Int32)) (fun r1 hqr1 hpr1 => ?_)
  obtain ⟨hpr1_0, hpr1_1, hpr1_2⟩ := hpr1
  have l_0 : (0 : Int32).toInt = 0 := by decide
  refine sf_ite (fun c2_ => ?_) (fun c2_ => ?_)
  · have rc2_ : r1.toInt = 0 := by rw [i_eq_iff] at c2_; omega
    have l_m1000000002 : (-1000000002 : Int32).toInt = -1000000002 := by decide
    exact sf_some (show (Inv g w) from hI)
  · have rc2_ : ¬ r1.toInt = 0 := by rw [i_eq_iff] at c2_; omega
    refine sf_bind (sf_X10_isBridge  w hI) (fun r2 hqr2 hpr2 => ?_)
    obtain ⟨hpr2_0, hpr2_1⟩ := hpr2
    refine sf_ite (fun c3_ => ?_) (fun c3_ => ?_)
    · have rc3_ : r2.toInt = 0 := by rw [i_eq_iff] at c3_; omega
      have l_m1000000003 : (-1000000003 : Int32).toInt = -1000000003 := by decide
      exact sf_some (show (Inv g w) from hI)
    · have rc3_ : ¬ r2.toInt = 0 := by rw [i_eq_iff] at c3_; omega
      refine sf_rd (by omega) (by omega) (fun x3 ex3 => ?_)
      have zz4_l : -2147483648 ≤ (w 146 0).toInt := Int32.le_toInt (w 146 0)
      have zz4_h : (w 146 0).toInt ≤ 2147483647 := Int32.toInt_le (w 146 0)
      have fx3 : x3.toInt = (w 146 0).toInt := by rw [ex3, show (0 : Int32).toNatClampNeg = 0 by decide]
      have l_900000 : (900000 : Int32).toInt = 900000 := by decide
      have zz5_l : -2147483648 ≤ x3.toInt := Int32.le_toInt x3
      have zz5_h : x3.toInt ≤ 2147483647 := Int32.toInt_le x3
      refine sf_ite (fun c6_ => ?_) (fun c6_ => ?_)
      · have rc6_ : 900000 < x3.toInt := by rw [Int32.lt_iff_toInt_lt] at c6_; omega
        have l_m1000000004 : (-1000000004 : Int32).toInt = -1000000004 := by decide
        exact sf_some (show (Inv g w) from hI)
      · have rc6_ : ¬ 900000 < x3.toInt := by rw [Int32.lt_iff_toInt_lt] at c6_; omega
        refine sf_bind (Q := fun (v7 : Mem) => (Inv g v7)) ?_ (fun v7 hqv7 hvv7 => ?_)
        · refine sf_lp (fun (s39 : (Int32 × Mem)) => (Inv g s39.2) ∧ (0 ≤ s39.1.toInt) ∧ (s39.1.toInt ≤ 30)) (fun (s39 : (Int32 × Mem)) => (31 - s39.1.toInt).toNat) (fun s39 hss39 => ?_) _ _ (show (Inv g w) ∧ (0 ≤ (0 : Int32).toInt) ∧ ((0 : Int32).toInt ≤ 30) from ⟨hI, by omega, by omega⟩) (show (31 - (0 : Int32).toInt).toNat < 5000000000 from by omega)
          obtain ⟨hIs39, hss39_1, hss39_2⟩ := hss39
          refine (?_ : Sf (lpP _ _ (31 - s39.1.toInt).toNat _) _)
          refine sf_ite (fun c7_ => ?_) (fun c7_ => ?_)
          · have rc7_ : s39.1.toInt < a1.toInt := by rw [Int32.lt_iff_toInt_lt] at c7_; omega
            refine sf_bind (sf_X10_remember  s39.2 hIs39 (by omega)) (fun w4 hqw4 hpw4 => ?_)
            obtain ⟨hIw4, hpw4_0⟩ := hpw4
            have h8_ : ((4 : Int) = 4 → -1 ≤ (w4 146 4).toInt ∧ (w4 146 4).toInt ≤ 6 * g 0 - 1) ∧ ((4 : Int) = 6 → -1 ≤ (w4 146 4).toInt ∧ (w4 146 4).toInt ≤ 7) := ia_146 (j := 4) hIw4
            have h9_ : ((4 : Int) = 4 → -1 ≤ (s39.2 146 4).toInt ∧ (s39.2 146 4).toInt ≤ 6 * g 0 - 1) ∧ ((4 : Int) = 6 → -1 ≤ (s39.2 146 4).toInt ∧ (s39.2 146 4).toInt ≤ 7) := ia_146 (j := 4) hIs39
            have k10_ : (w4 146 4).toInt = (s39.2 146 4).toInt := congrArg Int32.toInt (fr_X10_remember  s39.2 w4 hqw4 146 4 (by omega))
            refine sf_bind (sf_X10_draws  w4 hIw4) (fun w5 hqw5 hpw5 => ?_)
            have hIw5 := hpw5
            refine sf_bind (sf_X10_passes (1 : Int32) w5 hIw5) (fun w6 hqw6 hpw6 => ?_)
            obtain ⟨hIw6, hpw6_0⟩ := hpw6
            have h11_ : ((4 : Int) = 4 → -1 ≤ (w6 146 4).toInt ∧ (w6 146 4).toInt ≤ 6 * g 0 - 1) ∧ ((4 : Int) = 6 → -1 ≤ (w6 146 4).toInt ∧ (w6 146 4).toInt ≤ 7) := ia_146 (j := 4) hIw6
            have h12_ : ((4 : Int) = 4 → -1 ≤ (w5 146 4).toInt ∧ (w5 146 4).toInt ≤ 6 * g 0 - 1) ∧ ((4 : Int) = 6 → -1 ≤ (w5 146 4).toInt ∧ (w5 146 4).toInt ≤ 7) := ia_146 (j := 4) hIw5
            have e13_ : (s39.1 + (1 : Int32)).toInt = s39.1.toInt + (1 : Int32).toInt := i_add (by omega) (by omega)
            exact sf_some (show ((Inv g w6) ∧ (0 ≤ (s39.1 + (1 : Int32)).toInt) ∧ ((s39.1 + (1 : Int32)).toInt ≤ 30)) ∧ (31 - (s39.1 + (1 : Int32)).toInt).toNat < (31 - s39.1.toInt).toNat from ⟨⟨hIw6, by omega, by omega⟩, by omega⟩)
          · have rc7_ : ¬ s39.1.toInt < a1.toInt := by rw [Int32.lt_iff_toInt_lt] at c7_; omega
            exact sf_some (show (Inv g s39.2) from hIs39)
        · have hIv7 := hvv7
          refine sf_rd (by omega) (by omega) (fun x8 ex8 => ?_)
          have zz14_l : -2147483648 ≤ (v7 146 0).toInt := Int32.le_toInt (v7 146 0)
          have zz14_h : (v7 146 0).toInt ≤ 2147483647 := Int32.toInt_le (v7 146 0)
          have fx8 : x8.toInt = (v7 146 0).toInt := by rw [ex8, show (0 : Int32).toNatClampNeg = 0 by decide]
          have zz15_l : -2147483648 ≤ x8.toInt := Int32.le_toInt x8
          have zz15_h : x8.toInt ≤ 2147483647 := Int32.toInt_le x8
          exact sf_some (show (Inv g v7) from hIv7)
set_option maxRecDepth 20000 in
set_option maxHeartbeats 2000000 in
theorem sf_X10_undo {g : Nat → Int} (a1 : Int32) (w : Mem) (hI : Inv g w) : Sf (fun (q : Int32 × Mem) => (Inv g q.2)) (f_X10_undo a1 w) := by
  obtain ⟨hg0, hg1⟩ := hI.1
  unfold f_X10_undo
  have zz1_l : -2147483648 ≤ a1.toInt := Int32.le_toInt a1
  have zz1_h : a1.toInt ≤ 2147483647 := Int32.toInt_le a1
  have l_1 : (1 : Int32).toInt = 1 := by decide
  have l_30 : (30 : Int32).toInt = 30 := by decide
  refine sf_bind (sf_X10_in a1 (1 : Int32) (30 : Int32)) (fun r1 hqr1 hpr1 => ?_)
  obtain ⟨hpr1_0, hpr1_1, hpr1_2⟩ := hpr1
  have l_0 : (0 : Int32).toInt = 0 := by decide
  refine sf_ite (fun c2_ => ?_) (fun c2_ => ?_)
  · have rc2_ : r1.toInt = 0 := by rw [i_eq_iff] at c2_; omega
    have l_m1000000002 : (-1000000002 : Int32).toInt = -1000000002 := by decide
    exact sf_some (show (Inv g w) from hI)
  · have rc2_ : ¬ r1.toInt = 0 := by rw [i_eq_iff] at c2_; omega
    have h3_ : 0 ≤ (w 134 25).toInt ∧ (w 134 25).toInt ≤ 30 * g 0 := iv_134_25 hI
    refine sf_ite (fun c4_ => ?_) (fun c4_ => ?_)
    · have rc4_ : (w 134 25).toInt < a1.toInt := by rw [Int32.lt_iff_toInt_lt] at c4_; omega
      have l_m1000000003 : (-1000000003 : Int32).toInt = -1000000003 := by decide
      exact sf_some (show (Inv g w) from hI)
    · have rc4_ : ¬ (w 134 25).toInt < a1.toInt := by rw [Int32.lt_iff_toInt_lt] at c4_; omega
      have h5_ : 0 ≤ (w 134 26).toInt ∧ (w 134 26).toInt ≤ 29 := iv_134_26 hI
      have e6_ : ((w 134 26) + (30 : Int32)).toInt = (w 134 26).toInt + (30 : Int32).toInt := i_add (by omega) (by omega)
      have e7_ : (((w 134 26) + (30 : Int32)) - a1).toInt = ((w 134 26) + (30 : Int32)).toInt - a1.toInt := i_sub (by omega) (by omega)
      have e8_ : ((((w 134 26) + (30 : Int32)) - a1) - (((w 134 26) + (30 : Int32)) - a1) / (30 : Int32) * (30 : Int32)).toInt = (((w 134 26) + (30 : Int32)) - a1).toInt % 30 := i_remk (by decide) (by decide) (by omega)
      refine sf_pw (fun w2 ew2 => ?_)
      have hIw2 : Inv g w2 := by rw [ew2]; exact up_134_26 hI (show 0 ≤ ((((w 134 26) + (30 : Int32)) - a1) - (((w 134 26) + (30 : Int32)) - a1) / (30 : Int32) * (30 : Int32)).toInt ∧ ((((w 134 26) + (30 : Int32)) - a1) - (((w 134 26) + (30 : Int32)) - a1) / (30 : Int32) * (30 : Int32)).toInt ≤ 29 from by omega)
      have h9_ : 0 ≤ (w2 134 25).toInt ∧ (w2 134 25).toInt ≤ 30 * g 0 := iv_134_25 hIw2
      have k10_ : (w2 134 25).toInt = (w 134 25).toInt := by rw [ew2, wu_ne (by omega)]
      have e11_ : ((w2 134 25) - a1).toInt = (w2 134 25).toInt - a1.toInt := i_sub (by omega) (by omega)
      refine sf_pw (fun w3 ew3 => ?_)
      have hIw3 : Inv g w3 := by rw [ew3]; exact up_134_25 hIw2 (show 0 ≤ ((w2 134 25) - a1).toInt ∧ ((w2 134 25) - a1).toInt ≤ 30 * g 0 from by omega)
      refine sf_bind (Q := fun (v6 : Mem) => (Inv g v6) ∧ ((v6 134 25).toInt = (w3 134 25).toInt) ∧ ((v6 134 26).toInt = (w3 134 26).toInt)) ?_ (fun v6 hqv6 hvv6 => ?_)
      · have h12_ : 0 ≤ (w3 134 25).toInt ∧ (w3 134 25).toInt ≤ 30 * g 0 := iv_134_25 hIw3
        have k13_ : (w3 134 25).toInt = ((w2 134 25) - a1).toInt := by rw [ew3, wu_at]
        have h14_ : 0 ≤ (w3 134 26).toInt ∧ (w3 134 26).toInt ≤ 29 := iv_134_26 hIw3
        have h15_ : 0 ≤ (w2 134 26).toInt ∧ (w2 134 26).toInt ≤ 29 := iv_134_26 hIw2
        have k16_ : (w2 134 26).toInt = ((((w 134 26) + (30 : Int32)) - a1) - (((w 134 26) + (30 : Int32)) - a1) / (30 : Int32) * (30 : Int32)).toInt := by rw [ew2, wu_at]
        have k17_ : (w3 134 26).toInt = (w2 134 26).toInt := by rw [ew3, wu_ne (by omega)]
        refine sf_lp (fun (s52 : (Int32 × Mem)) => (Inv g s52.2) ∧ (0 ≤ s52.1.toInt) ∧ (s52.1.toInt ≤ 25) ∧ ((s52.2 134 25).toInt = (w3 134 25).toInt) ∧ ((s52.2 134 26).toInt = (w3 134 26).toInt)) (fun (s52 : (Int32 × Mem)) => (26 - s52.1.toInt).toNat) (fun s52 hss52 => ?_) _ _ (show (Inv g w3) ∧ (0 ≤ (0 : Int32).toInt) ∧ ((0 : Int32).toInt ≤ 25) ∧ ((w3 134 25).toInt = (w3 134 25).toInt) ∧ ((w3 134 26).toInt = (w3 134 26).toInt) from ⟨hIw3, by omega, by omega, rfl, rfl⟩) (show (26 - (0 : Int32).toInt).toNat < 5000000000 from by omega)
        obtain ⟨hIs52, hss52_1, hss52_2, hss52_3, hss52_4⟩ := hss52
        refine (?_ : Sf (lpP _ _ (26 - s52.1.toInt).toNat _) _)
        have h18_ : 0 ≤ (s52.2 134 25).toInt ∧ (s52.2 134 25).toInt ≤ 30 * g 0 := iv_134_25 hIs52
        have h19_ : 0 ≤ (s52.2 134 26).toInt ∧ (s52.2 134 26).toInt ≤ 29 := iv_134_26 hIs52
        have l_25 : (25 : Int32).toInt = 25 := by decide
        refine sf_ite (fun c20_ => ?_) (fun c20_ => ?_)
        · have rc20_ : s52.1.toInt < 25 := by rw [Int32.lt_iff_toInt_lt] at c20_; omega
          have e21_ : ((25 : Int32) * (s52.2 134 26)).toInt = 25 * (s52.2 134 26).toInt := i_mulkl (by decide) (by omega) (by omega)
          have e22_ : (((25 : Int32) * (s52.2 134 26)) + s52.1).toInt = ((25 : Int32) * (s52.2 134 26)).toInt + s52.1.toInt := i_add (by omega) (by omega)
          refine sf_rd (by omega) (by omega) (fun x4 ex4 => ?_)
          have n23_ : ((((25 : Int32) * (s52.2 134 26)) + s52.1).toNatClampNeg : Int) = (((25 : Int32) * (s52.2 134 26)) + s52.1).toInt := i_clq (by omega)
          have fx4 : ((((25 : Int32) * (s52.2 134 26)) + s52.1).toInt % 25 = 4 → -1 ≤ x4.toInt ∧ x4.toInt ≤ 5) ∧ ((((25 : Int32) * (s52.2 134 26)) + s52.1).toInt % 25 = 6 → -1 ≤ x4.toInt ∧ x4.toInt ≤ 7) := by have h9 := ia_147 (j := (((25 : Int32) * (s52.2 134 26)) + s52.1).toNatClampNeg) hIs52; rw [← ex4, i_clq (by omega)] at h9; exact h9
          have zz24_l : -2147483648 ≤ x4.toInt := Int32.le_toInt x4
          have zz24_h : x4.toInt ≤ 2147483647 := Int32.toInt_le x4
          refine sf_wr (by omega) (by omega) (fun w5 ew5 => ?_)
          have n25_ : (s52.1.toNatClampNeg : Int) = s52.1.toInt := i_clq (by omega)
          have hIw5 : Inv g w5 := by rw [ew5]; exact ua_146 hIs52 (by omega) (by omega) (show (s52.1.toInt = 4 → -1 ≤ x4.toInt ∧ x4.toInt ≤ 6 * g 0 - 1) ∧ (s52.1.toInt = 6 → -1 ≤ x4.toInt ∧ x4.toInt ≤ 7) from by omega)
          have e26_ : (s52.1 + (1 : Int32)).toInt = s52.1.toInt + (1 : Int32).toInt := i_add (by omega) (by omega)
          have h27_ : 0 ≤ (w5 134 25).toInt ∧ (w5 134 25).toInt ≤ 30 * g 0 := iv_134_25 hIw5
          have k28_ : (w5 134 25).toInt = (s52.2 134 25).toInt := by rw [ew5, wu_ne (by omega)]
          have h29_ : 0 ≤ (w5 134 26).toInt ∧ (w5 134 26).toInt ≤ 29 := iv_134_26 hIw5
          have k30_ : (w5 134 26).toInt = (s52.2 134 26).toInt := by rw [ew5, wu_ne (by omega)]
          exact sf_some (show ((Inv g w5) ∧ (0 ≤ (s52.1 + (1 : Int32)).toInt) ∧ ((s52.1 + (1 : Int32)).toInt ≤ 25) ∧ ((w5 134 25).toInt = (w3 134 25).toInt) ∧ ((w5 134 26).toInt = (w3 134 26).toInt)) ∧ (26 - (s52.1 + (1 : Int32)).toInt).toNat < (26 - s52.1.toInt).toNat from ⟨⟨hIw5, by omega, by omega, by omega, by omega⟩, by omega⟩)
        · have rc20_ : ¬ s52.1.toInt < 25 := by rw [Int32.lt_iff_toInt_lt] at c20_; omega
          exact sf_some (show (Inv g s52.2) ∧ ((s52.2 134 25).toInt = (w3 134 25).toInt) ∧ ((s52.2 134 26).toInt = (w3 134 26).toInt) from ⟨hIs52, by omega, by omega⟩)
      · obtain ⟨hIv6, hvv6_1, hvv6_2⟩ := hvv6
        have h31_ : 0 ≤ (w3 134 25).toInt ∧ (w3 134 25).toInt ≤ 30 * g 0 := iv_134_25 hIw3
        have k32_ : (w3 134 25).toInt = ((w2 134 25) - a1).toInt := by rw [ew3, wu_at]
        have h33_ : 0 ≤ (v6 134 25).toInt ∧ (v6 134 25).toInt ≤ 30 * g 0 := iv_134_25 hIv6
        have h34_ : 0 ≤ (w3 134 26).toInt ∧ (w3 134 26).toInt ≤ 29 := iv_134_26 hIw3
        have h35_ : 0 ≤ (w2 134 26).toInt ∧ (w2 134 26).toInt ≤ 29 := iv_134_26 hIw2
        have k36_ : (w2 134 26).toInt = ((((w 134 26) + (30 : Int32)) - a1) - (((w 134 26) + (30 : Int32)) - a1) / (30 : Int32) * (30 : Int32)).toInt := by rw [ew2, wu_at]
        have k37_ : (w3 134 26).toInt = (w2 134 26).toInt := by rw [ew3, wu_ne (by omega)]
        have h38_ : 0 ≤ (v6 134 26).toInt ∧ (v6 134 26).toInt ≤ 29 := iv_134_26 hIv6
        refine sf_rd (by omega) (by omega) (fun x7 ex7 => ?_)
        have zz39_l : -2147483648 ≤ (v6 146 0).toInt := Int32.le_toInt (v6 146 0)
        have zz39_h : (v6 146 0).toInt ≤ 2147483647 := Int32.toInt_le (v6 146 0)
        have fx7 : x7.toInt = (v6 146 0).toInt := by rw [ex7, show (0 : Int32).toNatClampNeg = 0 by decide]
        have zz40_l : -2147483648 ≤ x7.toInt := Int32.le_toInt x7
        have zz40_h : x7.toInt ≤ 2147483647 := Int32.toInt_le x7
        exact sf_some (show (Inv g v6) from hIv6)
set_option maxRecDepth 20000 in
set_option maxHeartbeats 2000000 in
theorem sf_X10_stay {g : Nat → Int} (a1 : Int32) (a2 : Int32) (w : Mem) (hI : Inv g w) : Sf (fun (q : Int32) => (True)) (f_X10_stay a1 a2 w) := by
  obtain ⟨hg0, hg1⟩ := hI.1
  unfold f_X10_stay
  have zz1_l : -2147483648 ≤ a1.toInt := Int32.le_toInt a1
  have zz1_h : a1.toInt ≤ 2147483647 := Int32.toInt_le a1
  refine sf_bind (sf_X10_isTraveller a1 w hI) (fun r1 hqr1 hpr1 => ?_)
  obtain ⟨hpr1_0, hpr1_1⟩ := hpr1
  have l_0 : (0 : Int32).toInt = 0 := by decide
  refine sf_ite (fun c2_ => ?_) (fun c2_ => ?_)
  · have rc2_ : r1.toInt = 0 := by rw [i_eq_iff] at c2_; omega
    have l_m1000000001 : (-1000000001 : Int32).toInt = -1000000001 := by decide
    exact sf_some (show (True) from trivial)
  · have rc2_ : ¬ r1.toInt = 0 := by rw [i_eq_iff] at c2_; omega
    have zz3_l : -2147483648 ≤ a2.toInt := Int32.le_toInt a2
    have zz3_h : a2.toInt ≤ 2147483647 := Int32.toInt_le a2
    refine sf_bind (sf_X10_isMatter a2 w hI) (fun r2 hqr2 hpr2 => ?_)
    obtain ⟨hpr2_0, hpr2_1⟩ := hpr2
    refine sf_ite (fun c4_ => ?_) (fun c4_ => ?_)
    · have rc4_ : r2.toInt = 0 := by rw [i_eq_iff] at c4_; omega
      have l_m1000000001 : (-1000000001 : Int32).toInt = -1000000001 := by decide
      exact sf_some (show (True) from trivial)
    · have rc4_ : ¬ r2.toInt = 0 := by rw [i_eq_iff] at c4_; omega
      refine sf_bind (sf_X10_stayOf a1 a2 w hI (by omega) (by omega) (by omega) (by omega)) (fun r3 hqr3 hpr3 => ?_)
      have zz5_l : -2147483648 ≤ r3.toInt := Int32.le_toInt r3
      have zz5_h : r3.toInt ≤ 2147483647 := Int32.toInt_le r3
      exact sf_some (show (True) from trivial)
set_option maxRecDepth 20000 in
set_option maxHeartbeats 2000000 in
theorem sf_X10_talk {g : Nat → Int} (a1 : Int32) (a2 : Int32) (w : Mem) (hI : Inv g w) : Sf (fun (q : Int32 × Mem) => (Inv g q.2)) (f_X10_talk a1 a2 w) := by
  obtain ⟨hg0, hg1⟩ := hI.1
  unfold f_X10_talk
  have zz1_l : -2147483648 ≤ a1.toInt := Int32.le_toInt a1
  have zz1_h : a1.toInt ≤ 2147483647 := Int32.toInt_le a1
  refine sf_bind (sf_X10_isTraveller a1 w hI) (fun r1 hqr1 hpr1 => ?_)
  obtain ⟨hpr1_0, hpr1_1⟩ := hpr1
  have l_0 : (0 : Int32).toInt = 0 := by decide
  refine sf_ite (fun c2_ => ?_) (fun c2_ => ?_)
  · have rc2_ : r1.toInt = 0 := by rw [i_eq_iff] at c2_; omega
    have l_m1000000001 : (-1000000001 : Int32).toInt = -1000000001 := by decide
    exact sf_some (show (Inv g w) from hI)
  · have rc2_ : ¬ r1.toInt = 0 := by rw [i_eq_iff] at c2_; omega
    have zz3_l : -2147483648 ≤ a2.toInt := Int32.le_toInt a2
    have zz3_h : a2.toInt ≤ 2147483647 := Int32.toInt_le a2
    have l_3 : (3 : Int32).toInt = 3 := by decide
    refine sf_bind (sf_X10_in a2 (0 : Int32) (3 : Int32)) (fun r2 hqr2 hpr2 => ?_)
    obtain ⟨hpr2_0, hpr2_1, hpr2_2⟩ := hpr2
    refine sf_ite (fun c4_ => ?_) (fun c4_ => ?_)
    · have rc4_ : r2.toInt = 0 := by rw [i_eq_iff] at c4_; omega
      have l_m1000000002 : (-1000000002 : Int32).toInt = -1000000002 := by decide
      exact sf_some (show (Inv g w) from hI)
    · have rc4_ : ¬ r2.toInt = 0 := by rw [i_eq_iff] at c4_; omega
      refine sf_rd (by omega) (by omega) (fun x3 ex3 => ?_)
      have zz5_l : -2147483648 ≤ (w 146 3).toInt := Int32.le_toInt (w 146 3)
      have zz5_h : (w 146 3).toInt ≤ 2147483647 := Int32.toInt_le (w 146 3)
      have fx3 : x3.toInt = (w 146 3).toInt := by rw [ex3, show (3 : Int32).toNatClampNeg = 3 by decide]
      have zz6_l : -2147483648 ≤ x3.toInt := Int32.le_toInt x3
      have zz6_h : x3.toInt ≤ 2147483647 := Int32.toInt_le x3
      refine sf_bind (sf_X10_layTalk a1 x3 w hI (by omega) (by omega)) (fun w4 hqw4 hpw4 => ?_)
      have hIw4 := hpw4
      refine sf_ite (fun c7_ => ?_) (fun c7_ => ?_)
      · have rc7_ : a2.toInt = 0 := by rw [i_eq_iff] at c7_; omega
        have zz8_l : -2147483648 ≤ (w4 134 30).toInt := Int32.le_toInt (w4 134 30)
        have zz8_h : (w4 134 30).toInt ≤ 2147483647 := Int32.toInt_le (w4 134 30)
        exact sf_some (show (Inv g w4) from hIw4)
      · have rc7_ : ¬ a2.toInt = 0 := by rw [i_eq_iff] at c7_; omega
        have l_1 : (1 : Int32).toInt = 1 := by decide
        refine sf_ite (fun c9_ => ?_) (fun c9_ => ?_)
        · have rc9_ : a2.toInt = 1 := by rw [i_eq_iff] at c9_; omega
          have zz10_l : -2147483648 ≤ (w4 134 31).toInt := Int32.le_toInt (w4 134 31)
          have zz10_h : (w4 134 31).toInt ≤ 2147483647 := Int32.toInt_le (w4 134 31)
          exact sf_some (show (Inv g w4) from hIw4)
        · have rc9_ : ¬ a2.toInt = 1 := by rw [i_eq_iff] at c9_; omega
          have l_2 : (2 : Int32).toInt = 2 := by decide
          refine sf_ite (fun c11_ => ?_) (fun c11_ => ?_)
          · have rc11_ : a2.toInt = 2 := by rw [i_eq_iff] at c11_; omega
            have zz12_l : -2147483648 ≤ (w4 134 32).toInt := Int32.le_toInt (w4 134 32)
            have zz12_h : (w4 134 32).toInt ≤ 2147483647 := Int32.toInt_le (w4 134 32)
            exact sf_some (show (Inv g w4) from hIw4)
          · have rc11_ : ¬ a2.toInt = 2 := by rw [i_eq_iff] at c11_; omega
            have zz13_l : -2147483648 ≤ (w4 134 30).toInt := Int32.le_toInt (w4 134 30)
            have zz13_h : (w4 134 30).toInt ≤ 2147483647 := Int32.toInt_le (w4 134 30)
            refine sf_bind (sf_X10_payFor (w4 134 30) w4 hIw4 (by omega)) (fun r5 hqr5 hpr5 => ?_)
            have zz14_l : -2147483648 ≤ r5.toInt := Int32.le_toInt r5
            have zz14_h : r5.toInt ≤ 2147483647 := Int32.toInt_le r5
            exact sf_some (show (Inv g w4) from hIw4)
def Ten6 (k b : Int) : Prop := (k = 1 ∧ b = 1) ∨ (k = 2 ∧ b = 10) ∨ (k = 3 ∧ b = 100) ∨ (k = 4 ∧ b = 1000) ∨ (k = 5 ∧ b = 10000) ∨ (k = 6 ∧ b = 100000)
def Ten7 (k b : Int) : Prop := k = 0 ∨ (k = 1 ∧ b = 1) ∨ (k = 2 ∧ b = 10) ∨ (k = 3 ∧ b = 100) ∨ (k = 4 ∧ b = 1000) ∨ (k = 5 ∧ b = 10000) ∨ (k = 6 ∧ b = 100000)
def Ten3 (k f e : Int) : Prop := (k = 1 ∧ f = 1 ∧ e = 10) ∨ (k = 2 ∧ f = 11 ∧ e = 100) ∨ (k = 3 ∧ f = 111 ∧ e = 1000) ∨ (k = 4 ∧ f = 1111 ∧ e = 10000) ∨ (k = 5 ∧ f = 11111 ∧ e = 100000) ∨ (k = 6 ∧ f = 111111 ∧ e = 1000000)theorem ten3_0 {k f e : Int} (h1 : k = 1) (h2 : f = 1) (h3 : e = 10) : Ten3 k f e := Or.inl ⟨h1, h2, h3⟩
theorem ten3_up {k f e k2 f2 e2 : Int} (h : Ten3 k f e) (hk : k ≤ 5) (h1 : k2 = k + 1) (h2 : f2 = 10 * f + 1) (h3 : e2 = 10 * e) : Ten3 k2 f2 e2 := by
  rcases h with ⟨a1, a2, a3⟩ | ⟨a1, a2, a3⟩ | ⟨a1, a2, a3⟩ | ⟨a1, a2, a3⟩ | ⟨a1, a2, a3⟩ | ⟨a1, a2, a3⟩
  · exact Or.inr (Or.inl ⟨by omega, by omega, by omega⟩)
  · exact Or.inr (Or.inr (Or.inl ⟨by omega, by omega, by omega⟩))
  · exact Or.inr (Or.inr (Or.inr (Or.inl ⟨by omega, by omega, by omega⟩)))
  · exact Or.inr (Or.inr (Or.inr (Or.inr (Or.inl ⟨by omega, by omega, by omega⟩))))
  · exact Or.inr (Or.inr (Or.inr (Or.inr (Or.inr (⟨by omega, by omega, by omega⟩)))))
  · omega
theorem ten3_b {k f e : Int} (h : Ten3 k f e) : (1 ≤ k ∧ k ≤ 6) ∧ (1 ≤ f ∧ f ≤ 111111) ∧ (10 ≤ e ∧ e ≤ 1000000) ∧ (6 ≤ k ∨ (f ≤ 11111 ∧ e ≤ 100000)) := by
  rcases h with ⟨a1, a2, a3⟩ | ⟨a1, a2, a3⟩ | ⟨a1, a2, a3⟩ | ⟨a1, a2, a3⟩ | ⟨a1, a2, a3⟩ | ⟨a1, a2, a3⟩ <;> omega

set_option maxRecDepth 20000 in
set_option maxHeartbeats 2000000 in
theorem sf_X10_paidBy {g : Nat → Int} (a1 : Int32) (a2 : Int32) (w : Mem) (hI : Inv g w) (pre0 : 0 ≤ a1.toInt) (pre1 : 0 ≤ a2.toInt) (pre2 : a2.toInt ≤ 63) (pre3 : g 0 = 1) : Sf (fun (q : Int32) => (True)) (f_X10_paidBy a1 a2 w) := by
  obtain ⟨hg0, hg1⟩ := hI.1
  unfold f_X10_paidBy
  refine sf_bind (Q := fun (v2 : Int32) => (1 ≤ v2.toInt) ∧ (v2.toInt ≤ 100000) ∧ (Ten7 (bcI a2) v2.toInt)) ?_ (fun v2 hqv2 hvv2 => ?_)
  · have l_1 : (1 : Int32).toInt = 1 := by decide
    refine sf_lp (fun (s14 : (Int32 × Int32)) => (1 ≤ s14.1.toInt) ∧ (s14.1.toInt ≤ 100000) ∧ (1 ≤ s14.2.toInt) ∧ (s14.2.toInt ≤ 6) ∧ (Ten6 s14.2.toInt s14.1.toInt) ∧ (s14.2.toInt ≤ bcI a2 ∨ s14.2.toInt = 1)) (fun (s14 : (Int32 × Int32)) => (7 - s14.2.toInt).toNat) (fun s14 hss14 => ?_) _ _ (show (1 ≤ (1 : Int32).toInt) ∧ ((1 : Int32).toInt ≤ 100000) ∧ (1 ≤ (1 : Int32).toInt) ∧ ((1 : Int32).toInt ≤ 6) ∧ (Ten6 (1 : Int32).toInt (1 : Int32).toInt) ∧ ((1 : Int32).toInt ≤ bcI a2 ∨ (1 : Int32).toInt = 1) from ⟨by first | omega | (unfold Ten6 Ten7 at *; omega) | (unfold Ten6 at *; omega) | (unfold Ten7 at *; omega), by first | omega | (unfold Ten6 Ten7 at *; omega) | (unfold Ten6 at *; omega) | (unfold Ten7 at *; omega), by first | omega | (unfold Ten6 Ten7 at *; omega) | (unfold Ten6 at *; omega) | (unfold Ten7 at *; omega), by first | omega | (unfold Ten6 Ten7 at *; omega) | (unfold Ten6 at *; omega) | (unfold Ten7 at *; omega), by first | omega | (unfold Ten6 Ten7 at *; omega) | (unfold Ten6 at *; omega) | (unfold Ten7 at *; omega), by first | omega | (unfold Ten6 Ten7 at *; omega) | (unfold Ten6 at *; omega) | (unfold Ten7 at *; omega)⟩) (show (7 - (1 : Int32).toInt).toNat < 5000000000 from by omega)
    obtain ⟨hss14_0, hss14_1, hss14_2, hss14_3, hss14_4, hss14_5⟩ := hss14
    refine (?_ : Sf (lpP _ _ (7 - s14.2.toInt).toNat _) _)
    refine sf_bind (sf_X10_bits a2) (fun r1 hqr1 hpr1 => ?_)
    obtain ⟨hpr1_0, hpr1_1, hpr1_2, hpr1_3⟩ := hpr1
    refine sf_ite (fun c1_ => ?_) (fun c1_ => ?_)
    · have rc1_ : s14.2.toInt < r1.toInt := by rw [Int32.lt_iff_toInt_lt] at c1_; omega
      have l_10 : (10 : Int32).toInt = 10 := by decide
      generalize hyy2_ : (s14.1 * (10 : Int32)) = y2_
      have e3_ : y2_.toInt = 10 * s14.1.toInt := by rw [← hyy2_]; exact i_mulkr (by decide) (by omega) (by omega)
      generalize hyy4_ : (s14.2 + (1 : Int32)) = y4_
      have e5_ : y4_.toInt = s14.2.toInt + (1 : Int32).toInt := by rw [← hyy4_]; exact i_add (by omega) (by omega)
      exact sf_some (show ((1 ≤ y2_.toInt) ∧ (y2_.toInt ≤ 100000) ∧ (1 ≤ y4_.toInt) ∧ (y4_.toInt ≤ 6) ∧ (Ten6 y4_.toInt y2_.toInt) ∧ (y4_.toInt ≤ bcI a2 ∨ y4_.toInt = 1)) ∧ (7 - y4_.toInt).toNat < (7 - s14.2.toInt).toNat from ⟨⟨by first | omega | (unfold Ten6 Ten7 at *; omega) | (unfold Ten6 at *; omega) | (unfold Ten7 at *; omega), by first | omega | (unfold Ten6 Ten7 at *; omega) | (unfold Ten6 at *; omega) | (unfold Ten7 at *; omega), by first | omega | (unfold Ten6 Ten7 at *; omega) | (unfold Ten6 at *; omega) | (unfold Ten7 at *; omega), by first | omega | (unfold Ten6 Ten7 at *; omega) | (unfold Ten6 at *; omega) | (unfold Ten7 at *; omega), by first | omega | (unfold Ten6 Ten7 at *; omega) | (unfold Ten6 at *; omega) | (unfold Ten7 at *; omega), by first | omega | (unfold Ten6 Ten7 at *; omega) | (unfold Ten6 at *; omega) | (unfold Ten7 at *; omega)⟩, by omega⟩)
    · have rc1_ : ¬ s14.2.toInt < r1.toInt := by rw [Int32.lt_iff_toInt_lt] at c1_; omega
      exact sf_some (show (1 ≤ s14.1.toInt) ∧ (s14.1.toInt ≤ 100000) ∧ (Ten7 (bcI a2) s14.1.toInt) from ⟨by first | omega | (unfold Ten6 Ten7 at *; omega) | (unfold Ten6 at *; omega) | (unfold Ten7 at *; omega), by first | omega | (unfold Ten6 Ten7 at *; omega) | (unfold Ten6 at *; omega) | (unfold Ten7 at *; omega), by first | omega | (unfold Ten6 Ten7 at *; omega) | (unfold Ten6 at *; omega) | (unfold Ten7 at *; omega)⟩)
  · obtain ⟨hvv2_0, hvv2_1, hvv2_2⟩ := hvv2
    refine sf_bind (sf_X10_bits a2) (fun r3 hqr3 hpr3 => ?_)
    obtain ⟨hpr3_0, hpr3_1, hpr3_2, hpr3_3⟩ := hpr3
    have l_0 : (0 : Int32).toInt = 0 := by decide
    refine sf_lp (fun (s42 : (Int32 × Int32 × Int32 × Int32 × Int32)) => (0 ≤ s42.1.toInt) ∧ (s42.1.toInt ≤ 63) ∧ (0 ≤ s42.2.2.2.1.toInt) ∧ (s42.2.2.2.1.toInt ≤ 100000) ∧ (0 ≤ s42.2.2.2.2.toInt) ∧ (s42.2.2.2.2.toInt ≤ 6) ∧ (Ten7 s42.2.2.2.2.toInt s42.2.2.2.1.toInt) ∧ (s42.2.2.2.2.toInt = 0 ∨ 1 ≤ s42.2.2.2.1.toInt)) (fun (s42 : (Int32 × Int32 × Int32 × Int32 × Int32)) => (s42.2.2.2.2.toInt - (-1)).toNat) (fun s42 hss42 => ?_) _ _ (show (0 ≤ a2.toInt) ∧ (a2.toInt ≤ 63) ∧ (0 ≤ v2.toInt) ∧ (v2.toInt ≤ 100000) ∧ (0 ≤ r3.toInt) ∧ (r3.toInt ≤ 6) ∧ (Ten7 r3.toInt v2.toInt) ∧ (r3.toInt = 0 ∨ 1 ≤ v2.toInt) from ⟨by first | omega | (unfold Ten6 Ten7 at *; omega) | (unfold Ten6 at *; omega) | (unfold Ten7 at *; omega), by first | omega | (unfold Ten6 Ten7 at *; omega) | (unfold Ten6 at *; omega) | (unfold Ten7 at *; omega), by first | omega | (unfold Ten6 Ten7 at *; omega) | (unfold Ten6 at *; omega) | (unfold Ten7 at *; omega), by first | omega | (unfold Ten6 Ten7 at *; omega) | (unfold Ten6 at *; omega) | (unfold Ten7 at *; omega), by first | omega | (unfold Ten6 Ten7 at *; omega) | (unfold Ten6 at *; omega) | (unfold Ten7 at *; omega), by first | omega | (unfold Ten6 Ten7 at *; omega) | (unfold Ten6 at *; omega) | (unfold Ten7 at *; omega), by first | omega | (unfold Ten6 Ten7 at *; omega) | (unfold Ten6 at *; omega) | (unfold Ten7 at *; omega), by first | omega | (unfold Ten6 Ten7 at *; omega) | (unfold Ten6 at *; omega) | (unfold Ten7 at *; omega)⟩) (show (r3.toInt - (-1)).toNat < 5000000000 from by omega)
    obtain ⟨hss42_0, hss42_1, hss42_2, hss42_3, hss42_4, hss42_5, hss42_6, hss42_7⟩ := hss42
    refine (?_ : Sf (lpP _ _ (s42.2.2.2.2.toInt - (-1)).toNat _) _)
    refine sf_ite (fun c6_ => ?_) (fun c6_ => ?_)
    · have rc6_ : 0 < s42.2.2.2.2.toInt := by rw [Int32.lt_iff_toInt_lt] at c6_; omega
      refine sf_nz (by rw [i_eq_iff]; omega) ?_
      refine sf_lt (fun t5 et5 => ?_)
      have ft5 : (-1 ≤ t5.toInt) ∧ (t5.toInt ≤ 8) := by
        have zz7_l : -2147483648 ≤ a1.toInt := Int32.le_toInt a1
        have zz7_h : a1.toInt ≤ 2147483647 := Int32.toInt_le a1
        generalize hyy8_ : (a1 / s42.2.2.2.1) = y8_
        have e9_ : 0 ≤ y8_.toInt ∧ y8_.toInt ≤ a1.toInt := by rw [← hyy8_]; exact i_divb (by omega) (by omega)
        have l_10 : (10 : Int32).toInt = 10 := by decide
        generalize hyy10_ : (y8_ - y8_ / (10 : Int32) * (10 : Int32)) = y10_
        have e11_ : y10_.toInt = y8_.toInt % 10 := by rw [← hyy10_]; exact i_remk (by decide) (by decide) (by omega)
        have l_1 : (1 : Int32).toInt = 1 := by decide
        generalize hyy12_ : (y10_ - (1 : Int32)) = y12_
        have e13_ : y12_.toInt = y10_.toInt - (1 : Int32).toInt := by rw [← hyy12_]; exact i_sub (by omega) (by omega)
        have f9 : t5.toInt = y12_.toInt := by rw [et5, hyy8_, hyy10_, hyy12_]
        exact ⟨by omega, by omega⟩
      refine sf_lt (fun t6 et6 => ?_)
      have ft6 : (0 ≤ t6.toInt) ∧ (t6.toInt ≤ 10000) ∧ (t6.toInt = s42.2.2.2.1.toInt / 10) := by
        have l_10 : (10 : Int32).toInt = 10 := by decide
        generalize hyy14_ : (s42.2.2.2.1 / (10 : Int32)) = y14_
        have e15_ : y14_.toInt = s42.2.2.2.1.toInt / 10 := by rw [← hyy14_]; exact i_divk (by decide) (by decide) (by omega)
        have f9 : t6.toInt = y14_.toInt := by rw [et6, hyy14_]
        exact ⟨by omega, by omega, by omega⟩
      refine sf_ite (fun c16_ => ?_) (fun c16_ => ?_)
      · have rc16_ : t5.toInt < 0 := by rw [Int32.lt_iff_toInt_lt] at c16_; omega
        have l_m1 : (-1 : Int32).toInt = -1 := by decide
        exact sf_some (show (True) from trivial)
      · have rc16_ : ¬ t5.toInt < 0 := by rw [Int32.lt_iff_toInt_lt] at c16_; omega
        refine sf_bind (sf_X10_has s42.1 t5) (fun r7 hqr7 hpr7 => ?_)
        obtain ⟨hpr7_0, hpr7_1⟩ := hpr7
        refine sf_ite (fun c17_ => ?_) (fun c17_ => ?_)
        · have rc17_ : r7.toInt = 0 := by rw [i_eq_iff] at c17_; omega
          have l_m1 : (-1 : Int32).toInt = -1 := by decide
          exact sf_some (show (True) from trivial)
        · have rc17_ : ¬ r7.toInt = 0 := by rw [i_eq_iff] at c17_; omega
          refine sf_lt (fun t8 et8 => ?_)
          have ft8 : (0 ≤ t8.toInt) ∧ (t8.toInt ≤ 63) := by
            generalize hyy18_ : (s42.1 &&& (((1 : Int32) <<< (t5 &&& 31)) ^^^ (-1 : Int32))) = y18_
            have e19_ : 0 ≤ y18_.toInt ∧ y18_.toInt ≤ s42.1.toInt := by rw [← hyy18_]; exact i_and_l (by omega)
            have f9 : t8.toInt = y18_.toInt := by rw [et8, hyy18_]
            exact ⟨by omega, by omega⟩
          have l_19 : (19 : Int32).toInt = 19 := by decide
          generalize hyy20_ : ((19 : Int32) + t5) = y20_
          have e21_ : y20_.toInt = (19 : Int32).toInt + t5.toInt := by rw [← hyy20_]; exact i_add (by omega) (by omega)
          refine sf_rd (by omega) (by omega) (fun x9 ex9 => ?_)
          refine sf_bind (sf_X10_limit t5 w hI (by omega) (by omega)) (fun r10 hqr10 hpr10 => ?_)
          refine sf_bind (Q := fun (v11 : Int32) => (0 ≤ v11.toInt) ∧ (v11.toInt ≤ 1)) ?_ (fun v11 hqv11 hvv11 => ?_)
          · have zz22_l : -2147483648 ≤ r10.toInt := Int32.le_toInt r10
            have zz22_h : r10.toInt ≤ 2147483647 := Int32.toInt_le r10
            have zz23_l : -2147483648 ≤ x9.toInt := Int32.le_toInt x9
            have zz23_h : x9.toInt ≤ 2147483647 := Int32.toInt_le x9
            have zz24_l : -2147483648 ≤ s42.2.1.toInt := Int32.le_toInt s42.2.1
            have zz24_h : s42.2.1.toInt ≤ 2147483647 := Int32.toInt_le s42.2.1
            refine sf_ite (fun c25_ => ?_) (fun c25_ => ?_)
            · have rc25_ : r10.toInt < (x9 + s42.2.1).toInt := by rw [Int32.lt_iff_toInt_lt] at c25_; omega
              exact sf_some (show (0 ≤ (0 : Int32).toInt) ∧ ((0 : Int32).toInt ≤ 1) from ⟨by first | omega | (unfold Ten6 Ten7 at *; omega) | (unfold Ten6 at *; omega) | (unfold Ten7 at *; omega), by first | omega | (unfold Ten6 Ten7 at *; omega) | (unfold Ten6 at *; omega) | (unfold Ten7 at *; omega)⟩)
            · have rc25_ : ¬ r10.toInt < (x9 + s42.2.1).toInt := by rw [Int32.lt_iff_toInt_lt] at c25_; omega
              have l_1 : (1 : Int32).toInt = 1 := by decide
              exact sf_some (show (0 ≤ (1 : Int32).toInt) ∧ ((1 : Int32).toInt ≤ 1) from ⟨by first | omega | (unfold Ten6 Ten7 at *; omega) | (unfold Ten6 at *; omega) | (unfold Ten7 at *; omega), by first | omega | (unfold Ten6 Ten7 at *; omega) | (unfold Ten6 at *; omega) | (unfold Ten7 at *; omega)⟩)
          · obtain ⟨hvv11_0, hvv11_1⟩ := hvv11
            refine sf_bind (Q := fun (v12 : Int32) => (True)) ?_ (fun v12 hqv12 hvv12 => ?_)
            · refine sf_ite (fun c26_ => ?_) (fun c26_ => ?_)
              · have rc26_ : v11.toInt = 0 := by rw [i_eq_iff] at c26_; omega
                exact sf_some (show (True) from trivial)
              · have rc26_ : ¬ v11.toInt = 0 := by rw [i_eq_iff] at c26_; omega
                refine sf_rd (by omega) (by omega) (fun x15 ex15 => ?_)
                have zz27_l : -2147483648 ≤ x15.toInt := Int32.le_toInt x15
                have zz27_h : x15.toInt ≤ 2147483647 := Int32.toInt_le x15
                refine sf_bind (sf_X10_payFor x15 w hI (by omega)) (fun r16 hqr16 hpr16 => ?_)
                have zz28_l : -2147483648 ≤ r16.toInt := Int32.le_toInt r16
                have zz28_h : r16.toInt ≤ 2147483647 := Int32.toInt_le r16
                exact sf_some (show (True) from trivial)
            · have hvv12_0 := hvv12
              refine sf_bind (Q := fun (v13 : Int32) => (True)) ?_ (fun v13 hqv13 hvv13 => ?_)
              · refine sf_ite (fun c29_ => ?_) (fun c29_ => ?_)
                · have rc29_ : v11.toInt = 0 := by rw [i_eq_iff] at c29_; omega
                  exact sf_some (show (True) from trivial)
                · have rc29_ : ¬ v11.toInt = 0 := by rw [i_eq_iff] at c29_; omega
                  refine sf_rd (by omega) (by omega) (fun x14 ex14 => ?_)
                  have zz30_l : -2147483648 ≤ x14.toInt := Int32.le_toInt x14
                  have zz30_h : x14.toInt ≤ 2147483647 := Int32.toInt_le x14
                  exact sf_some (show (True) from trivial)
              · have hvv13_0 := hvv13
                have zz31_l : -2147483648 ≤ s42.2.1.toInt := Int32.le_toInt s42.2.1
                have zz31_h : s42.2.1.toInt ≤ 2147483647 := Int32.toInt_le s42.2.1
                have zz32_l : -2147483648 ≤ v13.toInt := Int32.le_toInt v13
                have zz32_h : v13.toInt ≤ 2147483647 := Int32.toInt_le v13
                have zz33_l : -2147483648 ≤ s42.2.2.1.toInt := Int32.le_toInt s42.2.2.1
                have zz33_h : s42.2.2.1.toInt ≤ 2147483647 := Int32.toInt_le s42.2.2.1
                have zz34_l : -2147483648 ≤ v12.toInt := Int32.le_toInt v12
                have zz34_h : v12.toInt ≤ 2147483647 := Int32.toInt_le v12
                have l_m1 : (-1 : Int32).toInt = -1 := by decide
                generalize hyy35_ : (s42.2.2.2.2 + (-1 : Int32)) = y35_
                have e36_ : y35_.toInt = s42.2.2.2.2.toInt + (-1 : Int32).toInt := by rw [← hyy35_]; exact i_add (by omega) (by omega)
                exact sf_some (show ((0 ≤ t8.toInt) ∧ (t8.toInt ≤ 63) ∧ (0 ≤ t6.toInt) ∧ (t6.toInt ≤ 100000) ∧ (0 ≤ y35_.toInt) ∧ (y35_.toInt ≤ 6) ∧ (Ten7 y35_.toInt t6.toInt) ∧ (y35_.toInt = 0 ∨ 1 ≤ t6.toInt)) ∧ (y35_.toInt - (-1)).toNat < (s42.2.2.2.2.toInt - (-1)).toNat from ⟨⟨by first | omega | (unfold Ten6 Ten7 at *; omega) | (unfold Ten6 at *; omega) | (unfold Ten7 at *; omega), by first | omega | (unfold Ten6 Ten7 at *; omega) | (unfold Ten6 at *; omega) | (unfold Ten7 at *; omega), by first | omega | (unfold Ten6 Ten7 at *; omega) | (unfold Ten6 at *; omega) | (unfold Ten7 at *; omega), by first | omega | (unfold Ten6 Ten7 at *; omega) | (unfold Ten6 at *; omega) | (unfold Ten7 at *; omega), by first | omega | (unfold Ten6 Ten7 at *; omega) | (unfold Ten6 at *; omega) | (unfold Ten7 at *; omega), by first | omega | (unfold Ten6 Ten7 at *; omega) | (unfold Ten6 at *; omega) | (unfold Ten7 at *; omega), by first | omega | (unfold Ten6 Ten7 at *; omega) | (unfold Ten6 at *; omega) | (unfold Ten7 at *; omega), by first | omega | (unfold Ten6 Ten7 at *; omega) | (unfold Ten6 at *; omega) | (unfold Ten7 at *; omega)⟩, by omega⟩)
    · have rc6_ : ¬ 0 < s42.2.2.2.2.toInt := by rw [Int32.lt_iff_toInt_lt] at c6_; omega
      have zz37_l : -2147483648 ≤ s42.2.2.1.toInt := Int32.le_toInt s42.2.2.1
      have zz37_h : s42.2.2.1.toInt ≤ 2147483647 := Int32.toInt_le s42.2.2.1
      exact sf_some (show (True) from trivial)
set_option maxRecDepth 20000 in
set_option maxHeartbeats 2000000 in
theorem sf_X10_nextFigures (a0 : Int32) (a1 : Int32) (pre0 : 0 ≤ a0.toInt) (pre1 : a0.toInt ≤ 999999) (pre2 : 1 ≤ a1.toInt) : Sf (fun (q : Int32) => (0 ≤ q.toInt) ∧ (q.toInt ≤ 20000000) ∧ (a0.toInt < q.toInt)) (f_X10_nextFigures a0 a1) := by
  unfold f_X10_nextFigures
  have l0 : (0 : Int32).toInt = 0 := by decide
  have l1 : (1 : Int32).toInt = 1 := by decide
  have l10 : (10 : Int32).toInt = 10 := by decide
  have e0 : (a0 + (1 : Int32)).toInt = a0.toInt + 1 := i_addk l1 (by omega) (by omega)
  refine sf_bind (Q := fun (q : Int32) => a0.toInt < q.toInt ∧ q.toInt ≤ 20000000) ?_ (fun v _ hv => sf_some (show (0 ≤ v.toInt) ∧ (v.toInt ≤ 20000000) ∧ (a0.toInt < v.toInt) from ⟨by omega, by omega, by omega⟩))
  refine sf_lp (fun (s : Int32 × Int32) => (s.2.toInt = 1 ∨ s.2.toInt = 10 ∨ s.2.toInt = 100 ∨ s.2.toInt = 1000 ∨ s.2.toInt = 10000 ∨ s.2.toInt = 100000 ∨ s.2.toInt = 1000000 ∨ s.2.toInt = 10000000) ∧ a0.toInt < s.1.toInt ∧ s.1.toInt ≤ 1000000 + s.2.toInt) (fun (s : Int32 × Int32) => (20000000 - s.2.toInt).toNat) (fun s hs => ?_) _ _ ⟨Or.inl l1, by show a0.toInt < (a0 + (1 : Int32)).toInt; omega, by show (a0 + (1 : Int32)).toInt ≤ 1000000 + (1 : Int32).toInt; omega⟩ (by show (20000000 - (1 : Int32).toInt).toNat < 5000000000; omega)
  obtain ⟨h1, h2, h3⟩ := hs
  refine (?_ : Sf (lpP _ _ (20000000 - s.2.toInt).toNat _) _)
  have hpos : 0 < s.2.toInt := by omega
  have hne : ¬ s.2 = 0 := by rw [i_eq_iff]; omega
  refine sf_nz hne ?_
  refine sf_ite (fun c => ?_) (fun c => sf_some (show a0.toInt < s.1.toInt ∧ s.1.toInt ≤ 20000000 from ⟨h2, by omega⟩))
  refine sf_nz hne ?_
  refine sf_lt (fun t et => ?_)
  rw [Int32.lt_iff_toInt_lt] at c
  have hd : (s.1 / s.2).toInt = s.1.toInt / s.2.toInt := i_divp (by omega) hpos
  have hd0 : 0 ≤ (s.1 / s.2).toInt := (i_divb (by omega) hpos).1
  have hr : (s.1 / s.2 - s.1 / s.2 / (10 : Int32) * (10 : Int32)).toInt = (s.1 / s.2).toInt % 10 := i_remk (k := 10) l10 (by decide) hd0
  generalize s.1 / s.2 - s.1 / s.2 / (10 : Int32) * (10 : Int32) = d at c et hr
  rcases h1 with h1 | h1 | h1 | h1 | h1 | h1 | h1 | h1
  · rw [h1] at hd
    have e1 : ((10 : Int32) - d).toInt = (10 : Int32).toInt - d.toInt := i_sub (by omega) (by omega)
    have e2 : (s.2 * ((10 : Int32) - d)).toInt = 1 * ((10 : Int32) - d).toInt := i_mulkl h1 (by omega) (by omega)
    have e3 : (s.2 * ((10 : Int32) - d) + s.2).toInt = (s.2 * ((10 : Int32) - d)).toInt + s.2.toInt := i_add (by omega) (by omega)
    have e4 : t.toInt = s.1.toInt + (s.2 * ((10 : Int32) - d) + s.2).toInt := by rw [et]; exact i_add (by omega) (by omega)
    have e5 : (s.2 * (10 : Int32)).toInt = 10 * s.2.toInt := i_mulkr l10 (by omega) (by omega)
    exact sf_some (show (((s.2 * (10 : Int32)).toInt = 1 ∨ (s.2 * (10 : Int32)).toInt = 10 ∨ (s.2 * (10 : Int32)).toInt = 100 ∨ (s.2 * (10 : Int32)).toInt = 1000 ∨ (s.2 * (10 : Int32)).toInt = 10000 ∨ (s.2 * (10 : Int32)).toInt = 100000 ∨ (s.2 * (10 : Int32)).toInt = 1000000 ∨ (s.2 * (10 : Int32)).toInt = 10000000) ∧ a0.toInt < t.toInt ∧ t.toInt ≤ 1000000 + (s.2 * (10 : Int32)).toInt) ∧ (20000000 - (s.2 * (10 : Int32)).toInt).toNat < (20000000 - s.2.toInt).toNat from ⟨⟨by omega, by omega, by omega⟩, by omega⟩)
  · rw [h1] at hd
    have e1 : ((10 : Int32) - d).toInt = (10 : Int32).toInt - d.toInt := i_sub (by omega) (by omega)
    have e2 : (s.2 * ((10 : Int32) - d)).toInt = 10 * ((10 : Int32) - d).toInt := i_mulkl h1 (by omega) (by omega)
    have e3 : (s.2 * ((10 : Int32) - d) + s.2).toInt = (s.2 * ((10 : Int32) - d)).toInt + s.2.toInt := i_add (by omega) (by omega)
    have e4 : t.toInt = s.1.toInt + (s.2 * ((10 : Int32) - d) + s.2).toInt := by rw [et]; exact i_add (by omega) (by omega)
    have e5 : (s.2 * (10 : Int32)).toInt = 10 * s.2.toInt := i_mulkr l10 (by omega) (by omega)
    exact sf_some (show (((s.2 * (10 : Int32)).toInt = 1 ∨ (s.2 * (10 : Int32)).toInt = 10 ∨ (s.2 * (10 : Int32)).toInt = 100 ∨ (s.2 * (10 : Int32)).toInt = 1000 ∨ (s.2 * (10 : Int32)).toInt = 10000 ∨ (s.2 * (10 : Int32)).toInt = 100000 ∨ (s.2 * (10 : Int32)).toInt = 1000000 ∨ (s.2 * (10 : Int32)).toInt = 10000000) ∧ a0.toInt < t.toInt ∧ t.toInt ≤ 1000000 + (s.2 * (10 : Int32)).toInt) ∧ (20000000 - (s.2 * (10 : Int32)).toInt).toNat < (20000000 - s.2.toInt).toNat from ⟨⟨by omega, by omega, by omega⟩, by omega⟩)
  · rw [h1] at hd
    have e1 : ((10 : Int32) - d).toInt = (10 : Int32).toInt - d.toInt := i_sub (by omega) (by omega)
    have e2 : (s.2 * ((10 : Int32) - d)).toInt = 100 * ((10 : Int32) - d).toInt := i_mulkl h1 (by omega) (by omega)
    have e3 : (s.2 * ((10 : Int32) - d) + s.2).toInt = (s.2 * ((10 : Int32) - d)).toInt + s.2.toInt := i_add (by omega) (by omega)
    have e4 : t.toInt = s.1.toInt + (s.2 * ((10 : Int32) - d) + s.2).toInt := by rw [et]; exact i_add (by omega) (by omega)
    have e5 : (s.2 * (10 : Int32)).toInt = 10 * s.2.toInt := i_mulkr l10 (by omega) (by omega)
    exact sf_some (show (((s.2 * (10 : Int32)).toInt = 1 ∨ (s.2 * (10 : Int32)).toInt = 10 ∨ (s.2 * (10 : Int32)).toInt = 100 ∨ (s.2 * (10 : Int32)).toInt = 1000 ∨ (s.2 * (10 : Int32)).toInt = 10000 ∨ (s.2 * (10 : Int32)).toInt = 100000 ∨ (s.2 * (10 : Int32)).toInt = 1000000 ∨ (s.2 * (10 : Int32)).toInt = 10000000) ∧ a0.toInt < t.toInt ∧ t.toInt ≤ 1000000 + (s.2 * (10 : Int32)).toInt) ∧ (20000000 - (s.2 * (10 : Int32)).toInt).toNat < (20000000 - s.2.toInt).toNat from ⟨⟨by omega, by omega, by omega⟩, by omega⟩)
  · rw [h1] at hd
    have e1 : ((10 : Int32) - d).toInt = (10 : Int32).toInt - d.toInt := i_sub (by omega) (by omega)
    have e2 : (s.2 * ((10 : Int32) - d)).toInt = 1000 * ((10 : Int32) - d).toInt := i_mulkl h1 (by omega) (by omega)
    have e3 : (s.2 * ((10 : Int32) - d) + s.2).toInt = (s.2 * ((10 : Int32) - d)).toInt + s.2.toInt := i_add (by omega) (by omega)
    have e4 : t.toInt = s.1.toInt + (s.2 * ((10 : Int32) - d) + s.2).toInt := by rw [et]; exact i_add (by omega) (by omega)
    have e5 : (s.2 * (10 : Int32)).toInt = 10 * s.2.toInt := i_mulkr l10 (by omega) (by omega)
    exact sf_some (show (((s.2 * (10 : Int32)).toInt = 1 ∨ (s.2 * (10 : Int32)).toInt = 10 ∨ (s.2 * (10 : Int32)).toInt = 100 ∨ (s.2 * (10 : Int32)).toInt = 1000 ∨ (s.2 * (10 : Int32)).toInt = 10000 ∨ (s.2 * (10 : Int32)).toInt = 100000 ∨ (s.2 * (10 : Int32)).toInt = 1000000 ∨ (s.2 * (10 : Int32)).toInt = 10000000) ∧ a0.toInt < t.toInt ∧ t.toInt ≤ 1000000 + (s.2 * (10 : Int32)).toInt) ∧ (20000000 - (s.2 * (10 : Int32)).toInt).toNat < (20000000 - s.2.toInt).toNat from ⟨⟨by omega, by omega, by omega⟩, by omega⟩)
  · rw [h1] at hd
    have e1 : ((10 : Int32) - d).toInt = (10 : Int32).toInt - d.toInt := i_sub (by omega) (by omega)
    have e2 : (s.2 * ((10 : Int32) - d)).toInt = 10000 * ((10 : Int32) - d).toInt := i_mulkl h1 (by omega) (by omega)
    have e3 : (s.2 * ((10 : Int32) - d) + s.2).toInt = (s.2 * ((10 : Int32) - d)).toInt + s.2.toInt := i_add (by omega) (by omega)
    have e4 : t.toInt = s.1.toInt + (s.2 * ((10 : Int32) - d) + s.2).toInt := by rw [et]; exact i_add (by omega) (by omega)
    have e5 : (s.2 * (10 : Int32)).toInt = 10 * s.2.toInt := i_mulkr l10 (by omega) (by omega)
    exact sf_some (show (((s.2 * (10 : Int32)).toInt = 1 ∨ (s.2 * (10 : Int32)).toInt = 10 ∨ (s.2 * (10 : Int32)).toInt = 100 ∨ (s.2 * (10 : Int32)).toInt = 1000 ∨ (s.2 * (10 : Int32)).toInt = 10000 ∨ (s.2 * (10 : Int32)).toInt = 100000 ∨ (s.2 * (10 : Int32)).toInt = 1000000 ∨ (s.2 * (10 : Int32)).toInt = 10000000) ∧ a0.toInt < t.toInt ∧ t.toInt ≤ 1000000 + (s.2 * (10 : Int32)).toInt) ∧ (20000000 - (s.2 * (10 : Int32)).toInt).toNat < (20000000 - s.2.toInt).toNat from ⟨⟨by omega, by omega, by omega⟩, by omega⟩)
  · rw [h1] at hd
    have e1 : ((10 : Int32) - d).toInt = (10 : Int32).toInt - d.toInt := i_sub (by omega) (by omega)
    have e2 : (s.2 * ((10 : Int32) - d)).toInt = 100000 * ((10 : Int32) - d).toInt := i_mulkl h1 (by omega) (by omega)
    have e3 : (s.2 * ((10 : Int32) - d) + s.2).toInt = (s.2 * ((10 : Int32) - d)).toInt + s.2.toInt := i_add (by omega) (by omega)
    have e4 : t.toInt = s.1.toInt + (s.2 * ((10 : Int32) - d) + s.2).toInt := by rw [et]; exact i_add (by omega) (by omega)
    have e5 : (s.2 * (10 : Int32)).toInt = 10 * s.2.toInt := i_mulkr l10 (by omega) (by omega)
    exact sf_some (show (((s.2 * (10 : Int32)).toInt = 1 ∨ (s.2 * (10 : Int32)).toInt = 10 ∨ (s.2 * (10 : Int32)).toInt = 100 ∨ (s.2 * (10 : Int32)).toInt = 1000 ∨ (s.2 * (10 : Int32)).toInt = 10000 ∨ (s.2 * (10 : Int32)).toInt = 100000 ∨ (s.2 * (10 : Int32)).toInt = 1000000 ∨ (s.2 * (10 : Int32)).toInt = 10000000) ∧ a0.toInt < t.toInt ∧ t.toInt ≤ 1000000 + (s.2 * (10 : Int32)).toInt) ∧ (20000000 - (s.2 * (10 : Int32)).toInt).toNat < (20000000 - s.2.toInt).toNat from ⟨⟨by omega, by omega, by omega⟩, by omega⟩)
  · rw [h1] at hd
    have e1 : ((10 : Int32) - d).toInt = (10 : Int32).toInt - d.toInt := i_sub (by omega) (by omega)
    have e2 : (s.2 * ((10 : Int32) - d)).toInt = 1000000 * ((10 : Int32) - d).toInt := i_mulkl h1 (by omega) (by omega)
    have e3 : (s.2 * ((10 : Int32) - d) + s.2).toInt = (s.2 * ((10 : Int32) - d)).toInt + s.2.toInt := i_add (by omega) (by omega)
    have e4 : t.toInt = s.1.toInt + (s.2 * ((10 : Int32) - d) + s.2).toInt := by rw [et]; exact i_add (by omega) (by omega)
    have e5 : (s.2 * (10 : Int32)).toInt = 10 * s.2.toInt := i_mulkr l10 (by omega) (by omega)
    exact sf_some (show (((s.2 * (10 : Int32)).toInt = 1 ∨ (s.2 * (10 : Int32)).toInt = 10 ∨ (s.2 * (10 : Int32)).toInt = 100 ∨ (s.2 * (10 : Int32)).toInt = 1000 ∨ (s.2 * (10 : Int32)).toInt = 10000 ∨ (s.2 * (10 : Int32)).toInt = 100000 ∨ (s.2 * (10 : Int32)).toInt = 1000000 ∨ (s.2 * (10 : Int32)).toInt = 10000000) ∧ a0.toInt < t.toInt ∧ t.toInt ≤ 1000000 + (s.2 * (10 : Int32)).toInt) ∧ (20000000 - (s.2 * (10 : Int32)).toInt).toNat < (20000000 - s.2.toInt).toNat from ⟨⟨by omega, by omega, by omega⟩, by omega⟩)
  · rw [h1] at hd h3; exfalso; omega
set_option maxRecDepth 20000 in
set_option maxHeartbeats 2000000 in
theorem sf_X10_queue {g : Nat → Int} (a1 : Int32) (w : Mem) (hI : Inv g w) : Sf (fun (q : Int32 × Mem) => (Inv g q.2)) (f_X10_queue a1 w) := by
  obtain ⟨hg0, hg1⟩ := hI.1
  have zz1_l : -2147483648 ≤ a1.toInt := Int32.le_toInt a1
  have zz1_h : a1.toInt ≤ 2147483647 := Int32.toInt_le a1
  unfold f_X10_queue
  have l_0 : (0 : Int32).toInt = 0 := by decide
  have l_1 : (1 : Int32).toInt = 1 := by decide
  refine sf_bind (sf_X10_in a1 (0 : Int32) (1 : Int32)) (fun r1 hqr1 hpr1 => ?_)
  obtain ⟨hpr1_0, hpr1_1, hpr1_2⟩ := hpr1
  refine sf_ite (fun c2_ => ?_) (fun c2_ => ?_)
  · have rc2_ : r1.toInt = 0 := by rw [i_eq_iff] at c2_; omega
    have l_m1000000002 : (-1000000002 : Int32).toInt = -1000000002 := by decide
    exact sf_some (show (Inv g w) from hI)
  · have rc2_ : ¬ r1.toInt = 0 := by rw [i_eq_iff] at c2_; omega
    have l_4 : (4 : Int32).toInt = 4 := by decide
    refine sf_rd (by omega) (by omega) (fun x2 ex2 => ?_)
    have h3_ : ((4 : Int) = 4 → -1 ≤ (w 146 4).toInt ∧ (w 146 4).toInt ≤ 6 * g 0 - 1) ∧ ((4 : Int) = 6 → -1 ≤ (w 146 4).toInt ∧ (w 146 4).toInt ≤ 7) := ia_146 (j := 4) hI
    have fx2 : x2.toInt = (w 146 4).toInt := by rw [ex2, show (4 : Int32).toNatClampNeg = 4 by decide]
    have l_m1 : (-1 : Int32).toInt = -1 := by decide
    refine sf_ite (fun c4_ => ?_) (fun c4_ => ?_)
    · have rc4_ : x2.toInt = -1 := by rw [i_eq_iff] at c4_; omega
      refine sf_bind (sf_X10_are (0 : Int32) w hI) (fun r3 hqr3 hpr3 => ?_)
      obtain ⟨hpr3_0, hpr3_1, hpr3_2⟩ := hpr3
      have h5_ : 0 ≤ (w 134 18).toInt ∧ (w 134 18).toInt ≤ 6 * g 0 := iv_134_18 hI
      refine sf_ite (fun c6_ => ?_) (fun c6_ => ?_)
      · have rc6_ : r3.toInt = 0 := by rw [i_eq_iff] at c6_; omega
        exact sf_some (show (Inv g w) from hI)
      · have rc6_ : ¬ r3.toInt = 0 := by rw [i_eq_iff] at c6_; omega
        refine sf_bind (Q := fun (v7 : Mem) => (Inv g v7) ∧ ((v7 134 18).toInt = (w 134 18).toInt)) ?_ (fun v7 hqv7 hvv7 => ?_)
        · refine sf_lp (fun (s39 : (Int32 × Mem)) => (Inv g s39.2) ∧ (0 ≤ s39.1.toInt) ∧ (s39.1.toInt ≤ 6) ∧ ((s39.2 134 18).toInt = (w 134 18).toInt)) (fun (s39 : (Int32 × Mem)) => (7 - s39.1.toInt).toNat) (fun s39 hss39 => ?_) _ _ (show (Inv g w) ∧ (0 ≤ (0 : Int32).toInt) ∧ ((0 : Int32).toInt ≤ 6) ∧ ((w 134 18).toInt = (w 134 18).toInt) from ⟨hI, by omega, by omega, rfl⟩) (show (7 - (0 : Int32).toInt).toNat < 5000000000 from by omega)
          obtain ⟨hIs39, hss39_1, hss39_2, hss39_3⟩ := hss39
          refine (?_ : Sf (lpP _ _ (7 - s39.1.toInt).toNat _) _)
          have h7_ : 0 ≤ (s39.2 134 18).toInt ∧ (s39.2 134 18).toInt ≤ 6 * g 0 := iv_134_18 hIs39
          refine sf_ite (fun c8_ => ?_) (fun c8_ => ?_)
          · have rc8_ : s39.1.toInt < (s39.2 134 18).toInt := by rw [Int32.lt_iff_toInt_lt] at c8_; omega
            have l_3 : (3 : Int32).toInt = 3 := by decide
            refine sf_rd (by omega) (by omega) (fun x4 ex4 => ?_)
            have zz9_l : -2147483648 ≤ (s39.2 146 3).toInt := Int32.le_toInt (s39.2 146 3)
            have zz9_h : (s39.2 146 3).toInt ≤ 2147483647 := Int32.toInt_le (s39.2 146 3)
            have fx4 : x4.toInt = (s39.2 146 3).toInt := by rw [ex4, show (3 : Int32).toNatClampNeg = 3 by decide]
            have zz10_l : -2147483648 ≤ x4.toInt := Int32.le_toInt x4
            have zz10_h : x4.toInt ≤ 2147483647 := Int32.toInt_le x4
            refine sf_bind (sf_X10_layTalk s39.1 x4 s39.2 hIs39 (by omega) (by omega)) (fun w5 hqw5 hpw5 => ?_)
            have hIw5 := hpw5
            have zz11_l : -2147483648 ≤ (w5 134 30).toInt := Int32.le_toInt (w5 134 30)
            have zz11_h : (w5 134 30).toInt ≤ 2147483647 := Int32.toInt_le (w5 134 30)
            refine sf_wr (by omega) (by omega) (fun w6 ew6 => ?_)
            have n12_ : (s39.1.toNatClampNeg : Int) = s39.1.toInt := i_clq (by omega)
            have hIw6 : Inv g w6 := by rw [ew6]; exact ub_149 hIw5
            generalize hyy13_ : (s39.1 + (1 : Int32)) = y13_
            have e14_ : y13_.toInt = s39.1.toInt + (1 : Int32).toInt := by rw [← hyy13_]; exact i_add (by omega) (by omega)
            have h15_ : 0 ≤ (w6 134 18).toInt ∧ (w6 134 18).toInt ≤ 6 * g 0 := iv_134_18 hIw6
            have h16_ : 0 ≤ (w5 134 18).toInt ∧ (w5 134 18).toInt ≤ 6 * g 0 := iv_134_18 hIw5
            have k17_ : (w5 134 18).toInt = (s39.2 134 18).toInt := congrArg Int32.toInt (fr_X10_layTalk s39.1 x4 s39.2 w5 hqw5 134 18 (by omega))
            have k18_ : (w6 134 18).toInt = (w5 134 18).toInt := by rw [ew6, wu_ne (by omega)]
            exact sf_some (show ((Inv g w6) ∧ (0 ≤ y13_.toInt) ∧ (y13_.toInt ≤ 6) ∧ ((w6 134 18).toInt = (w 134 18).toInt)) ∧ (7 - y13_.toInt).toNat < (7 - s39.1.toInt).toNat from ⟨⟨hIw6, by omega, by omega, by omega⟩, by omega⟩)
          · have rc8_ : ¬ s39.1.toInt < (s39.2 134 18).toInt := by rw [Int32.lt_iff_toInt_lt] at c8_; omega
            exact sf_some (show (Inv g s39.2) ∧ ((s39.2 134 18).toInt = (w 134 18).toInt) from ⟨hIs39, by omega⟩)
        · obtain ⟨hIv7, hvv7_1⟩ := hvv7
          have h19_ : 0 ≤ (v7 134 18).toInt ∧ (v7 134 18).toInt ≤ 6 * g 0 := iv_134_18 hIv7
          refine sf_bind (Q := fun (v10 : (Int32 × Int32)) => (1 ≤ v10.1.toInt) ∧ (v10.1.toInt ≤ 111111) ∧ (10 ≤ v10.2.toInt) ∧ (v10.2.toInt ≤ 1000000) ∧ (1 ≤ v10.1.toInt) ∧ (v10.2.toInt ≤ 1000000)) ?_ (fun v10 hqv10 hvv10 => ?_)
          · have l_10 : (10 : Int32).toInt = 10 := by decide
            refine sf_lp (fun (s83 : (Int32 × Int32 × Int32)) => (1 ≤ s83.1.toInt) ∧ (s83.1.toInt ≤ 111111) ∧ (10 ≤ s83.2.1.toInt) ∧ (s83.2.1.toInt ≤ 1000000) ∧ (1 ≤ s83.2.2.toInt) ∧ (s83.2.2.toInt ≤ 6) ∧ (Ten3 s83.2.2.toInt s83.1.toInt s83.2.1.toInt) ∧ (s83.2.2.toInt ≤ bcI r3 ∨ s83.2.2.toInt = 1)) (fun (s83 : (Int32 × Int32 × Int32)) => (7 - s83.2.2.toInt).toNat) (fun s83 hss83 => ?_) _ _ (show (1 ≤ (1 : Int32).toInt) ∧ ((1 : Int32).toInt ≤ 111111) ∧ (10 ≤ (10 : Int32).toInt) ∧ ((10 : Int32).toInt ≤ 1000000) ∧ (1 ≤ (1 : Int32).toInt) ∧ ((1 : Int32).toInt ≤ 6) ∧ (Ten3 (1 : Int32).toInt (1 : Int32).toInt (10 : Int32).toInt) ∧ ((1 : Int32).toInt ≤ bcI r3 ∨ (1 : Int32).toInt = 1) from ⟨by omega, by omega, by omega, by omega, by omega, by omega, ten3_0 (by omega) (by omega) (by omega), by omega⟩) (show (7 - (1 : Int32).toInt).toNat < 5000000000 from by omega)
            obtain ⟨hss83_0, hss83_1, hss83_2, hss83_3, hss83_4, hss83_5, hss83_6, hss83_7⟩ := hss83
            have tb9 := ten3_b hss83_6
            refine (?_ : Sf (lpP _ _ (7 - s83.2.2.toInt).toNat _) _)
            refine sf_bind (sf_X10_bits r3) (fun r8 hqr8 hpr8 => ?_)
            obtain ⟨hpr8_0, hpr8_1, hpr8_2, hpr8_3⟩ := hpr8
            refine sf_ite (fun c20_ => ?_) (fun c20_ => ?_)
            · have rc20_ : s83.2.2.toInt < r8.toInt := by rw [Int32.lt_iff_toInt_lt] at c20_; omega
              refine sf_lt (fun t9 et9 => ?_)
              have ft9 : (11 ≤ t9.toInt) ∧ (t9.toInt ≤ 1111111) ∧ (t9.toInt = 10 * s83.1.toInt + 1) := by
                generalize hyy21_ : ((10 : Int32) * s83.1) = y21_
                have e22_ : y21_.toInt = 10 * s83.1.toInt := by rw [← hyy21_]; exact i_mulkl (by decide) (by omega) (by omega)
                generalize hyy23_ : (y21_ + (1 : Int32)) = y23_
                have e24_ : y23_.toInt = y21_.toInt + (1 : Int32).toInt := by rw [← hyy23_]; exact i_add (by omega) (by omega)
                have f9 : t9.toInt = y23_.toInt := by rw [et9, hyy21_, hyy23_]
                exact ⟨by omega, by omega, by omega⟩
              generalize hyy25_ : (s83.2.1 * (10 : Int32)) = y25_
              have e26_ : y25_.toInt = 10 * s83.2.1.toInt := by rw [← hyy25_]; exact i_mulkr (by decide) (by omega) (by omega)
              generalize hyy27_ : (s83.2.2 + (1 : Int32)) = y27_
              have e28_ : y27_.toInt = s83.2.2.toInt + (1 : Int32).toInt := by rw [← hyy27_]; exact i_add (by omega) (by omega)
              exact sf_some (show ((1 ≤ t9.toInt) ∧ (t9.toInt ≤ 111111) ∧ (10 ≤ y25_.toInt) ∧ (y25_.toInt ≤ 1000000) ∧ (1 ≤ y27_.toInt) ∧ (y27_.toInt ≤ 6) ∧ (Ten3 y27_.toInt t9.toInt y25_.toInt) ∧ (y27_.toInt ≤ bcI r3 ∨ y27_.toInt = 1)) ∧ (7 - y27_.toInt).toNat < (7 - s83.2.2.toInt).toNat from ⟨⟨by omega, by omega, by omega, by omega, by omega, by omega, ten3_up hss83_6 (by omega) (by omega) (by omega) (by omega), by omega⟩, by omega⟩)
            · have rc20_ : ¬ s83.2.2.toInt < r8.toInt := by rw [Int32.lt_iff_toInt_lt] at c20_; omega
              exact sf_some (show (1 ≤ s83.1.toInt) ∧ (s83.1.toInt ≤ 111111) ∧ (10 ≤ s83.2.1.toInt) ∧ (s83.2.1.toInt ≤ 1000000) ∧ (1 ≤ s83.1.toInt) ∧ (s83.2.1.toInt ≤ 1000000) from ⟨by omega, by omega, by omega, by omega, by omega, by omega⟩)
          · obtain ⟨hvv10_0, hvv10_1, hvv10_2, hvv10_3, hvv10_4, hvv10_5⟩ := hvv10
            refine sf_bind (Q := fun (v15 : (Int32 × Int32)) => (0 ≤ v15.1.toInt) ∧ (v15.1.toInt ≤ 999999) ∧ (-1 ≤ v15.2.toInt)) ?_ (fun v15 hqv15 hvv15 => ?_)
            · refine sf_lp (fun (s118 : (Int32 × Int32 × Int32)) => (1 ≤ s118.1.toInt) ∧ (s118.1.toInt ≤ 20000000) ∧ (0 ≤ s118.2.1.toInt) ∧ (s118.2.1.toInt ≤ 999999) ∧ (-1 ≤ s118.2.2.toInt) ∧ (1 ≤ s118.1.toInt) ∧ (s118.1.toInt ≤ 20000000)) (fun (s118 : (Int32 × Int32 × Int32)) => (20000001 - s118.1.toInt).toNat) (fun s118 hss118 => ?_) _ _ (show (1 ≤ v10.1.toInt) ∧ (v10.1.toInt ≤ 20000000) ∧ (0 ≤ (0 : Int32).toInt) ∧ ((0 : Int32).toInt ≤ 999999) ∧ (-1 ≤ (-1 : Int32).toInt) ∧ (1 ≤ v10.1.toInt) ∧ (v10.1.toInt ≤ 20000000) from ⟨by omega, by omega, by omega, by omega, by omega, by omega, by omega⟩) (show (20000001 - v10.1.toInt).toNat < 5000000000 from by omega)
              obtain ⟨hss118_0, hss118_1, hss118_2, hss118_3, hss118_4, hss118_5, hss118_6⟩ := hss118
              refine (?_ : Sf (lpP _ _ (20000001 - s118.1.toInt).toNat _) _)
              refine sf_ite (fun c29_ => ?_) (fun c29_ => ?_)
              · have rc29_ : s118.1.toInt < v10.2.toInt := by rw [Int32.lt_iff_toInt_lt] at c29_; omega
                refine sf_bind (sf_X10_paidBy s118.1 r3 v7 hIv7 (by omega) (by omega) (by omega) (by omega)) (fun r11 hqr11 hpr11 => ?_)
                refine sf_bind (Q := fun (v12 : Int32) => (0 ≤ v12.toInt) ∧ (v12.toInt ≤ 999999)) ?_ (fun v12 hqv12 hvv12 => ?_)
                · have zz30_l : -2147483648 ≤ s118.2.2.toInt := Int32.le_toInt s118.2.2
                  have zz30_h : s118.2.2.toInt ≤ 2147483647 := Int32.toInt_le s118.2.2
                  have zz31_l : -2147483648 ≤ r11.toInt := Int32.le_toInt r11
                  have zz31_h : r11.toInt ≤ 2147483647 := Int32.toInt_le r11
                  refine sf_ite (fun c32_ => ?_) (fun c32_ => ?_)
                  · have rc32_ : s118.2.2.toInt < r11.toInt := by rw [Int32.lt_iff_toInt_lt] at c32_; omega
                    exact sf_some (show (0 ≤ s118.1.toInt) ∧ (s118.1.toInt ≤ 999999) from ⟨by omega, by omega⟩)
                  · have rc32_ : ¬ s118.2.2.toInt < r11.toInt := by rw [Int32.lt_iff_toInt_lt] at c32_; omega
                    exact sf_some (show (0 ≤ s118.2.1.toInt) ∧ (s118.2.1.toInt ≤ 999999) from ⟨by omega, by omega⟩)
                · obtain ⟨hvv12_0, hvv12_1⟩ := hvv12
                  refine sf_bind (Q := fun (v13 : Int32) => (-1 ≤ v13.toInt)) ?_ (fun v13 hqv13 hvv13 => ?_)
                  · have zz33_l : -2147483648 ≤ s118.2.2.toInt := Int32.le_toInt s118.2.2
                    have zz33_h : s118.2.2.toInt ≤ 2147483647 := Int32.toInt_le s118.2.2
                    have zz34_l : -2147483648 ≤ r11.toInt := Int32.le_toInt r11
                    have zz34_h : r11.toInt ≤ 2147483647 := Int32.toInt_le r11
                    refine sf_ite (fun c35_ => ?_) (fun c35_ => ?_)
                    · have rc35_ : s118.2.2.toInt < r11.toInt := by rw [Int32.lt_iff_toInt_lt] at c35_; omega
                      exact sf_some (show (-1 ≤ r11.toInt) from by omega)
                    · have rc35_ : ¬ s118.2.2.toInt < r11.toInt := by rw [Int32.lt_iff_toInt_lt] at c35_; omega
                      exact sf_some (show (-1 ≤ s118.2.2.toInt) from by omega)
                  · have hvv13_0 := hvv13
                    refine sf_bind (sf_X10_nextFigures s118.1 (v7 134 18) (by omega) (by omega) (by omega)) (fun r14 hqr14 hpr14 => ?_)
                    obtain ⟨hpr14_0, hpr14_1, hpr14_2⟩ := hpr14
                    have zz36_l : -2147483648 ≤ v13.toInt := Int32.le_toInt v13
                    have zz36_h : v13.toInt ≤ 2147483647 := Int32.toInt_le v13
                    exact sf_some (show ((1 ≤ r14.toInt) ∧ (r14.toInt ≤ 20000000) ∧ (0 ≤ v12.toInt) ∧ (v12.toInt ≤ 999999) ∧ (-1 ≤ v13.toInt) ∧ (1 ≤ r14.toInt) ∧ (r14.toInt ≤ 20000000)) ∧ (20000001 - r14.toInt).toNat < (20000001 - s118.1.toInt).toNat from ⟨⟨by omega, by omega, by omega, by omega, by omega, by omega, by omega⟩, by omega⟩)
              · have rc29_ : ¬ s118.1.toInt < v10.2.toInt := by rw [Int32.lt_iff_toInt_lt] at c29_; omega
                have zz37_l : -2147483648 ≤ s118.2.2.toInt := Int32.le_toInt s118.2.2
                have zz37_h : s118.2.2.toInt ≤ 2147483647 := Int32.toInt_le s118.2.2
                exact sf_some (show (0 ≤ s118.2.1.toInt) ∧ (s118.2.1.toInt ≤ 999999) ∧ (-1 ≤ s118.2.2.toInt) from ⟨by omega, by omega, by omega⟩)
            · obtain ⟨hvv15_0, hvv15_1, hvv15_2⟩ := hvv15
              refine sf_ite (fun c38_ => ?_) (fun c38_ => ?_)
              · have rc38_ : a1.toInt = 0 := by rw [i_eq_iff] at c38_; omega
                have zz39_l : -2147483648 ≤ v15.2.toInt := Int32.le_toInt v15.2
                have zz39_h : v15.2.toInt ≤ 2147483647 := Int32.toInt_le v15.2
                exact sf_some (show (Inv g v7) from hIv7)
              · have rc38_ : ¬ a1.toInt = 0 := by rw [i_eq_iff] at c38_; omega
                exact sf_some (show (Inv g v7) from hIv7)
    · have rc4_ : ¬ x2.toInt = -1 := by rw [i_eq_iff] at c4_; omega
      have l_m1000000003 : (-1000000003 : Int32).toInt = -1000000003 := by decide
      exact sf_some (show (Inv g w) from hI)
