set_option maxRecDepth 20000 in
set_option maxHeartbeats 2000000 in
theorem sf_X3_takeUp {g : Nat → Int} (a1 : Int32) (w : Mem) (hI : Inv g w) : Sf (fun (q : Mem) => (Inv g q)) (f_X3_takeUp a1 w) := by
  obtain ⟨hg0, hg1⟩ := hI.1
  unfold f_X3_takeUp
  refine sf_lt (fun t1 et1 => ?_)
  have zz2_l : -2147483648 ≤ t1.toInt := Int32.le_toInt t1
  have zz2_h : t1.toInt ≤ 2147483647 := Int32.toInt_le t1
  have zz3_l : -2147483648 ≤ (w 3 3).toInt := Int32.le_toInt (w 3 3)
  have zz3_h : (w 3 3).toInt ≤ 2147483647 := Int32.toInt_le (w 3 3)
  refine sf_pw (fun w2 ew2 => ?_)
  have hIw2 : Inv g w2 := by rw [ew2]; exact uq_3_3 hI
  exact sf_some (show (Inv g w2) from hIw2)
set_option maxRecDepth 20000 in
set_option maxHeartbeats 2000000 in
theorem sf_X3_leaveSeat {g : Nat → Int} (b1 : Nat) (hb1 : BrO b1) (w : Mem) (hI : Inv g w) : Sf (fun (q : Int32 × Mem) => (Inv g q.2)) (f_X3_leaveSeat b1 w) := by
  have hbb_b1 : b1 = 112 ∨ b1 = 119 := hb1
  obtain ⟨hg0, hg1⟩ := hI.1
  unfold f_X3_leaveSeat
  refine sf_bind (sf_X3_emptySeat  w hI) (fun w1 hqw1 hpw1 => ?_)
  have hIw1 := hpw1
  have zz1_l : -2147483648 ≤ (w 3 4).toInt := Int32.le_toInt (w 3 4)
  have zz1_h : (w 3 4).toInt ≤ 2147483647 := Int32.toInt_le (w 3 4)
  refine sf_bind (sf_X1_hasTraveller b1 hb1 (w 3 4) w1 hIw1) (fun r2 hqr2 hpr2 => ?_)
  obtain ⟨hpr2_0, hpr2_1⟩ := hpr2
  have l_0 : (0 : Int32).toInt = 0 := by decide
  refine sf_ite (fun c2_ => ?_) (fun c2_ => ?_)
  · have rc2_ : r2.toInt = 0 := by rw [i_eq_iff] at c2_; omega
    exact sf_some (show (Inv g w1) from hIw1)
  · have rc2_ : ¬ r2.toInt = 0 := by rw [i_eq_iff] at c2_; omega
    have zz3_l : -2147483648 ≤ (w 3 8).toInt := Int32.le_toInt (w 3 8)
    have zz3_h : (w 3 8).toInt ≤ 2147483647 := Int32.toInt_le (w 3 8)
    have k4_ : (w1 3 8).toInt = (w 3 8).toInt := congrArg Int32.toInt (fr_X3_emptySeat  w w1 hqw1 3 8 (by omega))
    have zz5_l : -2147483648 ≤ (w1 3 8).toInt := Int32.le_toInt (w1 3 8)
    have zz5_h : (w1 3 8).toInt ≤ 2147483647 := Int32.toInt_le (w1 3 8)
    have l_1 : (1 : Int32).toInt = 1 := by decide
    have e6_ : 1 ≤ ((1 : Int32) <<< ((w 3 4) &&& 31)).toInt ∧ ((1 : Int32) <<< ((w 3 4) &&& 31)).toInt ≤ 32 := i_shl1 (k := 5) (by decide) (by omega) (show _ ≤ 5 from by omega)
    refine sf_pw (fun w3 ew3 => ?_)
    have hIw3 : Inv g w3 := by rw [ew3]; exact uq_3_8 hIw1
    refine sf_rd (by omega) (by omega) (fun x4 ex4 => ?_)
    have zz7_l : -2147483648 ≤ x4.toInt := Int32.le_toInt x4
    have zz7_h : x4.toInt ≤ 2147483647 := Int32.toInt_le x4
    refine sf_bind (sf_X1_payFor b1 hb1 x4 w3 hIw3) (fun r5 hqr5 hpr5 => ?_)
    refine sf_lt (fun t6 et6 => ?_)
    have ft6 : ((t6.toInt = r5.toInt ∨ t6.toInt = ((999999 : Int32) - (w3 3 2)).toInt) ∧ t6.toInt ≤ r5.toInt ∧ t6.toInt ≤ ((999999 : Int32) - (w3 3 2)).toInt) := by
      have zz8_l : -2147483648 ≤ r5.toInt := Int32.le_toInt r5
      have zz8_h : r5.toInt ≤ 2147483647 := Int32.toInt_le r5
      have l_999999 : (999999 : Int32).toInt = 999999 := by decide
      have zz9_l : -2147483648 ≤ (w 3 2).toInt := Int32.le_toInt (w 3 2)
      have zz9_h : (w 3 2).toInt ≤ 2147483647 := Int32.toInt_le (w 3 2)
      have k10_ : (w1 3 2).toInt = (w 3 2).toInt := congrArg Int32.toInt (fr_X3_emptySeat  w w1 hqw1 3 2 (by omega))
      have zz11_l : -2147483648 ≤ (w1 3 2).toInt := Int32.le_toInt (w1 3 2)
      have zz11_h : (w1 3 2).toInt ≤ 2147483647 := Int32.toInt_le (w1 3 2)
      have k12_ : (w3 3 2).toInt = (w1 3 2).toInt := by rw [ew3, wu_ne (by omega)]
      have zz13_l : -2147483648 ≤ (w3 3 2).toInt := Int32.le_toInt (w3 3 2)
      have zz13_h : (w3 3 2).toInt ≤ 2147483647 := Int32.toInt_le (w3 3 2)
      have e14_ : ((if ((999999 : Int32) - (w3 3 2)) < r5 then ((999999 : Int32) - (w3 3 2)) else r5).toInt = r5.toInt ∨ (if ((999999 : Int32) - (w3 3 2)) < r5 then ((999999 : Int32) - (w3 3 2)) else r5).toInt = ((999999 : Int32) - (w3 3 2)).toInt) ∧ (if ((999999 : Int32) - (w3 3 2)) < r5 then ((999999 : Int32) - (w3 3 2)) else r5).toInt ≤ r5.toInt ∧ (if ((999999 : Int32) - (w3 3 2)) < r5 then ((999999 : Int32) - (w3 3 2)) else r5).toInt ≤ ((999999 : Int32) - (w3 3 2)).toInt := i_min _ _
      have f9 : t6.toInt = (if ((999999 : Int32) - (w3 3 2)) < r5 then ((999999 : Int32) - (w3 3 2)) else r5).toInt := by rw [et6]
      exact (by rw [et6]; exact i_min _ _)
    have zz15_l : -2147483648 ≤ (w 3 2).toInt := Int32.le_toInt (w 3 2)
    have zz15_h : (w 3 2).toInt ≤ 2147483647 := Int32.toInt_le (w 3 2)
    have k16_ : (w1 3 2).toInt = (w 3 2).toInt := congrArg Int32.toInt (fr_X3_emptySeat  w w1 hqw1 3 2 (by omega))
    have zz17_l : -2147483648 ≤ (w1 3 2).toInt := Int32.le_toInt (w1 3 2)
    have zz17_h : (w1 3 2).toInt ≤ 2147483647 := Int32.toInt_le (w1 3 2)
    have k18_ : (w3 3 2).toInt = (w1 3 2).toInt := by rw [ew3, wu_ne (by omega)]
    have zz19_l : -2147483648 ≤ (w3 3 2).toInt := Int32.le_toInt (w3 3 2)
    have zz19_h : (w3 3 2).toInt ≤ 2147483647 := Int32.toInt_le (w3 3 2)
    have zz20_l : -2147483648 ≤ t6.toInt := Int32.le_toInt t6
    have zz20_h : t6.toInt ≤ 2147483647 := Int32.toInt_le t6
    refine sf_pw (fun w7 ew7 => ?_)
    have hIw7 : Inv g w7 := by rw [ew7]; exact uq_3_2 hIw3
    refine sf_bind (sf_X1_isProfessor b1 hb1 (w 3 4) w7 hIw7) (fun r8 hqr8 hpr8 => ?_)
    have hpr8_0 := hpr8
    refine sf_bind (Q := fun (v9 : Mem) => (Inv g v9) ∧ ((v9 3 2).toInt = (w7 3 2).toInt) ∧ ((v9 3 4).toInt = (w7 3 4).toInt) ∧ ((v9 3 8).toInt = (w7 3 8).toInt)) ?_ (fun v9 hqv9 hvv9 => ?_)
    · refine sf_ite (fun c21_ => ?_) (fun c21_ => ?_)
      · have rc21_ : r8.toInt = 0 := by rw [i_eq_iff] at c21_; omega
        have k22_ : (w7 3 2).toInt = ((w3 3 2) + t6).toInt := by rw [ew7, wu_at]
        have zz23_l : -2147483648 ≤ (w7 3 2).toInt := Int32.le_toInt (w7 3 2)
        have zz23_h : (w7 3 2).toInt ≤ 2147483647 := Int32.toInt_le (w7 3 2)
        have zz24_l : -2147483648 ≤ (w1 3 4).toInt := Int32.le_toInt (w1 3 4)
        have zz24_h : (w1 3 4).toInt ≤ 2147483647 := Int32.toInt_le (w1 3 4)
        have k25_ : (w3 3 4).toInt = (w1 3 4).toInt := by rw [ew3, wu_ne (by omega)]
        have zz26_l : -2147483648 ≤ (w3 3 4).toInt := Int32.le_toInt (w3 3 4)
        have zz26_h : (w3 3 4).toInt ≤ 2147483647 := Int32.toInt_le (w3 3 4)
        have k27_ : (w7 3 4).toInt = (w3 3 4).toInt := by rw [ew7, wu_ne (by omega)]
        have zz28_l : -2147483648 ≤ (w7 3 4).toInt := Int32.le_toInt (w7 3 4)
        have zz28_h : (w7 3 4).toInt ≤ 2147483647 := Int32.toInt_le (w7 3 4)
        have k29_ : (w3 3 8).toInt = ((w1 3 8) ||| ((1 : Int32) <<< ((w 3 4) &&& 31))).toInt := by rw [ew3, wu_at]
        have zz30_l : -2147483648 ≤ (w3 3 8).toInt := Int32.le_toInt (w3 3 8)
        have zz30_h : (w3 3 8).toInt ≤ 2147483647 := Int32.toInt_le (w3 3 8)
        have k31_ : (w7 3 8).toInt = (w3 3 8).toInt := by rw [ew7, wu_ne (by omega)]
        have zz32_l : -2147483648 ≤ (w7 3 8).toInt := Int32.le_toInt (w7 3 8)
        have zz32_h : (w7 3 8).toInt ≤ 2147483647 := Int32.toInt_le (w7 3 8)
        exact sf_some (show (Inv g w7) ∧ ((w7 3 2).toInt = (w7 3 2).toInt) ∧ ((w7 3 4).toInt = (w7 3 4).toInt) ∧ ((w7 3 8).toInt = (w7 3 8).toInt) from ⟨hIw7, rfl, rfl, rfl⟩)
      · have rc21_ : ¬ r8.toInt = 0 := by rw [i_eq_iff] at c21_; omega
        refine sf_rd (by omega) (by omega) (fun x10 ex10 => ?_)
        have zz33_l : -2147483648 ≤ x10.toInt := Int32.le_toInt x10
        have zz33_h : x10.toInt ≤ 2147483647 := Int32.toInt_le x10
        refine sf_bind (sf_X3_takeUp x10 w7 hIw7) (fun w11 hqw11 hpw11 => ?_)
        have hIw11 := hpw11
        have k34_ : (w7 3 2).toInt = ((w3 3 2) + t6).toInt := by rw [ew7, wu_at]
        have zz35_l : -2147483648 ≤ (w7 3 2).toInt := Int32.le_toInt (w7 3 2)
        have zz35_h : (w7 3 2).toInt ≤ 2147483647 := Int32.toInt_le (w7 3 2)
        have k36_ : (w11 3 2).toInt = (w7 3 2).toInt := congrArg Int32.toInt (fr_X3_takeUp x10 w7 w11 hqw11 3 2 (by omega))
        have zz37_l : -2147483648 ≤ (w11 3 2).toInt := Int32.le_toInt (w11 3 2)
        have zz37_h : (w11 3 2).toInt ≤ 2147483647 := Int32.toInt_le (w11 3 2)
        have zz38_l : -2147483648 ≤ (w1 3 4).toInt := Int32.le_toInt (w1 3 4)
        have zz38_h : (w1 3 4).toInt ≤ 2147483647 := Int32.toInt_le (w1 3 4)
        have k39_ : (w3 3 4).toInt = (w1 3 4).toInt := by rw [ew3, wu_ne (by omega)]
        have zz40_l : -2147483648 ≤ (w3 3 4).toInt := Int32.le_toInt (w3 3 4)
        have zz40_h : (w3 3 4).toInt ≤ 2147483647 := Int32.toInt_le (w3 3 4)
        have k41_ : (w7 3 4).toInt = (w3 3 4).toInt := by rw [ew7, wu_ne (by omega)]
        have zz42_l : -2147483648 ≤ (w7 3 4).toInt := Int32.le_toInt (w7 3 4)
        have zz42_h : (w7 3 4).toInt ≤ 2147483647 := Int32.toInt_le (w7 3 4)
        have k43_ : (w11 3 4).toInt = (w7 3 4).toInt := congrArg Int32.toInt (fr_X3_takeUp x10 w7 w11 hqw11 3 4 (by omega))
        have zz44_l : -2147483648 ≤ (w11 3 4).toInt := Int32.le_toInt (w11 3 4)
        have zz44_h : (w11 3 4).toInt ≤ 2147483647 := Int32.toInt_le (w11 3 4)
        have k45_ : (w3 3 8).toInt = ((w1 3 8) ||| ((1 : Int32) <<< ((w 3 4) &&& 31))).toInt := by rw [ew3, wu_at]
        have zz46_l : -2147483648 ≤ (w3 3 8).toInt := Int32.le_toInt (w3 3 8)
        have zz46_h : (w3 3 8).toInt ≤ 2147483647 := Int32.toInt_le (w3 3 8)
        have k47_ : (w7 3 8).toInt = (w3 3 8).toInt := by rw [ew7, wu_ne (by omega)]
        have zz48_l : -2147483648 ≤ (w7 3 8).toInt := Int32.le_toInt (w7 3 8)
        have zz48_h : (w7 3 8).toInt ≤ 2147483647 := Int32.toInt_le (w7 3 8)
        have k49_ : (w11 3 8).toInt = (w7 3 8).toInt := congrArg Int32.toInt (fr_X3_takeUp x10 w7 w11 hqw11 3 8 (by omega))
        have zz50_l : -2147483648 ≤ (w11 3 8).toInt := Int32.le_toInt (w11 3 8)
        have zz50_h : (w11 3 8).toInt ≤ 2147483647 := Int32.toInt_le (w11 3 8)
        exact sf_some (show (Inv g w11) ∧ ((w11 3 2).toInt = (w7 3 2).toInt) ∧ ((w11 3 4).toInt = (w7 3 4).toInt) ∧ ((w11 3 8).toInt = (w7 3 8).toInt) from ⟨hIw11, by omega, by omega, by omega⟩)
    · obtain ⟨hIv9, hvv9_1, hvv9_2, hvv9_3⟩ := hvv9
      have k51_ : (w7 3 2).toInt = ((w3 3 2) + t6).toInt := by rw [ew7, wu_at]
      have zz52_l : -2147483648 ≤ (w7 3 2).toInt := Int32.le_toInt (w7 3 2)
      have zz52_h : (w7 3 2).toInt ≤ 2147483647 := Int32.toInt_le (w7 3 2)
      have zz53_l : -2147483648 ≤ (v9 3 2).toInt := Int32.le_toInt (v9 3 2)
      have zz53_h : (v9 3 2).toInt ≤ 2147483647 := Int32.toInt_le (v9 3 2)
      have zz54_l : -2147483648 ≤ (w1 3 4).toInt := Int32.le_toInt (w1 3 4)
      have zz54_h : (w1 3 4).toInt ≤ 2147483647 := Int32.toInt_le (w1 3 4)
      have k55_ : (w3 3 4).toInt = (w1 3 4).toInt := by rw [ew3, wu_ne (by omega)]
      have zz56_l : -2147483648 ≤ (w3 3 4).toInt := Int32.le_toInt (w3 3 4)
      have zz56_h : (w3 3 4).toInt ≤ 2147483647 := Int32.toInt_le (w3 3 4)
      have k57_ : (w7 3 4).toInt = (w3 3 4).toInt := by rw [ew7, wu_ne (by omega)]
      have zz58_l : -2147483648 ≤ (w7 3 4).toInt := Int32.le_toInt (w7 3 4)
      have zz58_h : (w7 3 4).toInt ≤ 2147483647 := Int32.toInt_le (w7 3 4)
      have zz59_l : -2147483648 ≤ (v9 3 4).toInt := Int32.le_toInt (v9 3 4)
      have zz59_h : (v9 3 4).toInt ≤ 2147483647 := Int32.toInt_le (v9 3 4)
      have k60_ : (w3 3 8).toInt = ((w1 3 8) ||| ((1 : Int32) <<< ((w 3 4) &&& 31))).toInt := by rw [ew3, wu_at]
      have zz61_l : -2147483648 ≤ (w3 3 8).toInt := Int32.le_toInt (w3 3 8)
      have zz61_h : (w3 3 8).toInt ≤ 2147483647 := Int32.toInt_le (w3 3 8)
      have k62_ : (w7 3 8).toInt = (w3 3 8).toInt := by rw [ew7, wu_ne (by omega)]
      have zz63_l : -2147483648 ≤ (w7 3 8).toInt := Int32.le_toInt (w7 3 8)
      have zz63_h : (w7 3 8).toInt ≤ 2147483647 := Int32.toInt_le (w7 3 8)
      have zz64_l : -2147483648 ≤ (v9 3 8).toInt := Int32.le_toInt (v9 3 8)
      have zz64_h : (v9 3 8).toInt ≤ 2147483647 := Int32.toInt_le (v9 3 8)
      exact sf_some (show (Inv g v9) from hIv9)
set_option maxRecDepth 20000 in
set_option maxHeartbeats 2000000 in
theorem sf_X3_follows {g : Nat → Int} (b1 : Nat) (hb1 : BrO b1) (a2 : Int32) (w : Mem) (hI : Inv g w) : Sf (fun (q : Int32) => (0 ≤ q.toInt ∧ q.toInt ≤ 1)) (f_X3_follows b1 a2 w) := by
  have hbb_b1 : b1 = 112 ∨ b1 = 119 := hb1
  obtain ⟨hg0, hg1⟩ := hI.1
  unfold f_X3_follows
  have zz1_l : -2147483648 ≤ (w 3 6).toInt := Int32.le_toInt (w 3 6)
  have zz1_h : (w 3 6).toInt ≤ 2147483647 := Int32.toInt_le (w 3 6)
  refine sf_bind (sf_X1_hasMatter b1 hb1 (w 3 6) w hI) (fun r1 hqr1 hpr1 => ?_)
  obtain ⟨hpr1_0, hpr1_1⟩ := hpr1
  have l_0 : (0 : Int32).toInt = 0 := by decide
  refine sf_ite (fun c2_ => ?_) (fun c2_ => ?_)
  · have rc2_ : r1.toInt = 0 := by rw [i_eq_iff] at c2_; omega
    have l_1 : (1 : Int32).toInt = 1 := by decide
    exact sf_some (show (0 ≤ (1 : Int32).toInt ∧ (1 : Int32).toInt ≤ 1) from by omega)
  · have rc2_ : ¬ r1.toInt = 0 := by rw [i_eq_iff] at c2_; omega
    refine sf_rd (by omega) (by omega) (fun x2 ex2 => ?_)
    have zz3_l : -2147483648 ≤ x2.toInt := Int32.le_toInt x2
    have zz3_h : x2.toInt ≤ 2147483647 := Int32.toInt_le x2
    have zz4_l : -2147483648 ≤ a2.toInt := Int32.le_toInt a2
    have zz4_h : a2.toInt ≤ 2147483647 := Int32.toInt_le a2
    refine sf_bind (sf_X9_holds x2 a2) (fun r3 hqr3 hpr3 => ?_)
    have hpr3_0 := hpr3
    refine sf_ite (fun c5_ => ?_) (fun c5_ => ?_)
    · have rc5_ : r3.toInt = 0 := by rw [i_eq_iff] at c5_; omega
      exact sf_some (show (0 ≤ (0 : Int32).toInt ∧ (0 : Int32).toInt ≤ 1) from by omega)
    · have rc5_ : ¬ r3.toInt = 0 := by rw [i_eq_iff] at c5_; omega
      have l_1 : (1 : Int32).toInt = 1 := by decide
      exact sf_some (show (0 ≤ (1 : Int32).toInt ∧ (1 : Int32).toInt ≤ 1) from by omega)
set_option maxRecDepth 20000 in
set_option maxHeartbeats 2000000 in
theorem sf_X3_passMinutes {g : Nat → Int} (b1 : Nat) (hb1 : BrO b1) (a2 : Int32) (w : Mem) (hI : Inv g w) : Sf (fun (q : Mem) => (Inv g q)) (f_X3_passMinutes b1 a2 w) := by
  have hbb_b1 : b1 = 112 ∨ b1 = 119 := hb1
  obtain ⟨hg0, hg1⟩ := hI.1
  unfold f_X3_passMinutes
  have zz1_l : -2147483648 ≤ (w 3 0).toInt := Int32.le_toInt (w 3 0)
  have zz1_h : (w 3 0).toInt ≤ 2147483647 := Int32.toInt_le (w 3 0)
  have zz2_l : -2147483648 ≤ a2.toInt := Int32.le_toInt a2
  have zz2_h : a2.toInt ≤ 2147483647 := Int32.toInt_le a2
  refine sf_pw (fun w1 ew1 => ?_)
  have hIw1 : Inv g w1 := by rw [ew1]; exact uq_3_0 hI
  refine sf_bind (Q := fun (v10 : Mem) => (Inv g v10) ∧ ((v10 3 0).toInt = (w1 3 0).toInt) ∧ ((v10 b1 3).toInt = (w1 b1 3).toInt)) ?_ (fun v10 hqv10 hvv10 => ?_)
  · have l_0 : (0 : Int32).toInt = 0 := by decide
    have k3_ : (w1 3 0).toInt = ((w 3 0) + a2).toInt := by rw [ew1, wu_at]
    have zz4_l : -2147483648 ≤ (w1 3 0).toInt := Int32.le_toInt (w1 3 0)
    have zz4_h : (w1 3 0).toInt ≤ 2147483647 := Int32.toInt_le (w1 3 0)
    have h5_ : 0 ≤ (w1 b1 3).toInt ∧ (w1 b1 3).toInt ≤ 6 := ivX1_3 hb1 hIw1
    have h6_ : 0 ≤ (w b1 3).toInt ∧ (w b1 3).toInt ≤ 6 := ivX1_3 hb1 hI
    have k7_ : (w1 b1 3).toInt = (w b1 3).toInt := by rw [ew1, wu_ne (by omega)]
    refine sf_lp (fun (s12 : (Int32 × Mem)) => (Inv g s12.2) ∧ (0 ≤ s12.1.toInt) ∧ (s12.1.toInt ≤ 6) ∧ ((s12.2 3 0).toInt = (w1 3 0).toInt) ∧ ((s12.2 b1 3).toInt = (w1 b1 3).toInt)) (fun (s12 : (Int32 × Mem)) => (7 - s12.1.toInt).toNat) (fun s12 hss12 => ?_) _ _ (show (Inv g w1) ∧ (0 ≤ (0 : Int32).toInt) ∧ ((0 : Int32).toInt ≤ 6) ∧ ((w1 3 0).toInt = (w1 3 0).toInt) ∧ ((w1 b1 3).toInt = (w1 b1 3).toInt) from ⟨hIw1, by omega, by omega, rfl, rfl⟩) (show (7 - (0 : Int32).toInt).toNat < 5000000000 from by omega)
    obtain ⟨hIs12, hss12_1, hss12_2, hss12_3, hss12_4⟩ := hss12
    refine (?_ : Sf (lpP _ _ (7 - s12.1.toInt).toNat _) _)
    have zz8_l : -2147483648 ≤ (s12.2 3 0).toInt := Int32.le_toInt (s12.2 3 0)
    have zz8_h : (s12.2 3 0).toInt ≤ 2147483647 := Int32.toInt_le (s12.2 3 0)
    have h9_ : 0 ≤ (s12.2 b1 3).toInt ∧ (s12.2 b1 3).toInt ≤ 6 := ivX1_3 hb1 hIs12
    refine sf_ite (fun c10_ => ?_) (fun c10_ => ?_)
    · have rc10_ : s12.1.toInt < (s12.2 b1 3).toInt := by rw [Int32.lt_iff_toInt_lt] at c10_; omega
      have zz11_l : -2147483648 ≤ (s12.2 3 7).toInt := Int32.le_toInt (s12.2 3 7)
      have zz11_h : (s12.2 3 7).toInt ≤ 2147483647 := Int32.toInt_le (s12.2 3 7)
      refine sf_bind (sf_X9_holds (s12.2 3 7) s12.1) (fun r2 hqr2 hpr2 => ?_)
      have hpr2_0 := hpr2
      refine sf_bind (Q := fun (v3 : Mem) => (Inv g v3) ∧ ((v3 3 0).toInt = (s12.2 3 0).toInt) ∧ ((v3 b1 3).toInt = (s12.2 b1 3).toInt)) ?_ (fun v3 hqv3 hvv3 => ?_)
      · refine sf_ite (fun c12_ => ?_) (fun c12_ => ?_)
        · have rc12_ : r2.toInt = 0 := by rw [i_eq_iff] at c12_; omega
          exact sf_some (show (Inv g s12.2) ∧ ((s12.2 3 0).toInt = (s12.2 3 0).toInt) ∧ ((s12.2 b1 3).toInt = (s12.2 b1 3).toInt) from ⟨hIs12, rfl, rfl⟩)
        · have rc12_ : ¬ r2.toInt = 0 := by rw [i_eq_iff] at c12_; omega
          refine sf_bind (sf_X1_mostWaiting b1 hb1 s12.1 s12.2 hIs12) (fun r4 hqr4 hpr4 => ?_)
          refine sf_rd (by omega) (by omega) (fun x5 ex5 => ?_)
          have zz13_l : -2147483648 ≤ x5.toInt := Int32.le_toInt x5
          have zz13_h : x5.toInt ≤ 2147483647 := Int32.toInt_le x5
          have zz14_l : -2147483648 ≤ r4.toInt := Int32.le_toInt r4
          have zz14_h : r4.toInt ≤ 2147483647 := Int32.toInt_le r4
          have l_1 : (1 : Int32).toInt = 1 := by decide
          have e15_ : ((if (r4 + (1 : Int32)) < (x5 + a2) then (r4 + (1 : Int32)) else (x5 + a2)).toInt = (x5 + a2).toInt ∨ (if (r4 + (1 : Int32)) < (x5 + a2) then (r4 + (1 : Int32)) else (x5 + a2)).toInt = (r4 + (1 : Int32)).toInt) ∧ (if (r4 + (1 : Int32)) < (x5 + a2) then (r4 + (1 : Int32)) else (x5 + a2)).toInt ≤ (x5 + a2).toInt ∧ (if (r4 + (1 : Int32)) < (x5 + a2) then (r4 + (1 : Int32)) else (x5 + a2)).toInt ≤ (r4 + (1 : Int32)).toInt := i_min _ _
          refine sf_wr (by omega) (by omega) (fun w6 ew6 => ?_)
          have n16_ : (s12.1.toNatClampNeg : Int) = s12.1.toInt := i_clq (by omega)
          have hIw6 : Inv g w6 := by rw [ew6]; exact ub_4 hIs12
          refine sf_rd (by omega) (by omega) (fun x7 ex7 => ?_)
          have zz17_l : -2147483648 ≤ x7.toInt := Int32.le_toInt x7
          have zz17_h : x7.toInt ≤ 2147483647 := Int32.toInt_le x7
          refine sf_ite (fun c18_ => ?_) (fun c18_ => ?_)
          · have rc18_ : x7.toInt < (r4 + (1 : Int32)).toInt := by rw [Int32.lt_iff_toInt_lt] at c18_; omega
            have k19_ : (w6 3 0).toInt = (s12.2 3 0).toInt := by rw [ew6, wu_ne (by omega)]
            have zz20_l : -2147483648 ≤ (w6 3 0).toInt := Int32.le_toInt (w6 3 0)
            have zz20_h : (w6 3 0).toInt ≤ 2147483647 := Int32.toInt_le (w6 3 0)
            have h21_ : 0 ≤ (w6 b1 3).toInt ∧ (w6 b1 3).toInt ≤ 6 := ivX1_3 hb1 hIw6
            have k22_ : (w6 b1 3).toInt = (s12.2 b1 3).toInt := by rw [ew6, wu_ne (by omega)]
            exact sf_some (show (Inv g w6) ∧ ((w6 3 0).toInt = (s12.2 3 0).toInt) ∧ ((w6 b1 3).toInt = (s12.2 b1 3).toInt) from ⟨hIw6, by omega, by omega⟩)
          · have rc18_ : ¬ x7.toInt < (r4 + (1 : Int32)).toInt := by rw [Int32.lt_iff_toInt_lt] at c18_; omega
            have k23_ : (w6 3 7).toInt = (s12.2 3 7).toInt := by rw [ew6, wu_ne (by omega)]
            have zz24_l : -2147483648 ≤ (w6 3 7).toInt := Int32.le_toInt (w6 3 7)
            have zz24_h : (w6 3 7).toInt ≤ 2147483647 := Int32.toInt_le (w6 3 7)
            refine sf_pw (fun w8 ew8 => ?_)
            have hIw8 : Inv g w8 := by rw [ew8]; exact uq_3_7 hIw6
            have zz25_l : -2147483648 ≤ (s12.2 3 9).toInt := Int32.le_toInt (s12.2 3 9)
            have zz25_h : (s12.2 3 9).toInt ≤ 2147483647 := Int32.toInt_le (s12.2 3 9)
            have k26_ : (w6 3 9).toInt = (s12.2 3 9).toInt := by rw [ew6, wu_ne (by omega)]
            have zz27_l : -2147483648 ≤ (w6 3 9).toInt := Int32.le_toInt (w6 3 9)
            have zz27_h : (w6 3 9).toInt ≤ 2147483647 := Int32.toInt_le (w6 3 9)
            have k28_ : (w8 3 9).toInt = (w6 3 9).toInt := by rw [ew8, wu_ne (by omega)]
            have zz29_l : -2147483648 ≤ (w8 3 9).toInt := Int32.le_toInt (w8 3 9)
            have zz29_h : (w8 3 9).toInt ≤ 2147483647 := Int32.toInt_le (w8 3 9)
            have e30_ : 1 ≤ ((1 : Int32) <<< (s12.1 &&& 31)).toInt ∧ ((1 : Int32) <<< (s12.1 &&& 31)).toInt ≤ 32 := i_shl1 (k := 5) (by decide) (by omega) (show _ ≤ 5 from by omega)
            refine sf_pw (fun w9 ew9 => ?_)
            have hIw9 : Inv g w9 := by rw [ew9]; exact uq_3_9 hIw8
            have k31_ : (w6 3 0).toInt = (s12.2 3 0).toInt := by rw [ew6, wu_ne (by omega)]
            have zz32_l : -2147483648 ≤ (w6 3 0).toInt := Int32.le_toInt (w6 3 0)
            have zz32_h : (w6 3 0).toInt ≤ 2147483647 := Int32.toInt_le (w6 3 0)
            have k33_ : (w8 3 0).toInt = (w6 3 0).toInt := by rw [ew8, wu_ne (by omega)]
            have zz34_l : -2147483648 ≤ (w8 3 0).toInt := Int32.le_toInt (w8 3 0)
            have zz34_h : (w8 3 0).toInt ≤ 2147483647 := Int32.toInt_le (w8 3 0)
            have k35_ : (w9 3 0).toInt = (w8 3 0).toInt := by rw [ew9, wu_ne (by omega)]
            have zz36_l : -2147483648 ≤ (w9 3 0).toInt := Int32.le_toInt (w9 3 0)
            have zz36_h : (w9 3 0).toInt ≤ 2147483647 := Int32.toInt_le (w9 3 0)
            have h37_ : 0 ≤ (w9 b1 3).toInt ∧ (w9 b1 3).toInt ≤ 6 := ivX1_3 hb1 hIw9
            have h38_ : 0 ≤ (w8 b1 3).toInt ∧ (w8 b1 3).toInt ≤ 6 := ivX1_3 hb1 hIw8
            have h39_ : 0 ≤ (w6 b1 3).toInt ∧ (w6 b1 3).toInt ≤ 6 := ivX1_3 hb1 hIw6
            have k40_ : (w6 b1 3).toInt = (s12.2 b1 3).toInt := by rw [ew6, wu_ne (by omega)]
            have k41_ : (w8 b1 3).toInt = (w6 b1 3).toInt := by rw [ew8, wu_ne (by omega)]
            have k42_ : (w9 b1 3).toInt = (w8 b1 3).toInt := by rw [ew9, wu_ne (by omega)]
            exact sf_some (show (Inv g w9) ∧ ((w9 3 0).toInt = (s12.2 3 0).toInt) ∧ ((w9 b1 3).toInt = (s12.2 b1 3).toInt) from ⟨hIw9, by omega, by omega⟩)
      · obtain ⟨hIv3, hvv3_1, hvv3_2⟩ := hvv3
        have zz43_l : -2147483648 ≤ (v3 3 0).toInt := Int32.le_toInt (v3 3 0)
        have zz43_h : (v3 3 0).toInt ≤ 2147483647 := Int32.toInt_le (v3 3 0)
        have h44_ : 0 ≤ (v3 b1 3).toInt ∧ (v3 b1 3).toInt ≤ 6 := ivX1_3 hb1 hIv3
        have l_1 : (1 : Int32).toInt = 1 := by decide
        have e45_ : (s12.1 + (1 : Int32)).toInt = s12.1.toInt + (1 : Int32).toInt := i_add (by omega) (by omega)
        exact sf_some (show ((Inv g v3) ∧ (0 ≤ (s12.1 + (1 : Int32)).toInt) ∧ ((s12.1 + (1 : Int32)).toInt ≤ 6) ∧ ((v3 3 0).toInt = (w1 3 0).toInt) ∧ ((v3 b1 3).toInt = (w1 b1 3).toInt)) ∧ (7 - (s12.1 + (1 : Int32)).toInt).toNat < (7 - s12.1.toInt).toNat from ⟨⟨hIv3, by omega, by omega, by omega, by omega⟩, by omega⟩)
    · have rc10_ : ¬ s12.1.toInt < (s12.2 b1 3).toInt := by rw [Int32.lt_iff_toInt_lt] at c10_; omega
      exact sf_some (show (Inv g s12.2) ∧ ((s12.2 3 0).toInt = (w1 3 0).toInt) ∧ ((s12.2 b1 3).toInt = (w1 b1 3).toInt) from ⟨hIs12, by omega, by omega⟩)
  · obtain ⟨hIv10, hvv10_1, hvv10_2⟩ := hvv10
    have k46_ : (w1 3 0).toInt = ((w 3 0) + a2).toInt := by rw [ew1, wu_at]
    have zz47_l : -2147483648 ≤ (w1 3 0).toInt := Int32.le_toInt (w1 3 0)
    have zz47_h : (w1 3 0).toInt ≤ 2147483647 := Int32.toInt_le (w1 3 0)
    have zz48_l : -2147483648 ≤ (v10 3 0).toInt := Int32.le_toInt (v10 3 0)
    have zz48_h : (v10 3 0).toInt ≤ 2147483647 := Int32.toInt_le (v10 3 0)
    have h49_ : 0 ≤ (w1 b1 3).toInt ∧ (w1 b1 3).toInt ≤ 6 := ivX1_3 hb1 hIw1
    have h50_ : 0 ≤ (w b1 3).toInt ∧ (w b1 3).toInt ≤ 6 := ivX1_3 hb1 hI
    have k51_ : (w1 b1 3).toInt = (w b1 3).toInt := by rw [ew1, wu_ne (by omega)]
    have h52_ : 0 ≤ (v10 b1 3).toInt ∧ (v10 b1 3).toInt ≤ 6 := ivX1_3 hb1 hIv10
    exact sf_some (show (Inv g v10) from hIv10)
set_option maxRecDepth 20000 in
set_option maxHeartbeats 2000000 in
theorem sf_X3_hear {g : Nat → Int} (b1 : Nat) (hb1 : BrO b1) (a2 : Int32) (w : Mem) (hI : Inv g w) : Sf (fun (q : Int32 × Mem) => (Inv g q.2)) (f_X3_hear b1 a2 w) := by
  have hbb_b1 : b1 = 112 ∨ b1 = 119 := hb1
  obtain ⟨hg0, hg1⟩ := hI.1
  unfold f_X3_hear
  have zz1_l : -2147483648 ≤ (w 3 4).toInt := Int32.le_toInt (w 3 4)
  have zz1_h : (w 3 4).toInt ≤ 2147483647 := Int32.toInt_le (w 3 4)
  refine sf_bind (sf_X1_hasTraveller b1 hb1 (w 3 4) w hI) (fun r1 hqr1 hpr1 => ?_)
  obtain ⟨hpr1_0, hpr1_1⟩ := hpr1
  have l_0 : (0 : Int32).toInt = 0 := by decide
  refine sf_ite (fun c2_ => ?_) (fun c2_ => ?_)
  · have rc2_ : r1.toInt = 0 := by rw [i_eq_iff] at c2_; omega
    refine sf_bind (sf_X3_leaveSeat b1 hb1 w hI) (fun q2 hqq2 hpq2 => ?_)
    have hIq2 := hpq2
    have l_m1 : (-1 : Int32).toInt = -1 := by decide
    exact sf_some (show (Inv g q2.2) from hIq2)
  · have rc2_ : ¬ r1.toInt = 0 := by rw [i_eq_iff] at c2_; omega
    have zz3_l : -2147483648 ≤ a2.toInt := Int32.le_toInt a2
    have zz3_h : a2.toInt ≤ 2147483647 := Int32.toInt_le a2
    refine sf_bind (sf_X3_follows b1 hb1 a2 w hI) (fun r3 hqr3 hpr3 => ?_)
    have hpr3_0 := hpr3
    refine sf_ite (fun c4_ => ?_) (fun c4_ => ?_)
    · have rc4_ : r3.toInt = 0 := by rw [i_eq_iff] at c4_; omega
      refine sf_bind (sf_X3_leaveSeat b1 hb1 w hI) (fun q10 hqq10 hpq10 => ?_)
      have hIq10 := hpq10
      have l_m1 : (-1 : Int32).toInt = -1 := by decide
      exact sf_some (show (Inv g q10.2) from hIq10)
    · have rc4_ : ¬ r3.toInt = 0 := by rw [i_eq_iff] at c4_; omega
      refine sf_bind (sf_X1_stayOf b1 hb1 (w 3 4) a2 w hI) (fun r4 hqr4 hpr4 => ?_)
      have zz5_l : -2147483648 ≤ (w 3 5).toInt := Int32.le_toInt (w 3 5)
      have zz5_h : (w 3 5).toInt ≤ 2147483647 := Int32.toInt_le (w 3 5)
      have l_1 : (1 : Int32).toInt = 1 := by decide
      refine sf_pw (fun w5 ew5 => ?_)
      have hIw5 : Inv g w5 := by rw [ew5]; exact uq_3_5 hI
      refine sf_pw (fun w6 ew6 => ?_)
      have hIw6 : Inv g w6 := by rw [ew6]; exact uq_3_6 hIw5
      have k6_ : (w5 3 4).toInt = (w 3 4).toInt := by rw [ew5, wu_ne (by omega)]
      have k7_ : (w6 3 4).toInt = (w5 3 4).toInt := by rw [ew6, wu_ne (by omega)]
      refine sf_rd (by omega) (by omega) (fun x7 ex7 => ?_)
      have zz8_l : -2147483648 ≤ x7.toInt := Int32.le_toInt x7
      have zz8_h : x7.toInt ≤ 2147483647 := Int32.toInt_le x7
      have zz9_l : -2147483648 ≤ r4.toInt := Int32.le_toInt r4
      have zz9_h : r4.toInt ≤ 2147483647 := Int32.toInt_le r4
      refine sf_wr (by omega) (by omega) (fun w8 ew8 => ?_)
      have n10_ : ((w6 3 4).toNatClampNeg : Int) = (w6 3 4).toInt := i_clq (by omega)
      have hIw8 : Inv g w8 := by rw [ew8]; exact ub_5 hIw6
      refine sf_bind (sf_X3_passMinutes b1 hb1 r4 w8 hIw8) (fun w9 hqw9 hpw9 => ?_)
      have hIw9 := hpw9
      exact sf_some (show (Inv g w9) from hIw9)
set_option maxRecDepth 20000 in
set_option maxHeartbeats 2000000 in
theorem sf_X9_tell {g : Nat → Int} (a1 : Int32) (w : Mem) (hI : Inv g w) : Sf (fun (q : Int32 × Mem) => (Inv g q.2)) (f_X9_tell a1 w) := by
  obtain ⟨hg0, hg1⟩ := hI.1
  unfold f_X9_tell
  have zz1_l : -2147483648 ≤ a1.toInt := Int32.le_toInt a1
  have zz1_h : a1.toInt ≤ 2147483647 := Int32.toInt_le a1
  refine sf_bind (sf_X1_hasMatter (brp (w 0 8)) (brp_ok (w 0 8)) a1 w hI) (fun r1 hqr1 hpr1 => ?_)
  obtain ⟨hpr1_0, hpr1_1⟩ := hpr1
  have l_0 : (0 : Int32).toInt = 0 := by decide
  refine sf_ite (fun c2_ => ?_) (fun c2_ => ?_)
  · have rc2_ : r1.toInt = 0 := by rw [i_eq_iff] at c2_; omega
    have l_m1000000001 : (-1000000001 : Int32).toInt = -1000000001 := by decide
    exact sf_some (show (Inv g w) from hI)
  · have rc2_ : ¬ r1.toInt = 0 := by rw [i_eq_iff] at c2_; omega
    refine sf_bind (sf_X3_canHear a1 w hI) (fun r2 hqr2 hpr2 => ?_)
    have hpr2_0 := hpr2
    refine sf_ite (fun c3_ => ?_) (fun c3_ => ?_)
    · have rc3_ : r2.toInt = 0 := by rw [i_eq_iff] at c3_; omega
      have l_m1000000003 : (-1000000003 : Int32).toInt = -1000000003 := by decide
      exact sf_some (show (Inv g w) from hI)
    · have rc3_ : ¬ r2.toInt = 0 := by rw [i_eq_iff] at c3_; omega
      refine sf_bind (sf_X6_remember  w hI) (fun w3 hqw3 hpw3 => ?_)
      have hIw3 := hpw3
      refine sf_bind (sf_X3_hear (brp (w3 0 8)) (brp_ok (w3 0 8)) a1 w3 hIw3) (fun q4 hqq4 hpq4 => ?_)
      have hIq4 := hpq4
      have zz4_l : -2147483648 ≤ q4.1.toInt := Int32.le_toInt q4.1
      have zz4_h : q4.1.toInt ≤ 2147483647 := Int32.toInt_le q4.1
      exact sf_some (show (Inv g q4.2) from hIq4)
set_option maxRecDepth 20000 in
set_option maxHeartbeats 2000000 in
theorem sf_X9_rise {g : Nat → Int} (w : Mem) (hI : Inv g w) : Sf (fun (q : Int32 × Mem) => (Inv g q.2)) (f_X9_rise w) := by
  obtain ⟨hg0, hg1⟩ := hI.1
  unfold f_X9_rise
  have zz1_l : -2147483648 ≤ (w 3 4).toInt := Int32.le_toInt (w 3 4)
  have zz1_h : (w 3 4).toInt ≤ 2147483647 := Int32.toInt_le (w 3 4)
  have l_m1 : (-1 : Int32).toInt = -1 := by decide
  refine sf_ite (fun c2_ => ?_) (fun c2_ => ?_)
  · have rc2_ : (w 3 4).toInt = -1 := by rw [i_eq_iff] at c2_; omega
    have l_m1000000003 : (-1000000003 : Int32).toInt = -1000000003 := by decide
    exact sf_some (show (Inv g w) from hI)
  · have rc2_ : ¬ (w 3 4).toInt = -1 := by rw [i_eq_iff] at c2_; omega
    refine sf_bind (sf_X6_remember  w hI) (fun w1 hqw1 hpw1 => ?_)
    have hIw1 := hpw1
    refine sf_bind (sf_X3_leaveSeat (brp (w1 0 8)) (brp_ok (w1 0 8)) w1 hIw1) (fun q2 hqq2 hpq2 => ?_)
    have hIq2 := hpq2
    have zz3_l : -2147483648 ≤ q2.1.toInt := Int32.le_toInt q2.1
    have zz3_h : q2.1.toInt ≤ 2147483647 := Int32.toInt_le q2.1
    exact sf_some (show (Inv g q2.2) from hIq2)
set_option maxRecDepth 20000 in
set_option maxHeartbeats 2000000 in
theorem sf_X9_learn {g : Nat → Int} (a1 : Int32) (w : Mem) (hI : Inv g w) : Sf (fun (q : Int32 × Mem) => (Inv g q.2)) (f_X9_learn a1 w) := by
  obtain ⟨hg0, hg1⟩ := hI.1
  unfold f_X9_learn
  have zz1_l : -2147483648 ≤ a1.toInt := Int32.le_toInt a1
  have zz1_h : a1.toInt ≤ 2147483647 := Int32.toInt_le a1
  refine sf_bind (sf_X1_hasMatter (brp (w 0 8)) (brp_ok (w 0 8)) a1 w hI) (fun r1 hqr1 hpr1 => ?_)
  obtain ⟨hpr1_0, hpr1_1⟩ := hpr1
  have l_0 : (0 : Int32).toInt = 0 := by decide
  refine sf_ite (fun c2_ => ?_) (fun c2_ => ?_)
  · have rc2_ : r1.toInt = 0 := by rw [i_eq_iff] at c2_; omega
    have l_m1000000001 : (-1000000001 : Int32).toInt = -1000000001 := by decide
    exact sf_some (show (Inv g w) from hI)
  · have rc2_ : ¬ r1.toInt = 0 := by rw [i_eq_iff] at c2_; omega
    have zz3_l : -2147483648 ≤ (w 3 3).toInt := Int32.le_toInt (w 3 3)
    have zz3_h : (w 3 3).toInt ≤ 2147483647 := Int32.toInt_le (w 3 3)
    refine sf_bind (sf_X9_holds (w 3 3) a1) (fun r2 hqr2 hpr2 => ?_)
    have hpr2_0 := hpr2
    refine sf_ite (fun c4_ => ?_) (fun c4_ => ?_)
    · have rc4_ : r2.toInt = 0 := by rw [i_eq_iff] at c4_; omega
      refine sf_bind (sf_X6_remember  w hI) (fun w3 hqw3 hpw3 => ?_)
      have hIw3 := hpw3
      have k5_ : (w3 3 3).toInt = (w 3 3).toInt := congrArg Int32.toInt (fr_X6_remember  w w3 hqw3 3 3 (by omega))
      have zz6_l : -2147483648 ≤ (w3 3 3).toInt := Int32.le_toInt (w3 3 3)
      have zz6_h : (w3 3 3).toInt ≤ 2147483647 := Int32.toInt_le (w3 3 3)
      have l_1 : (1 : Int32).toInt = 1 := by decide
      have e7_ : 1 ≤ ((1 : Int32) <<< (a1 &&& 31)).toInt ∧ ((1 : Int32) <<< (a1 &&& 31)).toInt ≤ 128 := i_shl1 (k := 7) (by decide) (by omega) (show _ ≤ 7 from by omega)
      refine sf_pw (fun w4 ew4 => ?_)
      have hIw4 : Inv g w4 := by rw [ew4]; exact uq_3_3 hIw3
      have l_60 : (60 : Int32).toInt = 60 := by decide
      refine sf_bind (sf_X3_passMinutes (brp (w4 0 8)) (brp_ok (w4 0 8)) (60 : Int32) w4 hIw4) (fun w5 hqw5 hpw5 => ?_)
      have hIw5 := hpw5
      have k8_ : (w4 3 3).toInt = ((w3 3 3) ||| ((1 : Int32) <<< (a1 &&& 31))).toInt := by rw [ew4, wu_at]
      have zz9_l : -2147483648 ≤ (w4 3 3).toInt := Int32.le_toInt (w4 3 3)
      have zz9_h : (w4 3 3).toInt ≤ 2147483647 := Int32.toInt_le (w4 3 3)
      have k10_ : (w5 3 3).toInt = (w4 3 3).toInt := congrArg Int32.toInt (fr_X3_passMinutes (brp (w4 0 8)) (brp_ok (w4 0 8)) (60 : Int32) w4 w5 hqw5 3 3 (by omega))
      have zz11_l : -2147483648 ≤ (w5 3 3).toInt := Int32.le_toInt (w5 3 3)
      have zz11_h : (w5 3 3).toInt ≤ 2147483647 := Int32.toInt_le (w5 3 3)
      refine sf_bind (sf_J6_bitCount_0f7a4 (w5 3 3)) (fun r6 hqr6 hpr6 => ?_)
      have zz12_l : -2147483648 ≤ r6.toInt := Int32.le_toInt r6
      have zz12_h : r6.toInt ≤ 2147483647 := Int32.toInt_le r6
      exact sf_some (show (Inv g w5) from hIw5)
    · have rc4_ : ¬ r2.toInt = 0 := by rw [i_eq_iff] at c4_; omega
      have l_m1000000003 : (-1000000003 : Int32).toInt = -1000000003 := by decide
      exact sf_some (show (Inv g w) from hI)
set_option maxRecDepth 20000 in
set_option maxHeartbeats 2000000 in
theorem sf_X9_minute {g : Nat → Int} (a1 : Int32) (w : Mem) (hI : Inv g w) : Sf (fun (q : Int32 × Mem) => (Inv g q.2)) (f_X9_minute a1 w) := by
  obtain ⟨hg0, hg1⟩ := hI.1
  unfold f_X9_minute
  have zz1_l : -2147483648 ≤ a1.toInt := Int32.le_toInt a1
  have zz1_h : a1.toInt ≤ 2147483647 := Int32.toInt_le a1
  have l_1 : (1 : Int32).toInt = 1 := by decide
  refine sf_ite (fun c2_ => ?_) (fun c2_ => ?_)
  · have rc2_ : a1.toInt < 1 := by rw [Int32.lt_iff_toInt_lt] at c2_; omega
    have l_m1000000002 : (-1000000002 : Int32).toInt = -1000000002 := by decide
    exact sf_some (show (Inv g w) from hI)
  · have rc2_ : ¬ a1.toInt < 1 := by rw [Int32.lt_iff_toInt_lt] at c2_; omega
    have l_60 : (60 : Int32).toInt = 60 := by decide
    refine sf_ite (fun c3_ => ?_) (fun c3_ => ?_)
    · have rc3_ : 60 < a1.toInt := by rw [Int32.lt_iff_toInt_lt] at c3_; omega
      have l_m1000000002 : (-1000000002 : Int32).toInt = -1000000002 := by decide
      exact sf_some (show (Inv g w) from hI)
    · have rc3_ : ¬ 60 < a1.toInt := by rw [Int32.lt_iff_toInt_lt] at c3_; omega
      refine sf_bind (sf_X1_isThere (brp (w 0 8)) (brp_ok (w 0 8)) w hI) (fun r1 hqr1 hpr1 => ?_)
      have hpr1_0 := hpr1
      have l_0 : (0 : Int32).toInt = 0 := by decide
      refine sf_ite (fun c4_ => ?_) (fun c4_ => ?_)
      · have rc4_ : r1.toInt = 0 := by rw [i_eq_iff] at c4_; omega
        have l_m1000000003 : (-1000000003 : Int32).toInt = -1000000003 := by decide
        exact sf_some (show (Inv g w) from hI)
      · have rc4_ : ¬ r1.toInt = 0 := by rw [i_eq_iff] at c4_; omega
        have l_900000 : (900000 : Int32).toInt = 900000 := by decide
        have zz5_l : -2147483648 ≤ (w 3 0).toInt := Int32.le_toInt (w 3 0)
        have zz5_h : (w 3 0).toInt ≤ 2147483647 := Int32.toInt_le (w 3 0)
        refine sf_ite (fun c6_ => ?_) (fun c6_ => ?_)
        · have rc6_ : 900000 < (w 3 0).toInt := by rw [Int32.lt_iff_toInt_lt] at c6_; omega
          have l_m1000000004 : (-1000000004 : Int32).toInt = -1000000004 := by decide
          exact sf_some (show (Inv g w) from hI)
        · have rc6_ : ¬ 900000 < (w 3 0).toInt := by rw [Int32.lt_iff_toInt_lt] at c6_; omega
          refine sf_bind (sf_X6_remember  w hI) (fun w2 hqw2 hpw2 => ?_)
          have hIw2 := hpw2
          refine sf_bind (sf_X3_passMinutes (brp (w2 0 8)) (brp_ok (w2 0 8)) a1 w2 hIw2) (fun w3 hqw3 hpw3 => ?_)
          have hIw3 := hpw3
          have zz7_l : -2147483648 ≤ (w3 3 0).toInt := Int32.le_toInt (w3 3 0)
          have zz7_h : (w3 3 0).toInt ≤ 2147483647 := Int32.toInt_le (w3 3 0)
          exact sf_some (show (Inv g w3) from hIw3)
set_option maxRecDepth 20000 in
set_option maxHeartbeats 2000000 in
theorem sf_X9_anew {g : Nat → Int} (w : Mem) (hI : Inv g w) : Sf (fun (q : Int32 × Mem) => (Inv g q.2)) (f_X9_anew w) := by
  obtain ⟨hg0, hg1⟩ := hI.1
  unfold f_X9_anew
  refine sf_bind (sf_X1_isThere (brp (w 0 8)) (brp_ok (w 0 8)) w hI) (fun r1 hqr1 hpr1 => ?_)
  have hpr1_0 := hpr1
  have l_0 : (0 : Int32).toInt = 0 := by decide
  refine sf_ite (fun c1_ => ?_) (fun c1_ => ?_)
  · have rc1_ : r1.toInt = 0 := by rw [i_eq_iff] at c1_; omega
    have l_m1000000003 : (-1000000003 : Int32).toInt = -1000000003 := by decide
    exact sf_some (show (Inv g w) from hI)
  · have rc1_ : ¬ r1.toInt = 0 := by rw [i_eq_iff] at c1_; omega
    have zz2_l : -2147483648 ≤ (w 3 1).toInt := Int32.le_toInt (w 3 1)
    have zz2_h : (w 3 1).toInt ≤ 2147483647 := Int32.toInt_le (w 3 1)
    have l_9000 : (9000 : Int32).toInt = 9000 := by decide
    refine sf_ite (fun c3_ => ?_) (fun c3_ => ?_)
    · have rc3_ : (w 3 1).toInt < 9000 := by rw [Int32.lt_iff_toInt_lt] at c3_; omega
      refine sf_bind (sf_X6_remember  w hI) (fun w2 hqw2 hpw2 => ?_)
      have hIw2 := hpw2
      have k4_ : (w2 3 1).toInt = (w 3 1).toInt := congrArg Int32.toInt (fr_X6_remember  w w2 hqw2 3 1 (by omega))
      have zz5_l : -2147483648 ≤ (w2 3 1).toInt := Int32.le_toInt (w2 3 1)
      have zz5_h : (w2 3 1).toInt ≤ 2147483647 := Int32.toInt_le (w2 3 1)
      have l_1 : (1 : Int32).toInt = 1 := by decide
      have e6_ : ((w2 3 1) + (1 : Int32)).toInt = (w2 3 1).toInt + (1 : Int32).toInt := i_add (by omega) (by omega)
      refine sf_pw (fun w3 ew3 => ?_)
      have hIw3 : Inv g w3 := by rw [ew3]; exact uq_3_1 hIw2
      refine sf_bind (sf_X3_gather (brp (w3 0 8)) (brp_ok (w3 0 8)) w3 hIw3) (fun w4 hqw4 hpw4 => ?_)
      have hIw4 := hpw4
      have zz7_l : -2147483648 ≤ (w4 3 1).toInt := Int32.le_toInt (w4 3 1)
      have zz7_h : (w4 3 1).toInt ≤ 2147483647 := Int32.toInt_le (w4 3 1)
      exact sf_some (show (Inv g w4) from hIw4)
    · have rc3_ : ¬ (w 3 1).toInt < 9000 := by rw [Int32.lt_iff_toInt_lt] at c3_; omega
      have l_m1000000004 : (-1000000004 : Int32).toInt = -1000000004 := by decide
      exact sf_some (show (Inv g w) from hI)
set_option maxRecDepth 20000 in
set_option maxHeartbeats 2000000 in
theorem sf_X9_drawOf {g : Nat → Int} (a1 : Int32) (w : Mem) (hI : Inv g w) : Sf (fun (q : Int32 × Mem) => (Inv g q.2)) (f_X9_drawOf a1 w) := by
  obtain ⟨hg0, hg1⟩ := hI.1
  unfold f_X9_drawOf
  refine sf_pw (fun w1 ew1 => ?_)
  have hIw1 : Inv g w1 := by rw [ew1]; exact uq_0_10 hI
  have zz1_l : -2147483648 ≤ a1.toInt := Int32.le_toInt a1
  have zz1_h : a1.toInt ≤ 2147483647 := Int32.toInt_le a1
  have l_1 : (1 : Int32).toInt = 1 := by decide
  refine sf_ite (fun c2_ => ?_) (fun c2_ => ?_)
  · have rc2_ : a1.toInt < 1 := by rw [Int32.lt_iff_toInt_lt] at c2_; omega
    have l_0 : (0 : Int32).toInt = 0 := by decide
    exact sf_some (show (Inv g w1) from hIw1)
  · have rc2_ : ¬ a1.toInt < 1 := by rw [Int32.lt_iff_toInt_lt] at c2_; omega
    have l_0 : (0 : Int32).toInt = 0 := by decide
    refine sf_nz (by rw [i_eq_iff]; omega) ?_
    have k3_ : (w1 0 10).toInt = (((((((w 0 10)).toInt64 * (1103515245 : Int64)) + (12345 : Int64)) - ((((w 0 10)).toInt64 * (1103515245 : Int64)) + (12345 : Int64)) / (2147483648 : Int64) * (2147483648 : Int64))).toInt32).toInt := by rw [ew1, wu_at]
    have zz4_l : -2147483648 ≤ (w1 0 10).toInt := Int32.le_toInt (w1 0 10)
    have zz4_h : (w1 0 10).toInt ≤ 2147483647 := Int32.toInt_le (w1 0 10)
    have l_65536 : (65536 : Int32).toInt = 65536 := by decide
    exact sf_some (show (Inv g w1) from hIw1)
set_option maxRecDepth 20000 in
set_option maxHeartbeats 2000000 in
theorem sf_X9_drawTelling {g : Nat → Int} (w : Mem) (hI : Inv g w) : Sf (fun (q : Mem) => (Inv g q)) (f_X9_drawTelling w) := by
  obtain ⟨hg0, hg1⟩ := hI.1
  unfold f_X9_drawTelling
  have l_4 : (4 : Int32).toInt = 4 := by decide
  refine sf_bind (sf_X9_drawOf (4 : Int32) w hI) (fun q1 hqq1 hpq1 => ?_)
  have hIq1 := hpq1
  have zz1_l : -2147483648 ≤ q1.1.toInt := Int32.le_toInt q1.1
  have zz1_h : q1.1.toInt ≤ 2147483647 := Int32.toInt_le q1.1
  have l_0 : (0 : Int32).toInt = 0 := by decide
  refine sf_ite (fun c2_ => ?_) (fun c2_ => ?_)
  · have rc2_ : q1.1.toInt = 0 := by rw [i_eq_iff] at c2_; omega
    refine sf_bind (sf_X3_leaveSeat (brp (q1.2 0 8)) (brp_ok (q1.2 0 8)) q1.2 hIq1) (fun q5 hqq5 hpq5 => ?_)
    have hIq5 := hpq5
    exact sf_some (show (Inv g q5.2) from hIq5)
  · have rc2_ : ¬ q1.1.toInt = 0 := by rw [i_eq_iff] at c2_; omega
    have h3_ : 0 ≤ (q1.2 (brp (q1.2 0 8)) 2).toInt ∧ (q1.2 (brp (q1.2 0 8)) 2).toInt ≤ 8 := ivX1_2 (brp_ok (q1.2 0 8)) hIq1
    refine sf_ite (fun c4_ => ?_) (fun c4_ => ?_)
    · have rc4_ : (q1.2 (brp (q1.2 0 8)) 2).toInt = 0 := by rw [i_eq_iff] at c4_; omega
      exact sf_some (show (Inv g q1.2) from hIq1)
    · have rc4_ : ¬ (q1.2 (brp (q1.2 0 8)) 2).toInt = 0 := by rw [i_eq_iff] at c4_; omega
      refine sf_bind (sf_X9_drawOf (q1.2 (brp (q1.2 0 8)) 2) q1.2 hIq1) (fun q2 hqq2 hpq2 => ?_)
      have hIq2 := hpq2
      have zz5_l : -2147483648 ≤ q2.1.toInt := Int32.le_toInt q2.1
      have zz5_h : q2.1.toInt ≤ 2147483647 := Int32.toInt_le q2.1
      refine sf_bind (sf_X3_canHear q2.1 q2.2 hIq2) (fun r3 hqr3 hpr3 => ?_)
      have hpr3_0 := hpr3
      refine sf_ite (fun c6_ => ?_) (fun c6_ => ?_)
      · have rc6_ : r3.toInt = 0 := by rw [i_eq_iff] at c6_; omega
        exact sf_some (show (Inv g q2.2) from hIq2)
      · have rc6_ : ¬ r3.toInt = 0 := by rw [i_eq_iff] at c6_; omega
        refine sf_bind (sf_X3_hear (brp (q2.2 0 8)) (brp_ok (q2.2 0 8)) q2.1 q2.2 hIq2) (fun q4 hqq4 hpq4 => ?_)
        have hIq4 := hpq4
        exact sf_some (show (Inv g q4.2) from hIq4)
set_option maxRecDepth 20000 in
set_option maxHeartbeats 2000000 in
theorem sf_X9_drawSeat {g : Nat → Int} (w : Mem) (hI : Inv g w) : Sf (fun (q : Mem) => (Inv g q)) (f_X9_drawSeat w) := by
  obtain ⟨hg0, hg1⟩ := hI.1
  unfold f_X9_drawSeat
  have h1_ : 0 ≤ (w (brp (w 0 8)) 3).toInt ∧ (w (brp (w 0 8)) 3).toInt ≤ 6 := ivX1_3 (brp_ok (w 0 8)) hI
  have l_0 : (0 : Int32).toInt = 0 := by decide
  refine sf_ite (fun c2_ => ?_) (fun c2_ => ?_)
  · have rc2_ : (w (brp (w 0 8)) 3).toInt = 0 := by rw [i_eq_iff] at c2_; omega
    exact sf_some (show (Inv g w) from hI)
  · have rc2_ : ¬ (w (brp (w 0 8)) 3).toInt = 0 := by rw [i_eq_iff] at c2_; omega
    refine sf_bind (sf_X9_drawOf (w (brp (w 0 8)) 3) w hI) (fun q1 hqq1 hpq1 => ?_)
    have hIq1 := hpq1
    have zz3_l : -2147483648 ≤ (w 3 7).toInt := Int32.le_toInt (w 3 7)
    have zz3_h : (w 3 7).toInt ≤ 2147483647 := Int32.toInt_le (w 3 7)
    have k4_ : (q1.2 3 7).toInt = (w 3 7).toInt := congrArg Int32.toInt (fr_X9_drawOf (w (brp (w 0 8)) 3) w q1 hqq1 3 7 (by omega))
    have zz5_l : -2147483648 ≤ (q1.2 3 7).toInt := Int32.le_toInt (q1.2 3 7)
    have zz5_h : (q1.2 3 7).toInt ≤ 2147483647 := Int32.toInt_le (q1.2 3 7)
    have zz6_l : -2147483648 ≤ q1.1.toInt := Int32.le_toInt q1.1
    have zz6_h : q1.1.toInt ≤ 2147483647 := Int32.toInt_le q1.1
    refine sf_bind (sf_X9_holds (q1.2 3 7) q1.1) (fun r2 hqr2 hpr2 => ?_)
    have hpr2_0 := hpr2
    refine sf_ite (fun c7_ => ?_) (fun c7_ => ?_)
    · have rc7_ : r2.toInt = 0 := by rw [i_eq_iff] at c7_; omega
      exact sf_some (show (Inv g q1.2) from hIq1)
    · have rc7_ : ¬ r2.toInt = 0 := by rw [i_eq_iff] at c7_; omega
      refine sf_bind (sf_X3_takeSeat q1.1 q1.2 hIq1) (fun w3 hqw3 hpw3 => ?_)
      have hIw3 := hpw3
      exact sf_some (show (Inv g w3) from hIw3)
set_option maxRecDepth 20000 in
set_option maxHeartbeats 2000000 in
theorem sf_X9_driftOnce {g : Nat → Int} (w : Mem) (hI : Inv g w) : Sf (fun (q : Mem) => (Inv g q)) (f_X9_driftOnce w) := by
  obtain ⟨hg0, hg1⟩ := hI.1
  unfold f_X9_driftOnce
  refine sf_bind (Q := fun (v1 : Mem) => (Inv g v1)) ?_ (fun v1 hqv1 hvv1 => ?_)
  · have zz1_l : -2147483648 ≤ (w 3 4).toInt := Int32.le_toInt (w 3 4)
    have zz1_h : (w 3 4).toInt ≤ 2147483647 := Int32.toInt_le (w 3 4)
    have l_m1 : (-1 : Int32).toInt = -1 := by decide
    refine sf_ite (fun c2_ => ?_) (fun c2_ => ?_)
    · have rc2_ : (w 3 4).toInt = -1 := by rw [i_eq_iff] at c2_; omega
      refine sf_bind (sf_X9_drawSeat  w hI) (fun w4 hqw4 hpw4 => ?_)
      have hIw4 := hpw4
      exact sf_some (show (Inv g w4) from hIw4)
    · have rc2_ : ¬ (w 3 4).toInt = -1 := by rw [i_eq_iff] at c2_; omega
      refine sf_bind (sf_X9_drawTelling  w hI) (fun w3 hqw3 hpw3 => ?_)
      have hIw3 := hpw3
      exact sf_some (show (Inv g w3) from hIw3)
  · have hIv1 := hvv1
    have l_1 : (1 : Int32).toInt = 1 := by decide
    refine sf_bind (sf_X3_passMinutes (brp (v1 0 8)) (brp_ok (v1 0 8)) (1 : Int32) v1 hIv1) (fun w2 hqw2 hpw2 => ?_)
    have hIw2 := hpw2
    exact sf_some (show (Inv g w2) from hIw2)
set_option maxRecDepth 20000 in
set_option maxHeartbeats 2000000 in
theorem sf_X9_drift {g : Nat → Int} (a1 : Int32) (w : Mem) (hI : Inv g w) : Sf (fun (q : Int32 × Mem) => (Inv g q.2)) (f_X9_drift a1 w) := by
  obtain ⟨hg0, hg1⟩ := hI.1
  unfold f_X9_drift
  have zz1_l : -2147483648 ≤ a1.toInt := Int32.le_toInt a1
  have zz1_h : a1.toInt ≤ 2147483647 := Int32.toInt_le a1
  have l_1 : (1 : Int32).toInt = 1 := by decide
  refine sf_ite (fun c2_ => ?_) (fun c2_ => ?_)
  · have rc2_ : a1.toInt < 1 := by rw [Int32.lt_iff_toInt_lt] at c2_; omega
    have l_m1000000002 : (-1000000002 : Int32).toInt = -1000000002 := by decide
    exact sf_some (show (Inv g w) from hI)
  · have rc2_ : ¬ a1.toInt < 1 := by rw [Int32.lt_iff_toInt_lt] at c2_; omega
    have l_30 : (30 : Int32).toInt = 30 := by decide
    refine sf_ite (fun c3_ => ?_) (fun c3_ => ?_)
    · have rc3_ : 30 < a1.toInt := by rw [Int32.lt_iff_toInt_lt] at c3_; omega
      have l_m1000000002 : (-1000000002 : Int32).toInt = -1000000002 := by decide
      exact sf_some (show (Inv g w) from hI)
    · have rc3_ : ¬ 30 < a1.toInt := by rw [Int32.lt_iff_toInt_lt] at c3_; omega
      refine sf_bind (sf_X1_isThere (brp (w 0 8)) (brp_ok (w 0 8)) w hI) (fun r1 hqr1 hpr1 => ?_)
      have hpr1_0 := hpr1
      have l_0 : (0 : Int32).toInt = 0 := by decide
      refine sf_ite (fun c4_ => ?_) (fun c4_ => ?_)
      · have rc4_ : r1.toInt = 0 := by rw [i_eq_iff] at c4_; omega
        have l_m1000000003 : (-1000000003 : Int32).toInt = -1000000003 := by decide
        exact sf_some (show (Inv g w) from hI)
      · have rc4_ : ¬ r1.toInt = 0 := by rw [i_eq_iff] at c4_; omega
        have l_900000 : (900000 : Int32).toInt = 900000 := by decide
        have zz5_l : -2147483648 ≤ (w 3 0).toInt := Int32.le_toInt (w 3 0)
        have zz5_h : (w 3 0).toInt ≤ 2147483647 := Int32.toInt_le (w 3 0)
        refine sf_ite (fun c6_ => ?_) (fun c6_ => ?_)
        · have rc6_ : 900000 < (w 3 0).toInt := by rw [Int32.lt_iff_toInt_lt] at c6_; omega
          have l_m1000000004 : (-1000000004 : Int32).toInt = -1000000004 := by decide
          exact sf_some (show (Inv g w) from hI)
        · have rc6_ : ¬ 900000 < (w 3 0).toInt := by rw [Int32.lt_iff_toInt_lt] at c6_; omega
          refine sf_bind (Q := fun (v4 : Mem) => (Inv g v4)) ?_ (fun v4 hqv4 hvv4 => ?_)
          · refine sf_lp (fun (s44 : (Int32 × Mem)) => (Inv g s44.2) ∧ (0 ≤ s44.1.toInt) ∧ (s44.1.toInt ≤ 30)) (fun (s44 : (Int32 × Mem)) => (31 - s44.1.toInt).toNat) (fun s44 hss44 => ?_) _ _ (show (Inv g w) ∧ (0 ≤ (0 : Int32).toInt) ∧ ((0 : Int32).toInt ≤ 30) from ⟨hI, by omega, by omega⟩) (show (31 - (0 : Int32).toInt).toNat < 5000000000 from by omega)
            obtain ⟨hIs44, hss44_1, hss44_2⟩ := hss44
            refine (?_ : Sf (lpP _ _ (31 - s44.1.toInt).toNat _) _)
            refine sf_ite (fun c7_ => ?_) (fun c7_ => ?_)
            · have rc7_ : s44.1.toInt < a1.toInt := by rw [Int32.lt_iff_toInt_lt] at c7_; omega
              refine sf_bind (sf_X6_remember  s44.2 hIs44) (fun w2 hqw2 hpw2 => ?_)
              have hIw2 := hpw2
              refine sf_bind (sf_X9_driftOnce  w2 hIw2) (fun w3 hqw3 hpw3 => ?_)
              have hIw3 := hpw3
              have e8_ : (s44.1 + (1 : Int32)).toInt = s44.1.toInt + (1 : Int32).toInt := i_add (by omega) (by omega)
              exact sf_some (show ((Inv g w3) ∧ (0 ≤ (s44.1 + (1 : Int32)).toInt) ∧ ((s44.1 + (1 : Int32)).toInt ≤ 30)) ∧ (31 - (s44.1 + (1 : Int32)).toInt).toNat < (31 - s44.1.toInt).toNat from ⟨⟨hIw3, by omega, by omega⟩, by omega⟩)
            · have rc7_ : ¬ s44.1.toInt < a1.toInt := by rw [Int32.lt_iff_toInt_lt] at c7_; omega
              exact sf_some (show (Inv g s44.2) from hIs44)
          · have hIv4 := hvv4
            have zz9_l : -2147483648 ≤ (v4 3 0).toInt := Int32.le_toInt (v4 3 0)
            have zz9_h : (v4 3 0).toInt ≤ 2147483647 := Int32.toInt_le (v4 3 0)
            exact sf_some (show (Inv g v4) from hIv4)
set_option maxRecDepth 20000 in
set_option maxHeartbeats 2000000 in
theorem sf_X6_takeBack {g : Nat → Int} (a1 : Int32) (w : Mem) (hI : Inv g w) : Sf (fun (q : Mem) => (Inv g q)) (f_X6_takeBack a1 w) := by
  obtain ⟨hg0, hg1⟩ := hI.1
  unfold f_X6_takeBack
  have zz1_l : -2147483648 ≤ a1.toInt := Int32.le_toInt a1
  have zz1_h : a1.toInt ≤ 2147483647 := Int32.toInt_le a1
  have l_1 : (1 : Int32).toInt = 1 := by decide
  refine sf_ite (fun c2_ => ?_) (fun c2_ => ?_)
  · have rc2_ : a1.toInt < 1 := by rw [Int32.lt_iff_toInt_lt] at c2_; omega
    exact sf_some (show (Inv g w) from hI)
  · have rc2_ : ¬ a1.toInt < 1 := by rw [Int32.lt_iff_toInt_lt] at c2_; omega
    have h3_ : 0 ≤ (w 6 1).toInt ∧ (w 6 1).toInt ≤ 30 := iv_6_1 hI
    refine sf_ite (fun c4_ => ?_) (fun c4_ => ?_)
    · have rc4_ : (w 6 1).toInt < a1.toInt := by rw [Int32.lt_iff_toInt_lt] at c4_; omega
      exact sf_some (show (Inv g w) from hI)
    · have rc4_ : ¬ (w 6 1).toInt < a1.toInt := by rw [Int32.lt_iff_toInt_lt] at c4_; omega
      have h5_ : 0 ≤ (w 6 2).toInt ∧ (w 6 2).toInt ≤ 29 := iv_6_2 hI
      have l_30 : (30 : Int32).toInt = 30 := by decide
      have e6_ : ((w 6 2) + (30 : Int32)).toInt = (w 6 2).toInt + (30 : Int32).toInt := i_add (by omega) (by omega)
      have e7_ : (((w 6 2) + (30 : Int32)) - a1).toInt = ((w 6 2) + (30 : Int32)).toInt - a1.toInt := i_sub (by omega) (by omega)
      have e8_ : ((((w 6 2) + (30 : Int32)) - a1) - (((w 6 2) + (30 : Int32)) - a1) / (30 : Int32) * (30 : Int32)).toInt = (((w 6 2) + (30 : Int32)) - a1).toInt % 30 := i_remk (by decide) (by decide) (by omega)
      refine sf_pw (fun w1 ew1 => ?_)
      have hIw1 : Inv g w1 := by rw [ew1]; exact up_6_2 hI (show 0 ≤ ((((w 6 2) + (30 : Int32)) - a1) - (((w 6 2) + (30 : Int32)) - a1) / (30 : Int32) * (30 : Int32)).toInt ∧ ((((w 6 2) + (30 : Int32)) - a1) - (((w 6 2) + (30 : Int32)) - a1) / (30 : Int32) * (30 : Int32)).toInt ≤ 29 from by omega)
      have h9_ : 0 ≤ (w1 6 1).toInt ∧ (w1 6 1).toInt ≤ 30 := iv_6_1 hIw1
      have k10_ : (w1 6 1).toInt = (w 6 1).toInt := by rw [ew1, wu_ne (by omega)]
      have e11_ : ((w1 6 1) - a1).toInt = (w1 6 1).toInt - a1.toInt := i_sub (by omega) (by omega)
      refine sf_pw (fun w2 ew2 => ?_)
      have hIw2 : Inv g w2 := by rw [ew2]; exact up_6_1 hIw1 (show 0 ≤ ((w1 6 1) - a1).toInt ∧ ((w1 6 1) - a1).toInt ≤ 30 from by omega)
      have h12_ : 0 ≤ (w2 6 2).toInt ∧ (w2 6 2).toInt ≤ 29 := iv_6_2 hIw2
      have h13_ : 0 ≤ (w1 6 2).toInt ∧ (w1 6 2).toInt ≤ 29 := iv_6_2 hIw1
      have k14_ : (w1 6 2).toInt = ((((w 6 2) + (30 : Int32)) - a1) - (((w 6 2) + (30 : Int32)) - a1) / (30 : Int32) * (30 : Int32)).toInt := by rw [ew1, wu_at]
      have k15_ : (w2 6 2).toInt = (w1 6 2).toInt := by rw [ew2, wu_ne (by omega)]
      refine sf_rg (by omega) (by omega) (fun o3 eo3 ho3 mo3 => ?_)
      refine sf_bind (sf_X3_copyFrom 3 (Or.inl rfl) o3 ho3 w2 hIw2) (fun w4 hqw4 hpw4 => ?_)
      have hIw4 := hpw4
      exact sf_some (show (Inv g w4) from hIw4)
set_option maxRecDepth 20000 in
set_option maxHeartbeats 2000000 in
theorem sf_X9_undo {g : Nat → Int} (a1 : Int32) (w : Mem) (hI : Inv g w) : Sf (fun (q : Int32 × Mem) => (Inv g q.2)) (f_X9_undo a1 w) := by
  obtain ⟨hg0, hg1⟩ := hI.1
  unfold f_X9_undo
  have zz1_l : -2147483648 ≤ a1.toInt := Int32.le_toInt a1
  have zz1_h : a1.toInt ≤ 2147483647 := Int32.toInt_le a1
  have l_1 : (1 : Int32).toInt = 1 := by decide
  refine sf_ite (fun c2_ => ?_) (fun c2_ => ?_)
  · have rc2_ : a1.toInt < 1 := by rw [Int32.lt_iff_toInt_lt] at c2_; omega
    have l_m1000000002 : (-1000000002 : Int32).toInt = -1000000002 := by decide
    exact sf_some (show (Inv g w) from hI)
  · have rc2_ : ¬ a1.toInt < 1 := by rw [Int32.lt_iff_toInt_lt] at c2_; omega
    have l_30 : (30 : Int32).toInt = 30 := by decide
    refine sf_ite (fun c3_ => ?_) (fun c3_ => ?_)
    · have rc3_ : 30 < a1.toInt := by rw [Int32.lt_iff_toInt_lt] at c3_; omega
      have l_m1000000002 : (-1000000002 : Int32).toInt = -1000000002 := by decide
      exact sf_some (show (Inv g w) from hI)
    · have rc3_ : ¬ 30 < a1.toInt := by rw [Int32.lt_iff_toInt_lt] at c3_; omega
      have h4_ : 0 ≤ (w 6 1).toInt ∧ (w 6 1).toInt ≤ 30 := iv_6_1 hI
      refine sf_ite (fun c5_ => ?_) (fun c5_ => ?_)
      · have rc5_ : (w 6 1).toInt < a1.toInt := by rw [Int32.lt_iff_toInt_lt] at c5_; omega
        have l_m1000000003 : (-1000000003 : Int32).toInt = -1000000003 := by decide
        exact sf_some (show (Inv g w) from hI)
      · have rc5_ : ¬ (w 6 1).toInt < a1.toInt := by rw [Int32.lt_iff_toInt_lt] at c5_; omega
        refine sf_bind (sf_X6_takeBack a1 w hI) (fun w1 hqw1 hpw1 => ?_)
        have hIw1 := hpw1
        have zz6_l : -2147483648 ≤ (w1 3 0).toInt := Int32.le_toInt (w1 3 0)
        have zz6_h : (w1 3 0).toInt ≤ 2147483647 := Int32.toInt_le (w1 3 0)
        exact sf_some (show (Inv g w1) from hIw1)
set_option maxRecDepth 20000 in
set_option maxHeartbeats 2000000 in
theorem sf_X9_stay {g : Nat → Int} (a1 : Int32) (a2 : Int32) (w : Mem) (hI : Inv g w) : Sf (fun (q : Int32) => (True)) (f_X9_stay a1 a2 w) := by
  obtain ⟨hg0, hg1⟩ := hI.1
  unfold f_X9_stay
  have zz1_l : -2147483648 ≤ a1.toInt := Int32.le_toInt a1
  have zz1_h : a1.toInt ≤ 2147483647 := Int32.toInt_le a1
  refine sf_bind (sf_X1_hasTraveller (brp (w 0 8)) (brp_ok (w 0 8)) a1 w hI) (fun r1 hqr1 hpr1 => ?_)
  obtain ⟨hpr1_0, hpr1_1⟩ := hpr1
  have l_0 : (0 : Int32).toInt = 0 := by decide
  refine sf_ite (fun c2_ => ?_) (fun c2_ => ?_)
  · have rc2_ : r1.toInt = 0 := by rw [i_eq_iff] at c2_; omega
    have l_m1000000001 : (-1000000001 : Int32).toInt = -1000000001 := by decide
    exact sf_some (show (True) from trivial)
  · have rc2_ : ¬ r1.toInt = 0 := by rw [i_eq_iff] at c2_; omega
    have zz3_l : -2147483648 ≤ a2.toInt := Int32.le_toInt a2
    have zz3_h : a2.toInt ≤ 2147483647 := Int32.toInt_le a2
    refine sf_bind (sf_X1_hasMatter (brp (w 0 8)) (brp_ok (w 0 8)) a2 w hI) (fun r2 hqr2 hpr2 => ?_)
    obtain ⟨hpr2_0, hpr2_1⟩ := hpr2
    refine sf_ite (fun c4_ => ?_) (fun c4_ => ?_)
    · have rc4_ : r2.toInt = 0 := by rw [i_eq_iff] at c4_; omega
      have l_m1000000001 : (-1000000001 : Int32).toInt = -1000000001 := by decide
      exact sf_some (show (True) from trivial)
    · have rc4_ : ¬ r2.toInt = 0 := by rw [i_eq_iff] at c4_; omega
      refine sf_bind (sf_X1_stayOf (brp (w 0 8)) (brp_ok (w 0 8)) a1 a2 w hI) (fun r3 hqr3 hpr3 => ?_)
      have zz5_l : -2147483648 ≤ r3.toInt := Int32.le_toInt r3
      have zz5_h : r3.toInt ≤ 2147483647 := Int32.toInt_le r3
      exact sf_some (show (True) from trivial)
set_option maxRecDepth 20000 in
set_option maxHeartbeats 2000000 in
theorem sf_X9_talk {g : Nat → Int} (a1 : Int32) (a2 : Int32) (w : Mem) (hI : Inv g w) : Sf (fun (q : Int32 × Mem) => (Inv g q.2)) (f_X9_talk a1 a2 w) := by
  obtain ⟨hg0, hg1⟩ := hI.1
  unfold f_X9_talk
  have zz1_l : -2147483648 ≤ a1.toInt := Int32.le_toInt a1
  have zz1_h : a1.toInt ≤ 2147483647 := Int32.toInt_le a1
  refine sf_bind (sf_X1_hasTraveller (brp (w 0 8)) (brp_ok (w 0 8)) a1 w hI) (fun r1 hqr1 hpr1 => ?_)
  obtain ⟨hpr1_0, hpr1_1⟩ := hpr1
  have l_0 : (0 : Int32).toInt = 0 := by decide
  refine sf_ite (fun c2_ => ?_) (fun c2_ => ?_)
  · have rc2_ : r1.toInt = 0 := by rw [i_eq_iff] at c2_; omega
    have l_m1000000001 : (-1000000001 : Int32).toInt = -1000000001 := by decide
    exact sf_some (show (Inv g w) from hI)
  · have rc2_ : ¬ r1.toInt = 0 := by rw [i_eq_iff] at c2_; omega
    have zz3_l : -2147483648 ≤ a2.toInt := Int32.le_toInt a2
    have zz3_h : a2.toInt ≤ 2147483647 := Int32.toInt_le a2
    refine sf_ite (fun c4_ => ?_) (fun c4_ => ?_)
    · have rc4_ : a2.toInt < 0 := by rw [Int32.lt_iff_toInt_lt] at c4_; omega
      have l_m1000000002 : (-1000000002 : Int32).toInt = -1000000002 := by decide
      exact sf_some (show (Inv g w) from hI)
    · have rc4_ : ¬ a2.toInt < 0 := by rw [Int32.lt_iff_toInt_lt] at c4_; omega
      have l_3 : (3 : Int32).toInt = 3 := by decide
      refine sf_ite (fun c5_ => ?_) (fun c5_ => ?_)
      · have rc5_ : 3 < a2.toInt := by rw [Int32.lt_iff_toInt_lt] at c5_; omega
        have l_m1000000002 : (-1000000002 : Int32).toInt = -1000000002 := by decide
        exact sf_some (show (Inv g w) from hI)
      · have rc5_ : ¬ 3 < a2.toInt := by rw [Int32.lt_iff_toInt_lt] at c5_; omega
        have zz6_l : -2147483648 ≤ (w 3 3).toInt := Int32.le_toInt (w 3 3)
        have zz6_h : (w 3 3).toInt ≤ 2147483647 := Int32.toInt_le (w 3 3)
        refine sf_bind (sf_X8_tryWith (brp (w 0 8)) (brp_ok (w 0 8)) a1 (w 3 3) w hI) (fun w2 hqw2 hpw2 => ?_)
        have hIw2 := hpw2
        refine sf_ite (fun c7_ => ?_) (fun c7_ => ?_)
        · have rc7_ : a2.toInt = 0 := by rw [i_eq_iff] at c7_; omega
          have zz8_l : -2147483648 ≤ (w2 99 1).toInt := Int32.le_toInt (w2 99 1)
          have zz8_h : (w2 99 1).toInt ≤ 2147483647 := Int32.toInt_le (w2 99 1)
          exact sf_some (show (Inv g w2) from hIw2)
        · have rc7_ : ¬ a2.toInt = 0 := by rw [i_eq_iff] at c7_; omega
          have l_1 : (1 : Int32).toInt = 1 := by decide
          refine sf_ite (fun c9_ => ?_) (fun c9_ => ?_)
          · have rc9_ : a2.toInt = 1 := by rw [i_eq_iff] at c9_; omega
            have zz10_l : -2147483648 ≤ (w2 99 2).toInt := Int32.le_toInt (w2 99 2)
            have zz10_h : (w2 99 2).toInt ≤ 2147483647 := Int32.toInt_le (w2 99 2)
            exact sf_some (show (Inv g w2) from hIw2)
          · have rc9_ : ¬ a2.toInt = 1 := by rw [i_eq_iff] at c9_; omega
            have l_2 : (2 : Int32).toInt = 2 := by decide
            refine sf_ite (fun c11_ => ?_) (fun c11_ => ?_)
            · have rc11_ : a2.toInt = 2 := by rw [i_eq_iff] at c11_; omega
              have zz12_l : -2147483648 ≤ (w2 99 3).toInt := Int32.le_toInt (w2 99 3)
              have zz12_h : (w2 99 3).toInt ≤ 2147483647 := Int32.toInt_le (w2 99 3)
              exact sf_some (show (Inv g w2) from hIw2)
            · have rc11_ : ¬ a2.toInt = 2 := by rw [i_eq_iff] at c11_; omega
              have zz13_l : -2147483648 ≤ (w2 99 1).toInt := Int32.le_toInt (w2 99 1)
              have zz13_h : (w2 99 1).toInt ≤ 2147483647 := Int32.toInt_le (w2 99 1)
              refine sf_bind (sf_X1_payFor (brp (w2 0 8)) (brp_ok (w2 0 8)) (w2 99 1) w2 hIw2) (fun r6 hqr6 hpr6 => ?_)
              have zz14_l : -2147483648 ≤ r6.toInt := Int32.le_toInt r6
              have zz14_h : r6.toInt ≤ 2147483647 := Int32.toInt_le r6
              exact sf_some (show (Inv g w2) from hIw2)
set_option maxRecDepth 20000 in
set_option maxHeartbeats 2000000 in
theorem sf_X5_fill {g : Nat → Int} (b1 : Nat) (hb1 : BrO b1) (w : Mem) (hI : Inv g w) : Sf (fun (q : Mem) => (Inv g q)) (f_X5_fill b1 w) := by
  have hbb_b1 : b1 = 112 ∨ b1 = 119 := hb1
  obtain ⟨hg0, hg1⟩ := hI.1
  unfold f_X5_fill
  have l_0 : (0 : Int32).toInt = 0 := by decide
  refine sf_pw (fun w1 ew1 => ?_)
  have hIw1 : Inv g w1 := by rw [ew1]; exact up_101_4 hI (show 0 ≤ (0 : Int32).toInt ∧ (0 : Int32).toInt ≤ 6 from by omega)
  refine sf_bind (Q := fun (v12 : Mem) => (Inv g v12) ∧ ((v12 3 3).toInt = (w1 3 3).toInt) ∧ ((v12 3 7).toInt = (w1 3 7).toInt) ∧ ((v12 b1 3).toInt = (w1 b1 3).toInt)) ?_ (fun v12 hqv12 hvv12 => ?_)
  · have zz1_l : -2147483648 ≤ (w 3 3).toInt := Int32.le_toInt (w 3 3)
    have zz1_h : (w 3 3).toInt ≤ 2147483647 := Int32.toInt_le (w 3 3)
    have k2_ : (w1 3 3).toInt = (w 3 3).toInt := by rw [ew1, wu_ne (by omega)]
    have zz3_l : -2147483648 ≤ (w1 3 3).toInt := Int32.le_toInt (w1 3 3)
    have zz3_h : (w1 3 3).toInt ≤ 2147483647 := Int32.toInt_le (w1 3 3)
    have zz4_l : -2147483648 ≤ (w 3 7).toInt := Int32.le_toInt (w 3 7)
    have zz4_h : (w 3 7).toInt ≤ 2147483647 := Int32.toInt_le (w 3 7)
    have k5_ : (w1 3 7).toInt = (w 3 7).toInt := by rw [ew1, wu_ne (by omega)]
    have zz6_l : -2147483648 ≤ (w1 3 7).toInt := Int32.le_toInt (w1 3 7)
    have zz6_h : (w1 3 7).toInt ≤ 2147483647 := Int32.toInt_le (w1 3 7)
    have h7_ : 0 ≤ (w1 b1 3).toInt ∧ (w1 b1 3).toInt ≤ 6 := ivX1_3 hb1 hIw1
    have h8_ : 0 ≤ (w b1 3).toInt ∧ (w b1 3).toInt ≤ 6 := ivX1_3 hb1 hI
    have k9_ : (w1 b1 3).toInt = (w b1 3).toInt := by rw [ew1, wu_ne (by omega)]
    have h10_ : 0 ≤ (w1 101 4).toInt ∧ (w1 101 4).toInt ≤ 6 := iv_101_4 hIw1
    have k11_ : (w1 101 4).toInt = (0 : Int32).toInt := by rw [ew1, wu_at]
    refine sf_lp (fun (s8 : (Int32 × Mem)) => (Inv g s8.2) ∧ (0 ≤ s8.1.toInt) ∧ (s8.1.toInt ≤ 6) ∧ ((s8.2 3 3).toInt = (w1 3 3).toInt) ∧ ((s8.2 3 7).toInt = (w1 3 7).toInt) ∧ ((s8.2 b1 3).toInt = (w1 b1 3).toInt) ∧ ((s8.2 101 4).toInt ≤ s8.1.toInt)) (fun (s8 : (Int32 × Mem)) => (7 - s8.1.toInt).toNat) (fun s8 hss8 => ?_) _ _ (show (Inv g w1) ∧ (0 ≤ (0 : Int32).toInt) ∧ ((0 : Int32).toInt ≤ 6) ∧ ((w1 3 3).toInt = (w1 3 3).toInt) ∧ ((w1 3 7).toInt = (w1 3 7).toInt) ∧ ((w1 b1 3).toInt = (w1 b1 3).toInt) ∧ ((w1 101 4).toInt ≤ (0 : Int32).toInt) from ⟨hIw1, by omega, by omega, rfl, rfl, rfl, by omega⟩) (show (7 - (0 : Int32).toInt).toNat < 5000000000 from by omega)
    obtain ⟨hIs8, hss8_1, hss8_2, hss8_3, hss8_4, hss8_5, hss8_6⟩ := hss8
    refine (?_ : Sf (lpP _ _ (7 - s8.1.toInt).toNat _) _)
    have zz12_l : -2147483648 ≤ (s8.2 3 3).toInt := Int32.le_toInt (s8.2 3 3)
    have zz12_h : (s8.2 3 3).toInt ≤ 2147483647 := Int32.toInt_le (s8.2 3 3)
    have zz13_l : -2147483648 ≤ (s8.2 3 7).toInt := Int32.le_toInt (s8.2 3 7)
    have zz13_h : (s8.2 3 7).toInt ≤ 2147483647 := Int32.toInt_le (s8.2 3 7)
    have h14_ : 0 ≤ (s8.2 b1 3).toInt ∧ (s8.2 b1 3).toInt ≤ 6 := ivX1_3 hb1 hIs8
    have h15_ : 0 ≤ (s8.2 101 4).toInt ∧ (s8.2 101 4).toInt ≤ 6 := iv_101_4 hIs8
    refine sf_ite (fun c16_ => ?_) (fun c16_ => ?_)
    · have rc16_ : s8.1.toInt < (s8.2 b1 3).toInt := by rw [Int32.lt_iff_toInt_lt] at c16_; omega
      refine sf_bind (sf_X9_holds (s8.2 3 7) s8.1) (fun r2 hqr2 hpr2 => ?_)
      have hpr2_0 := hpr2
      refine sf_bind (Q := fun (v3 : Mem) => (Inv g v3) ∧ ((v3 3 3).toInt = (s8.2 3 3).toInt) ∧ ((v3 3 7).toInt = (s8.2 3 7).toInt) ∧ ((v3 b1 3).toInt = (s8.2 b1 3).toInt) ∧ ((v3 101 4).toInt ≤ s8.1.toInt + 1)) ?_ (fun v3 hqv3 hvv3 => ?_)
      · refine sf_ite (fun c17_ => ?_) (fun c17_ => ?_)
        · have rc17_ : r2.toInt = 0 := by rw [i_eq_iff] at c17_; omega
          exact sf_some (show (Inv g s8.2) ∧ ((s8.2 3 3).toInt = (s8.2 3 3).toInt) ∧ ((s8.2 3 7).toInt = (s8.2 3 7).toInt) ∧ ((s8.2 b1 3).toInt = (s8.2 b1 3).toInt) ∧ ((s8.2 101 4).toInt ≤ s8.1.toInt + 1) from ⟨hIs8, rfl, rfl, rfl, by omega⟩)
        · have rc17_ : ¬ r2.toInt = 0 := by rw [i_eq_iff] at c17_; omega
          refine sf_bind (sf_X8_tryWith b1 hb1 s8.1 (s8.2 3 3) s8.2 hIs8) (fun w4 hqw4 hpw4 => ?_)
          have hIw4 := hpw4
          have zz18_l : -2147483648 ≤ (w4 99 1).toInt := Int32.le_toInt (w4 99 1)
          have zz18_h : (w4 99 1).toInt ≤ 2147483647 := Int32.toInt_le (w4 99 1)
          refine sf_wr (by omega) (by omega) (fun w5 ew5 => ?_)
          have n19_ : (s8.1.toNatClampNeg : Int) = s8.1.toInt := i_clq (by omega)
          have hIw5 : Inv g w5 := by rw [ew5]; exact ub_103 hIw4
          have k20_ : (w5 99 1).toInt = (w4 99 1).toInt := by rw [ew5, wu_ne (by omega)]
          have zz21_l : -2147483648 ≤ (w5 99 1).toInt := Int32.le_toInt (w5 99 1)
          have zz21_h : (w5 99 1).toInt ≤ 2147483647 := Int32.toInt_le (w5 99 1)
          refine sf_bind (sf_X1_payFor b1 hb1 (w5 99 1) w5 hIw5) (fun r6 hqr6 hpr6 => ?_)
          have zz22_l : -2147483648 ≤ r6.toInt := Int32.le_toInt r6
          have zz22_h : r6.toInt ≤ 2147483647 := Int32.toInt_le r6
          refine sf_wr (by omega) (by omega) (fun w7 ew7 => ?_)
          have hIw7 : Inv g w7 := by rw [ew7]; exact ub_104 hIw5
          refine sf_bind (sf_X3_patienceOf b1 hb1 s8.1 w7 hIw7) (fun r8 hqr8 hpr8 => ?_)
          have zz23_l : -2147483648 ≤ r8.toInt := Int32.le_toInt r8
          have zz23_h : r8.toInt ≤ 2147483647 := Int32.toInt_le r8
          refine sf_wr (by omega) (by omega) (fun w9 ew9 => ?_)
          have hIw9 : Inv g w9 := by rw [ew9]; exact ub_105 hIw7
          have h24_ : 0 ≤ (w9 101 4).toInt ∧ (w9 101 4).toInt ≤ 6 := iv_101_4 hIw9
          have h25_ : 0 ≤ (w7 101 4).toInt ∧ (w7 101 4).toInt ≤ 6 := iv_101_4 hIw7
          have h26_ : 0 ≤ (w5 101 4).toInt ∧ (w5 101 4).toInt ≤ 6 := iv_101_4 hIw5
          have h27_ : 0 ≤ (w4 101 4).toInt ∧ (w4 101 4).toInt ≤ 6 := iv_101_4 hIw4
          have k28_ : (w4 101 4).toInt = (s8.2 101 4).toInt := congrArg Int32.toInt (fr_X8_tryWith b1 hb1 s8.1 (s8.2 3 3) s8.2 w4 hqw4 101 4 (by omega))
          have k29_ : (w5 101 4).toInt = (w4 101 4).toInt := by rw [ew5, wu_ne (by omega)]
          have k30_ : (w7 101 4).toInt = (w5 101 4).toInt := by rw [ew7, wu_ne (by omega)]
          have k31_ : (w9 101 4).toInt = (w7 101 4).toInt := by rw [ew9, wu_ne (by omega)]
          refine sf_wr (by omega) (by omega) (fun w10 ew10 => ?_)
          have n32_ : ((w9 101 4).toNatClampNeg : Int) = (w9 101 4).toInt := i_clq (by omega)
          have hIw10 : Inv g w10 := by rw [ew10]; exact ua_102 hIw9 (by omega) (by omega) (show 0 ≤ s8.1.toInt ∧ s8.1.toInt ≤ 5 from by omega)
          have h33_ : 0 ≤ (w10 101 4).toInt ∧ (w10 101 4).toInt ≤ 6 := iv_101_4 hIw10
          have k34_ : (w10 101 4).toInt = (w9 101 4).toInt := by rw [ew10, wu_ne (by omega)]
          have l_1 : (1 : Int32).toInt = 1 := by decide
          have e35_ : ((w10 101 4) + (1 : Int32)).toInt = (w10 101 4).toInt + (1 : Int32).toInt := i_add (by omega) (by omega)
          refine sf_pw (fun w11 ew11 => ?_)
          have hIw11 : Inv g w11 := by rw [ew11]; exact up_101_4 hIw10 (show 0 ≤ ((w10 101 4) + (1 : Int32)).toInt ∧ ((w10 101 4) + (1 : Int32)).toInt ≤ 6 from by omega)
          have k36_ : (w4 3 3).toInt = (s8.2 3 3).toInt := congrArg Int32.toInt (fr_X8_tryWith b1 hb1 s8.1 (s8.2 3 3) s8.2 w4 hqw4 3 3 (by omega))
          have zz37_l : -2147483648 ≤ (w4 3 3).toInt := Int32.le_toInt (w4 3 3)
          have zz37_h : (w4 3 3).toInt ≤ 2147483647 := Int32.toInt_le (w4 3 3)
          have k38_ : (w5 3 3).toInt = (w4 3 3).toInt := by rw [ew5, wu_ne (by omega)]
          have zz39_l : -2147483648 ≤ (w5 3 3).toInt := Int32.le_toInt (w5 3 3)
          have zz39_h : (w5 3 3).toInt ≤ 2147483647 := Int32.toInt_le (w5 3 3)
          have k40_ : (w7 3 3).toInt = (w5 3 3).toInt := by rw [ew7, wu_ne (by omega)]
          have zz41_l : -2147483648 ≤ (w7 3 3).toInt := Int32.le_toInt (w7 3 3)
          have zz41_h : (w7 3 3).toInt ≤ 2147483647 := Int32.toInt_le (w7 3 3)
          have k42_ : (w9 3 3).toInt = (w7 3 3).toInt := by rw [ew9, wu_ne (by omega)]
          have zz43_l : -2147483648 ≤ (w9 3 3).toInt := Int32.le_toInt (w9 3 3)
          have zz43_h : (w9 3 3).toInt ≤ 2147483647 := Int32.toInt_le (w9 3 3)
          have k44_ : (w10 3 3).toInt = (w9 3 3).toInt := by rw [ew10, wu_ne (by omega)]
          have zz45_l : -2147483648 ≤ (w10 3 3).toInt := Int32.le_toInt (w10 3 3)
          have zz45_h : (w10 3 3).toInt ≤ 2147483647 := Int32.toInt_le (w10 3 3)
          have k46_ : (w11 3 3).toInt = (w10 3 3).toInt := by rw [ew11, wu_ne (by omega)]
          have zz47_l : -2147483648 ≤ (w11 3 3).toInt := Int32.le_toInt (w11 3 3)
          have zz47_h : (w11 3 3).toInt ≤ 2147483647 := Int32.toInt_le (w11 3 3)
          have k48_ : (w4 3 7).toInt = (s8.2 3 7).toInt := congrArg Int32.toInt (fr_X8_tryWith b1 hb1 s8.1 (s8.2 3 3) s8.2 w4 hqw4 3 7 (by omega))
          have zz49_l : -2147483648 ≤ (w4 3 7).toInt := Int32.le_toInt (w4 3 7)
          have zz49_h : (w4 3 7).toInt ≤ 2147483647 := Int32.toInt_le (w4 3 7)
          have k50_ : (w5 3 7).toInt = (w4 3 7).toInt := by rw [ew5, wu_ne (by omega)]
          have zz51_l : -2147483648 ≤ (w5 3 7).toInt := Int32.le_toInt (w5 3 7)
          have zz51_h : (w5 3 7).toInt ≤ 2147483647 := Int32.toInt_le (w5 3 7)
          have k52_ : (w7 3 7).toInt = (w5 3 7).toInt := by rw [ew7, wu_ne (by omega)]
          have zz53_l : -2147483648 ≤ (w7 3 7).toInt := Int32.le_toInt (w7 3 7)
          have zz53_h : (w7 3 7).toInt ≤ 2147483647 := Int32.toInt_le (w7 3 7)
          have k54_ : (w9 3 7).toInt = (w7 3 7).toInt := by rw [ew9, wu_ne (by omega)]
          have zz55_l : -2147483648 ≤ (w9 3 7).toInt := Int32.le_toInt (w9 3 7)
          have zz55_h : (w9 3 7).toInt ≤ 2147483647 := Int32.toInt_le (w9 3 7)
          have k56_ : (w10 3 7).toInt = (w9 3 7).toInt := by rw [ew10, wu_ne (by omega)]
          have zz57_l : -2147483648 ≤ (w10 3 7).toInt := Int32.le_toInt (w10 3 7)
          have zz57_h : (w10 3 7).toInt ≤ 2147483647 := Int32.toInt_le (w10 3 7)
          have k58_ : (w11 3 7).toInt = (w10 3 7).toInt := by rw [ew11, wu_ne (by omega)]
          have zz59_l : -2147483648 ≤ (w11 3 7).toInt := Int32.le_toInt (w11 3 7)
          have zz59_h : (w11 3 7).toInt ≤ 2147483647 := Int32.toInt_le (w11 3 7)
          have h60_ : 0 ≤ (w11 b1 3).toInt ∧ (w11 b1 3).toInt ≤ 6 := ivX1_3 hb1 hIw11
          have h61_ : 0 ≤ (w10 b1 3).toInt ∧ (w10 b1 3).toInt ≤ 6 := ivX1_3 hb1 hIw10
          have h62_ : 0 ≤ (w9 b1 3).toInt ∧ (w9 b1 3).toInt ≤ 6 := ivX1_3 hb1 hIw9
          have h63_ : 0 ≤ (w7 b1 3).toInt ∧ (w7 b1 3).toInt ≤ 6 := ivX1_3 hb1 hIw7
          have h64_ : 0 ≤ (w5 b1 3).toInt ∧ (w5 b1 3).toInt ≤ 6 := ivX1_3 hb1 hIw5
          have h65_ : 0 ≤ (w4 b1 3).toInt ∧ (w4 b1 3).toInt ≤ 6 := ivX1_3 hb1 hIw4
          have k66_ : (w4 b1 3).toInt = (s8.2 b1 3).toInt := congrArg Int32.toInt (fr_X8_tryWith b1 hb1 s8.1 (s8.2 3 3) s8.2 w4 hqw4 b1 3 (by omega))
          have k67_ : (w5 b1 3).toInt = (w4 b1 3).toInt := by rw [ew5, wu_ne (by omega)]
          have k68_ : (w7 b1 3).toInt = (w5 b1 3).toInt := by rw [ew7, wu_ne (by omega)]
          have k69_ : (w9 b1 3).toInt = (w7 b1 3).toInt := by rw [ew9, wu_ne (by omega)]
          have k70_ : (w10 b1 3).toInt = (w9 b1 3).toInt := by rw [ew10, wu_ne (by omega)]
          have k71_ : (w11 b1 3).toInt = (w10 b1 3).toInt := by rw [ew11, wu_ne (by omega)]
          have h72_ : 0 ≤ (w11 101 4).toInt ∧ (w11 101 4).toInt ≤ 6 := iv_101_4 hIw11
          have k73_ : (w11 101 4).toInt = ((w10 101 4) + (1 : Int32)).toInt := by rw [ew11, wu_at]
          exact sf_some (show (Inv g w11) ∧ ((w11 3 3).toInt = (s8.2 3 3).toInt) ∧ ((w11 3 7).toInt = (s8.2 3 7).toInt) ∧ ((w11 b1 3).toInt = (s8.2 b1 3).toInt) ∧ ((w11 101 4).toInt ≤ s8.1.toInt + 1) from ⟨hIw11, by omega, by omega, by omega, by omega⟩)
      · obtain ⟨hIv3, hvv3_1, hvv3_2, hvv3_3, hvv3_4⟩ := hvv3
        have zz74_l : -2147483648 ≤ (v3 3 3).toInt := Int32.le_toInt (v3 3 3)
        have zz74_h : (v3 3 3).toInt ≤ 2147483647 := Int32.toInt_le (v3 3 3)
        have zz75_l : -2147483648 ≤ (v3 3 7).toInt := Int32.le_toInt (v3 3 7)
        have zz75_h : (v3 3 7).toInt ≤ 2147483647 := Int32.toInt_le (v3 3 7)
        have h76_ : 0 ≤ (v3 b1 3).toInt ∧ (v3 b1 3).toInt ≤ 6 := ivX1_3 hb1 hIv3
        have h77_ : 0 ≤ (v3 101 4).toInt ∧ (v3 101 4).toInt ≤ 6 := iv_101_4 hIv3
        have l_1 : (1 : Int32).toInt = 1 := by decide
        have e78_ : (s8.1 + (1 : Int32)).toInt = s8.1.toInt + (1 : Int32).toInt := i_add (by omega) (by omega)
        exact sf_some (show ((Inv g v3) ∧ (0 ≤ (s8.1 + (1 : Int32)).toInt) ∧ ((s8.1 + (1 : Int32)).toInt ≤ 6) ∧ ((v3 3 3).toInt = (w1 3 3).toInt) ∧ ((v3 3 7).toInt = (w1 3 7).toInt) ∧ ((v3 b1 3).toInt = (w1 b1 3).toInt) ∧ ((v3 101 4).toInt ≤ (s8.1 + (1 : Int32)).toInt)) ∧ (7 - (s8.1 + (1 : Int32)).toInt).toNat < (7 - s8.1.toInt).toNat from ⟨⟨hIv3, by omega, by omega, by omega, by omega, by omega, by omega⟩, by omega⟩)
    · have rc16_ : ¬ s8.1.toInt < (s8.2 b1 3).toInt := by rw [Int32.lt_iff_toInt_lt] at c16_; omega
      exact sf_some (show (Inv g s8.2) ∧ ((s8.2 3 3).toInt = (w1 3 3).toInt) ∧ ((s8.2 3 7).toInt = (w1 3 7).toInt) ∧ ((s8.2 b1 3).toInt = (w1 b1 3).toInt) from ⟨hIs8, by omega, by omega, by omega⟩)
  · obtain ⟨hIv12, hvv12_1, hvv12_2, hvv12_3⟩ := hvv12
    have zz79_l : -2147483648 ≤ (w 3 3).toInt := Int32.le_toInt (w 3 3)
    have zz79_h : (w 3 3).toInt ≤ 2147483647 := Int32.toInt_le (w 3 3)
    have k80_ : (w1 3 3).toInt = (w 3 3).toInt := by rw [ew1, wu_ne (by omega)]
    have zz81_l : -2147483648 ≤ (w1 3 3).toInt := Int32.le_toInt (w1 3 3)
    have zz81_h : (w1 3 3).toInt ≤ 2147483647 := Int32.toInt_le (w1 3 3)
    have zz82_l : -2147483648 ≤ (v12 3 3).toInt := Int32.le_toInt (v12 3 3)
    have zz82_h : (v12 3 3).toInt ≤ 2147483647 := Int32.toInt_le (v12 3 3)
    have zz83_l : -2147483648 ≤ (w 3 7).toInt := Int32.le_toInt (w 3 7)
    have zz83_h : (w 3 7).toInt ≤ 2147483647 := Int32.toInt_le (w 3 7)
    have k84_ : (w1 3 7).toInt = (w 3 7).toInt := by rw [ew1, wu_ne (by omega)]
    have zz85_l : -2147483648 ≤ (w1 3 7).toInt := Int32.le_toInt (w1 3 7)
    have zz85_h : (w1 3 7).toInt ≤ 2147483647 := Int32.toInt_le (w1 3 7)
    have zz86_l : -2147483648 ≤ (v12 3 7).toInt := Int32.le_toInt (v12 3 7)
    have zz86_h : (v12 3 7).toInt ≤ 2147483647 := Int32.toInt_le (v12 3 7)
    have h87_ : 0 ≤ (w1 b1 3).toInt ∧ (w1 b1 3).toInt ≤ 6 := ivX1_3 hb1 hIw1
    have h88_ : 0 ≤ (w b1 3).toInt ∧ (w b1 3).toInt ≤ 6 := ivX1_3 hb1 hI
    have k89_ : (w1 b1 3).toInt = (w b1 3).toInt := by rw [ew1, wu_ne (by omega)]
    have h90_ : 0 ≤ (v12 b1 3).toInt ∧ (v12 b1 3).toInt ≤ 6 := ivX1_3 hb1 hIv12
    exact sf_some (show (Inv g v12) from hIv12)
