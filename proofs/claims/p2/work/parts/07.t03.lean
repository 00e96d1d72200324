set_option maxRecDepth 20000 in
set_option maxHeartbeats 2000000 in
theorem tc_X7_nextLetter {G : GT} {l : Launch} {z n : Nat} {ln : Int} (uu0 : HpT) (hTz0 : TyC G z ln uu0) : Mp G l z yX7_nextLetter cX7_nextLetter 1 (some .int) { frames := 0, cells := 0, slots := 0, locals := 0 } [.ref (z + 1)] uu0 n (fun r v => uu0 = v ∧ ∃ x : Int32, r = some (.int x) ∧ True) := by
  refine mp_of (by decide +kernel) (Nat.le_of_ble_eq_true rfl) ?_
  intro p e s m below meth c C hr hlk hnm
  have hTy0 : TC G z ln uu0 uu0 := TC.rf hTz0
  have J42 : Xw p l e ({ frames := 0, cells := 0, slots := 0, locals := 0 } : Room) s m ([.ref (z + 1)] : List Value).toArray below meth c G z 1 (MQ below (Qp G z n (fun r v => uu0 = v ∧ ∃ x : Int32, r = some (.int x) ∧ True)) ([.ref (z + 1)] : List Value).toArray s 0 0 (zA z)) 42 [(0, .ref (z + 1))] [] uu0 n 0 0 := by
    refine x_iconst (v := (-1 : Int32)) C dX7_nextLetter_42 (by decide) ?_
    have l_m1 : (-1 : Int32).toInt = -1 := by decide
    exact x_iretP C hr hlk (Nat.le_refl _) (Nat.le_refl _) dX7_nextLetter_43 ⟨rfl, (-1 : Int32), rfl, trivial⟩
  refine x_aload_n C 0 dX7_nextLetter_0 rfl rfl ?_
  obtain ⟨c1_1, c1_2, c1_3, c1_4, hc1, qc1_0, qc1_1, qc1_2⟩ := ty_1 hTy0
  refine gfX7_19 C dX7_nextLetter_1 hc1 rfl ?_
  have l_0 : (0 : Int32).toInt = 0 := by decide
  refine x_if_lt C 42 dX7_nextLetter_4 (by decide) (fun q2 => ?_) (fun q2 => ?_)
  · have rq2 : c1_2.toInt < (0 : Int32).toInt := by rw [Int32.lt_iff_toInt_lt] at q2; omega
    exact J42  
  · have rq2 : c1_2.toInt ≥ (0 : Int32).toInt := by rw [Int32.lt_iff_toInt_lt] at q2; omega
    refine x_aload_n C 0 dX7_nextLetter_7 rfl rfl ?_
    refine gfX7_19 C dX7_nextLetter_8 hc1 rfl ?_
    refine x_aload_n C 0 dX7_nextLetter_11 rfl rfl ?_
    refine gfX7_15 C dX7_nextLetter_12 hc1 rfl ?_
    refine x_icmp_ge C 42 dX7_nextLetter_15 (by decide) (fun q3 => ?_) (fun q3 => ?_)
    · have rq3 : c1_2.toInt ≥ c1_1.toInt := by rw [Int32.le_iff_toInt_le] at q3; omega
      exact J42  
    · have rq3 : c1_2.toInt < c1_1.toInt := by rw [Int32.le_iff_toInt_le] at q3; omega
      refine x_aload_n C 0 dX7_nextLetter_18 rfl rfl ?_
      refine gfX7_19 C dX7_nextLetter_19 hc1 rfl ?_
      refine x_aload_n C 0 dX7_nextLetter_22 rfl rfl ?_
      refine gfX7_9 C dX7_nextLetter_23 hc1 rfl ?_
      obtain ⟨f4, hf4⟩ := ty_2 hTy0
      refine x_alen (v := (240 : Int32)) C 0 hf4 rfl rfl dX7_nextLetter_26 ?_
      have l_240 : (240 : Int32).toInt = 240 := by decide
      refine x_icmp_ge C 42 dX7_nextLetter_27 (by decide) (fun q5 => ?_) (fun q5 => ?_)
      · have rq5 : c1_2.toInt ≥ (240 : Int32).toInt := by rw [Int32.le_iff_toInt_le] at q5; omega
        exfalso; omega
      · have rq5 : c1_2.toInt < (240 : Int32).toInt := by rw [Int32.le_iff_toInt_le] at q5; omega
        refine x_aload_n C 0 dX7_nextLetter_30 rfl rfl ?_
        refine gfX7_9 C dX7_nextLetter_31 hc1 rfl ?_
        refine x_aload_n C 0 dX7_nextLetter_34 rfl rfl ?_
        refine gfX7_19 C dX7_nextLetter_35 hc1 rfl ?_
        refine x_iald C hf4 (i_in (by omega) (by omega)) dX7_nextLetter_38 ?_
        refine x_top (fun w6 ew6 => ?_)
        refine x_goto C 43 dX7_nextLetter_39 (by decide) ?_
        exact x_iretP C hr hlk (Nat.le_refl _) (Nat.le_refl _) dX7_nextLetter_43 ⟨rfl, w6, rfl, trivial⟩
set_option maxRecDepth 20000 in
set_option maxHeartbeats 2000000 in
theorem tc_X7_skipBlanks {G : GT} {l : Launch} {z n : Nat} {ln : Int} (uu0 : HpT) (hTz0 : TyC G z ln uu0) : Mp G l z yX7_skipBlanks cX7_skipBlanks 1 none { frames := 1, cells := 0, slots := 0, locals := 20 } [.ref (z + 1)] uu0 n (fun r v => TC G z ln uu0 v ∧ r = none) := by
  refine mp_of (by decide +kernel) (Nat.le_of_ble_eq_true rfl) ?_
  intro p e s m below meth c C hr hlk hnm
  have hTy0 : TC G z ln uu0 uu0 := TC.rf hTz0
  have J0 : ∀ (d : Nat) (u_0 : HpT) (hT_0 : TC G z ln uu0 u_0) (hd : d = (241 - (atOf u_0).toInt).toNat), Xw p l e ({ frames := 1, cells := 0, slots := 0, locals := 20 } : Room) s m ([.ref (z + 1)] : List Value).toArray below meth c G z 1 (MQ below (Qp G z n (fun r v => TC G z ln uu0 v ∧ r = none)) ([.ref (z + 1)] : List Value).toArray s 0 0 (zA z)) 0 [(0, .ref (z + 1))] [] u_0 n 0 0 := by
    intro d
    induction d using Nat.strongRecOn with
    | _ d ih0 =>
      intro u_0 hT_0 hd0
      obtain ⟨c1_1, c1_2, c1_3, c1_4, hc1, qc1_0, qc1_1, qc1_2⟩ := ty_1 hT_0
      have gh2 : (atOf u_0).toInt = c1_2.toInt := by rw [atOf_eq hc1]
      refine x_aload_n C 0 dX7_skipBlanks_0 rfl rfl ?_
      refine gfX7_19 C dX7_skipBlanks_1 hc1 rfl ?_
      refine x_aload_n C 0 dX7_skipBlanks_4 rfl rfl ?_
      refine gfX7_15 C dX7_skipBlanks_5 hc1 rfl ?_
      refine x_icmp_ge C 33 dX7_skipBlanks_8 (by decide) (fun q3 => ?_) (fun q3 => ?_)
      · have rq3 : c1_2.toInt ≥ c1_1.toInt := by rw [Int32.le_iff_toInt_le] at q3; omega
        exact x_vretP C hr hlk (Nat.le_refl _) (Nat.le_refl _) dX7_skipBlanks_33 ⟨hT_0, rfl⟩
      · have rq3 : c1_2.toInt < c1_1.toInt := by rw [Int32.le_iff_toInt_le] at q3; omega
        refine x_aload_n C 0 dX7_skipBlanks_11 rfl rfl ?_
        refine x_callVP C cl_X7_nextLetter kmX7_43 (ci := 6) (b := 1) (As := []) (rest := []) rfl hc1 (tc_X7_nextLetter u_0 hT_0.1) rfl rfl (Nat.le_of_ble_eq_true rfl) ⟨Nat.le_of_ble_eq_true rfl, Nat.le_of_ble_eq_true rfl⟩ ⟨Nat.le_of_ble_eq_true rfl, Nat.le_of_ble_eq_true rfl⟩ dX7_skipBlanks_12 ?_
        rintro _ _ ⟨rfl, r4, rfl, gr4⟩
        refine x_norm (st2 := [.int r4]) rfl rfl rfl rfl rfl ?_
        refine x_bipush (v := (32 : Int32)) C dX7_skipBlanks_15 (by decide) ?_
        have l_32 : (32 : Int32).toInt = 32 := by decide
        refine x_icmp_ne C 33 dX7_skipBlanks_17 (by decide) (fun q6 => ?_) (fun q6 => ?_)
        · have rq6 : ¬ r4.toInt = (32 : Int32).toInt := by rw [i_eq_iff] at q6; omega
          exact x_vretP C hr hlk (Nat.le_refl _) (Nat.le_refl _) dX7_skipBlanks_33 ⟨hT_0, rfl⟩
        · have rq6 : r4.toInt = (32 : Int32).toInt := by rw [i_eq_iff] at q6; omega
          refine x_aload_n C 0 dX7_skipBlanks_20 rfl rfl ?_
          refine x_dup C dX7_skipBlanks_21 rfl ?_
          refine gfX7_19 C dX7_skipBlanks_22 hc1 rfl ?_
          refine x_iconst (v := (1 : Int32)) C dX7_skipBlanks_25 (by decide) ?_
          refine x_iadd C dX7_skipBlanks_26 ?_
          have l_1 : (1 : Int32).toInt = 1 := by decide
          have zl_c1_2 : -2147483648 ≤ c1_2.toInt := Int32.le_toInt c1_2
          have zh_c1_2 : c1_2.toInt ≤ 2147483647 := Int32.toInt_le c1_2
          refine x_top (fun w7 ew7 => ?_)
          have fw7_0 : w7.toInt = c1_2.toInt + (1 : Int32).toInt := by rw [ew7]; exact i_add (by omega) (by omega)
          obtain ⟨u8, eu8⟩ : ∃ w : HpT, w = hup u_0 1 (.inr (6, [.ref (z + 2), .int c1_1, .int w7, .int c1_3, .int c1_4])) := ⟨_, rfl⟩
          refine pfX7_19 C dX7_skipBlanks_27 hc1 (Nat.le_of_ble_eq_true rfl) rfl eu8.symm ?_
          have hTu8 : TC G z ln uu0 u8 := by rw [eu8]; exact hT_0.up_1 (by omega)
          have hn9 := (congrFun eu8 1).trans (hup_s _ _ _)
          refine x_goto C 0 dX7_skipBlanks_30 (by decide) ?_
          have gh10 : (atOf u8).toInt = w7.toInt := by rw [atOf_eq hn9]
          exact ih0 (241 - (atOf u8).toInt).toNat (by omega) u8 hTu8  rfl
  obtain ⟨c11_1, c11_2, c11_3, c11_4, hc11, qc11_0, qc11_1, qc11_2⟩ := ty_1 hTy0
  have gh12 : (atOf uu0).toInt = c11_2.toInt := by rw [atOf_eq hc11]
  exact J0 (241 - (atOf uu0).toInt).toNat uu0 hTy0  rfl
set_option maxRecDepth 20000 in
set_option maxHeartbeats 2000000 in
theorem tc_X7_note {G : GT} {l : Launch} {z n : Nat} {ln : Int} (uu0 : HpT) (hTz0 : TyC G z ln uu0) (a1 : Int32) (a2 : Int32) : Mp G l z yX7_note cX7_note 3 none { frames := 0, cells := 0, slots := 0, locals := 0 } [.ref (z + 1), .int a1, .int a2] uu0 n (fun r v => TC G z ln uu0 v ∧ r = none) := by
  refine mp_of (by decide +kernel) (Nat.le_of_ble_eq_true rfl) ?_
  intro p e s m below meth c C hr hlk hnm
  have hTy0 : TC G z ln uu0 uu0 := TC.rf hTz0
  refine x_aload_n C 0 dX7_note_0 rfl rfl ?_
  obtain ⟨c1_1, c1_2, c1_3, c1_4, hc1, qc1_0, qc1_1, qc1_2⟩ := ty_1 hTy0
  refine gfX7_22 C dX7_note_1 hc1 rfl ?_
  have l_0 : (0 : Int32).toInt = 0 := by decide
  refine x_if_ne C 17 dX7_note_4 (by decide) (fun q2 => ?_) (fun q2 => ?_)
  · have rq2 : ¬ c1_3.toInt = (0 : Int32).toInt := by rw [i_eq_iff] at q2; omega
    exact x_vretP C hr hlk (Nat.le_refl _) (Nat.le_refl _) dX7_note_17 ⟨hTy0, rfl⟩
  · have rq2 : c1_3.toInt = (0 : Int32).toInt := by rw [i_eq_iff] at q2; omega
    refine x_aload_n C 0 dX7_note_7 rfl rfl ?_
    refine x_iload_n C 1 dX7_note_8 rfl rfl ?_
    obtain ⟨u3, eu3⟩ : ∃ w : HpT, w = hup uu0 1 (.inr (6, [.ref (z + 2), .int c1_1, .int c1_2, .int a1, .int c1_4])) := ⟨_, rfl⟩
    refine pfX7_22 C dX7_note_9 hc1 (Nat.le_of_ble_eq_true rfl) rfl eu3.symm ?_
    have hTu3 : TC G z ln uu0 u3 := by rw [eu3]; exact hTy0.up_1 (by omega)
    have hn4 := (congrFun eu3 1).trans (hup_s _ _ _)
    refine x_aload_n C 0 dX7_note_12 rfl rfl ?_
    refine x_iload_n C 2 dX7_note_13 rfl rfl ?_
    obtain ⟨u5, eu5⟩ : ∃ w : HpT, w = hup u3 1 (.inr (6, [.ref (z + 2), .int c1_1, .int c1_2, .int a1, .int a2])) := ⟨_, rfl⟩
    refine pfX7_25 C dX7_note_14 hn4 (Nat.le_of_ble_eq_true rfl) rfl eu5.symm ?_
    have hTu5 : TC G z ln uu0 u5 := by rw [eu5]; exact hTu3.up_1 (by omega)
    have hn6 := (congrFun eu5 1).trans (hup_s _ _ _)
    exact x_vretP C hr hlk (Nat.le_refl _) (Nat.le_refl _) dX7_note_17 ⟨hTu5, rfl⟩
set_option maxRecDepth 20000 in
set_option maxHeartbeats 2000000 in
theorem tc_X7_isFigure {G : GT} {l : Launch} {z n : Nat} {ln : Int} (uu0 : HpT) (hTz0 : TyC G z ln uu0) (a0 : Int32) : Mp G l z yX7_isFigure cX7_isFigure 1 (some .boolean) { frames := 0, cells := 0, slots := 0, locals := 0 } [.int a0] uu0 n (fun r v => uu0 = v ∧ ∃ x : Int32, r = some (.int x) ∧ 0 ≤ x.toInt ∧ x.toInt ≤ 1) := by
  refine mp_of (by decide +kernel) (Nat.le_of_ble_eq_true rfl) ?_
  intro p e s m below meth c C hr hlk hnm
  have hTy0 : TC G z ln uu0 uu0 := TC.rf hTz0
  have J16 : Xw p l e ({ frames := 0, cells := 0, slots := 0, locals := 0 } : Room) s m ([.int a0] : List Value).toArray below meth c G z 1 (MQ below (Qp G z n (fun r v => uu0 = v ∧ ∃ x : Int32, r = some (.int x) ∧ 0 ≤ x.toInt ∧ x.toInt ≤ 1)) ([.int a0] : List Value).toArray s 0 0 (zA z)) 16 [(0, .int a0)] [] uu0 n 0 0 := by
    refine x_iconst (v := (0 : Int32)) C dX7_isFigure_16 (by decide) ?_
    have l_0 : (0 : Int32).toInt = 0 := by decide
    exact x_zretP C hr hlk (Nat.le_refl _) (Nat.le_refl _) dX7_isFigure_17 (i_bool (by omega)) ⟨rfl, (0 : Int32), rfl, by omega⟩
  refine x_iload_n C 0 dX7_isFigure_0 rfl rfl ?_
  refine x_bipush (v := (48 : Int32)) C dX7_isFigure_1 (by decide) ?_
  have l_48 : (48 : Int32).toInt = 48 := by decide
  refine x_icmp_lt C 16 dX7_isFigure_3 (by decide) (fun q1 => ?_) (fun q1 => ?_)
  · have rq1 : a0.toInt < (48 : Int32).toInt := by rw [Int32.lt_iff_toInt_lt] at q1; omega
    exact J16  
  · have rq1 : a0.toInt ≥ (48 : Int32).toInt := by rw [Int32.lt_iff_toInt_lt] at q1; omega
    refine x_iload_n C 0 dX7_isFigure_6 rfl rfl ?_
    refine x_bipush (v := (57 : Int32)) C dX7_isFigure_7 (by decide) ?_
    have l_57 : (57 : Int32).toInt = 57 := by decide
    refine x_icmp_gt C 16 dX7_isFigure_9 (by decide) (fun q2 => ?_) (fun q2 => ?_)
    · have rq2 : a0.toInt > (57 : Int32).toInt := by rw [Int32.lt_iff_toInt_lt] at q2; omega
      exact J16  
    · have rq2 : a0.toInt ≤ (57 : Int32).toInt := by rw [Int32.lt_iff_toInt_lt] at q2; omega
      refine x_iconst (v := (1 : Int32)) C dX7_isFigure_12 (by decide) ?_
      refine x_goto C 17 dX7_isFigure_13 (by decide) ?_
      have l_1 : (1 : Int32).toInt = 1 := by decide
      exact x_zretP C hr hlk (Nat.le_refl _) (Nat.le_refl _) dX7_isFigure_17 (i_bool (by omega)) ⟨rfl, (1 : Int32), rfl, by omega⟩
set_option maxRecDepth 20000 in
set_option maxHeartbeats 2000000 in
theorem tc_X7_readNumber {G : GT} {l : Launch} {z n : Nat} {ln : Int} (uu0 : HpT) (hTz0 : TyC G z ln uu0) (a1 : Int32) (a2 : Int32) : Mp G l z yX7_readNumber cX7_readNumber 5 (some .int) { frames := 2, cells := 0, slots := 0, locals := 40 } [.ref (z + 1), .int a1, .int a2] uu0 n (fun r v => TC G z ln uu0 v ∧ ∃ x : Int32, r = some (.int x) ∧ True) := by
  refine mp_of (by decide +kernel) (Nat.le_of_ble_eq_true rfl) ?_
  intro p e s m below meth c C hr hlk hnm
  have hTy0 : TC G z ln uu0 uu0 := TC.rf hTz0
  have J116 : ∀ (u_116 : HpT) (hT_116 : TC G z ln uu0 u_116) (x4_116 : Int32) (x3_116 : Int32), Xw p l e ({ frames := 2, cells := 0, slots := 0, locals := 40 } : Room) s m ([.ref (z + 1), .int a1, .int a2] : List Value).toArray below meth c G z 5 (MQ below (Qp G z n (fun r v => TC G z ln uu0 v ∧ ∃ x : Int32, r = some (.int x) ∧ True)) ([.ref (z + 1), .int a1, .int a2] : List Value).toArray s 0 0 (zA z)) 116 [(4, .int x4_116), (3, .int x3_116), (0, .ref (z + 1)), (1, .int a1), (2, .int a2)] [] u_116 n 0 0 := by
    intro u_116 hT_116 x4_116 x3_116
    refine x_iload C 0 dX7_readNumber_116 rfl ?_
    exact x_iretP C hr hlk (Nat.le_refl _) (Nat.le_refl _) dX7_readNumber_118 ⟨hT_116, x4_116, rfl, trivial⟩
  have J110 : ∀ (u_110 : HpT) (hT_110 : TC G z ln uu0 u_110) (x4_110 : Int32) (x3_110 : Int32), Xw p l e ({ frames := 2, cells := 0, slots := 0, locals := 40 } : Room) s m ([.ref (z + 1), .int a1, .int a2] : List Value).toArray below meth c G z 5 (MQ below (Qp G z n (fun r v => TC G z ln uu0 v ∧ ∃ x : Int32, r = some (.int x) ∧ True)) ([.ref (z + 1), .int a1, .int a2] : List Value).toArray s 0 0 (zA z)) 110 [(4, .int x4_110), (3, .int x3_110), (0, .ref (z + 1)), (1, .int a1), (2, .int a2)] [] u_110 n 0 0 := by
    intro u_110 hT_110 x4_110 x3_110
    refine x_aload_n C 2 dX7_readNumber_110 rfl rfl ?_
    refine x_iconst (v := (2 : Int32)) C dX7_readNumber_111 (by decide) ?_
    refine x_iload_n C 1 dX7_readNumber_112 rfl rfl ?_
    have l_2 : (2 : Int32).toInt = 2 := by decide
    obtain ⟨c1_1, c1_2, c1_3, c1_4, hc1, qc1_0, qc1_1, qc1_2⟩ := ty_1 hT_110
    refine x_callVP C cl_X7_note kmX7_51 (ci := 6) (b := 1) (As := [.int (2 : Int32), .int x3_110]) (rest := []) rfl hc1 (tc_X7_note u_110 hT_110.1 (2 : Int32) x3_110) rfl rfl (Nat.le_of_ble_eq_true rfl) ⟨Nat.le_of_ble_eq_true rfl, Nat.le_of_ble_eq_true rfl⟩ ⟨Nat.le_of_ble_eq_true rfl, Nat.le_of_ble_eq_true rfl⟩ dX7_readNumber_113 ?_
    rintro _ u2 ⟨ju2, rfl⟩
    have hTu2 := hT_110.tr ju2
    refine x_norm (st2 := []) rfl rfl rfl rfl rfl ?_
    exact J116 u2 hTu2 x4_110 x3_110
  have J71 : ∀ (u_71 : HpT) (hT_71 : TC G z ln uu0 u_71) (x4_71 : Int32) (x3_71 : Int32), Xw p l e ({ frames := 2, cells := 0, slots := 0, locals := 40 } : Room) s m ([.ref (z + 1), .int a1, .int a2] : List Value).toArray below meth c G z 5 (MQ below (Qp G z n (fun r v => TC G z ln uu0 v ∧ ∃ x : Int32, r = some (.int x) ∧ True)) ([.ref (z + 1), .int a1, .int a2] : List Value).toArray s 0 0 (zA z)) 71 [(4, .int x4_71), (3, .int x3_71), (0, .ref (z + 1)), (1, .int a1), (2, .int a2)] [] u_71 n 0 0 := by
    intro u_71 hT_71 x4_71 x3_71
    refine x_aload_n C 2 dX7_readNumber_71 rfl rfl ?_
    obtain ⟨c3_1, c3_2, c3_3, c3_4, hc3, qc3_0, qc3_1, qc3_2⟩ := ty_1 hT_71
    refine gfX7_19 C dX7_readNumber_72 hc3 rfl ?_
    refine x_iload_n C 1 dX7_readNumber_75 rfl rfl ?_
    refine x_icmp_ne C 88 dX7_readNumber_76 (by decide) (fun q4 => ?_) (fun q4 => ?_)
    · have rq4 : ¬ c3_2.toInt = x3_71.toInt := by rw [i_eq_iff] at q4; omega
      refine x_aload_n C 2 dX7_readNumber_88 rfl rfl ?_
      refine gfX7_19 C dX7_readNumber_89 hc3 rfl ?_
      refine x_iload_n C 1 dX7_readNumber_92 rfl rfl ?_
      refine x_isub C dX7_readNumber_93 ?_
      refine x_top (fun w5 ew5 => ?_)
      refine x_iconst (v := (3 : Int32)) C dX7_readNumber_94 (by decide) ?_
      have l_3 : (3 : Int32).toInt = 3 := by decide
      refine x_icmp_gt C 110 dX7_readNumber_95 (by decide) (fun q6 => ?_) (fun q6 => ?_)
      · have rq6 : w5.toInt > (3 : Int32).toInt := by rw [Int32.lt_iff_toInt_lt] at q6; omega
        exact J110 u_71 hT_71 x4_71 x3_71
      · have rq6 : w5.toInt ≤ (3 : Int32).toInt := by rw [Int32.lt_iff_toInt_lt] at q6; omega
        refine x_iload C 0 dX7_readNumber_98 rfl ?_
        refine x_iload_n C 3 dX7_readNumber_100 rfl rfl ?_
        refine x_icmp_lt C 110 dX7_readNumber_101 (by decide) (fun q7 => ?_) (fun q7 => ?_)
        · have rq7 : x4_71.toInt < a1.toInt := by rw [Int32.lt_iff_toInt_lt] at q7; omega
          exact J110 u_71 hT_71 x4_71 x3_71
        · have rq7 : x4_71.toInt ≥ a1.toInt := by rw [Int32.lt_iff_toInt_lt] at q7; omega
          refine x_iload C 0 dX7_readNumber_104 rfl ?_
          refine x_iload_n C 4 dX7_readNumber_106 rfl rfl ?_
          refine x_icmp_le C 116 dX7_readNumber_107 (by decide) (fun q8 => ?_) (fun q8 => ?_)
          · have rq8 : x4_71.toInt ≤ a2.toInt := by rw [Int32.le_iff_toInt_le] at q8; omega
            exact J116 u_71 hT_71 x4_71 x3_71
          · have rq8 : x4_71.toInt > a2.toInt := by rw [Int32.le_iff_toInt_le] at q8; omega
            exact J110 u_71 hT_71 x4_71 x3_71
    · have rq4 : c3_2.toInt = x3_71.toInt := by rw [i_eq_iff] at q4; omega
      refine x_aload_n C 2 dX7_readNumber_79 rfl rfl ?_
      refine x_iconst (v := (1 : Int32)) C dX7_readNumber_80 (by decide) ?_
      refine x_iload_n C 1 dX7_readNumber_81 rfl rfl ?_
      have l_1 : (1 : Int32).toInt = 1 := by decide
      refine x_callVP C cl_X7_note kmX7_51 (ci := 6) (b := 1) (As := [.int (1 : Int32), .int x3_71]) (rest := []) rfl hc3 (tc_X7_note u_71 hT_71.1 (1 : Int32) x3_71) rfl rfl (Nat.le_of_ble_eq_true rfl) ⟨Nat.le_of_ble_eq_true rfl, Nat.le_of_ble_eq_true rfl⟩ ⟨Nat.le_of_ble_eq_true rfl, Nat.le_of_ble_eq_true rfl⟩ dX7_readNumber_82 ?_
      rintro _ u9 ⟨ju9, rfl⟩
      have hTu9 := hT_71.tr ju9
      refine x_norm (st2 := []) rfl rfl rfl rfl rfl ?_
      refine x_goto C 116 dX7_readNumber_85 (by decide) ?_
      exact J116 u9 hTu9 x4_71 x3_71
  have J12 : ∀ (d : Nat) (u_12 : HpT) (hT_12 : TC G z ln uu0 u_12) (x4_12 : Int32) (x3_12 : Int32) (hd : d = (241 - (atOf u_12).toInt).toNat), Xw p l e ({ frames := 2, cells := 0, slots := 0, locals := 40 } : Room) s m ([.ref (z + 1), .int a1, .int a2] : List Value).toArray below meth c G z 5 (MQ below (Qp G z n (fun r v => TC G z ln uu0 v ∧ ∃ x : Int32, r = some (.int x) ∧ True)) ([.ref (z + 1), .int a1, .int a2] : List Value).toArray s 0 0 (zA z)) 12 [(4, .int x4_12), (3, .int x3_12), (0, .ref (z + 1)), (1, .int a1), (2, .int a2)] [] u_12 n 0 0 := by
    intro d
    induction d using Nat.strongRecOn with
    | _ d ih12 =>
      intro u_12 hT_12 x4_12 x3_12 hd12
      obtain ⟨c10_1, c10_2, c10_3, c10_4, hc10, qc10_0, qc10_1, qc10_2⟩ := ty_1 hT_12
      have gh11 : (atOf u_12).toInt = c10_2.toInt := by rw [atOf_eq hc10]
      have J58 : ∀ (u_58 : HpT) (hT_58 : TC G z ln uu0 u_58) (x4_58 : Int32) (i0_58 : (atOf u_58).toInt ≤ 239) (i1_58 : (atOf u_58).toInt = (atOf u_12).toInt), Xw p l e ({ frames := 2, cells := 0, slots := 0, locals := 40 } : Room) s m ([.ref (z + 1), .int a1, .int a2] : List Value).toArray below meth c G z 5 (MQ below (Qp G z n (fun r v => TC G z ln uu0 v ∧ ∃ x : Int32, r = some (.int x) ∧ True)) ([.ref (z + 1), .int a1, .int a2] : List Value).toArray s 0 0 (zA z)) 58 [(4, .int x4_58), (3, .int x3_12), (0, .ref (z + 1)), (1, .int a1), (2, .int a2)] [] u_58 n 0 0 := by
        intro u_58 hT_58 x4_58 i0_58 i1_58
        obtain ⟨c12_1, c12_2, c12_3, c12_4, hc12, qc12_0, qc12_1, qc12_2⟩ := ty_1 hT_58
        have gh13 : (atOf u_58).toInt = c12_2.toInt := by rw [atOf_eq hc12]
        refine x_aload_n C 2 dX7_readNumber_58 rfl rfl ?_
        refine x_dup C dX7_readNumber_59 rfl ?_
        refine gfX7_19 C dX7_readNumber_60 hc12 rfl ?_
        refine x_iconst (v := (1 : Int32)) C dX7_readNumber_63 (by decide) ?_
        refine x_iadd C dX7_readNumber_64 ?_
        have l_1 : (1 : Int32).toInt = 1 := by decide
        have zl_c12_2 : -2147483648 ≤ c12_2.toInt := Int32.le_toInt c12_2
        have zh_c12_2 : c12_2.toInt ≤ 2147483647 := Int32.toInt_le c12_2
        refine x_top (fun w14 ew14 => ?_)
        have fw14_0 : w14.toInt = c12_2.toInt + (1 : Int32).toInt := by rw [ew14]; exact i_add (by omega) (by omega)
        obtain ⟨u15, eu15⟩ : ∃ w : HpT, w = hup u_58 1 (.inr (6, [.ref (z + 2), .int c12_1, .int w14, .int c12_3, .int c12_4])) := ⟨_, rfl⟩
        refine pfX7_19 C dX7_readNumber_65 hc12 (Nat.le_of_ble_eq_true rfl) rfl eu15.symm ?_
        have hTu15 : TC G z ln uu0 u15 := by rw [eu15]; exact hT_58.up_1 (by omega)
        have hn16 := (congrFun eu15 1).trans (hup_s _ _ _)
        refine x_goto C 12 dX7_readNumber_68 (by decide) ?_
        have gh17 : (atOf u15).toInt = w14.toInt := by rw [atOf_eq hn16]
        exact ih12 (241 - (atOf u15).toInt).toNat (by omega) u15 hTu15 x4_58 x3_12 rfl
      refine x_aload_n C 2 dX7_readNumber_12 rfl rfl ?_
      refine gfX7_19 C dX7_readNumber_13 hc10 rfl ?_
      refine x_aload_n C 2 dX7_readNumber_16 rfl rfl ?_
      refine gfX7_15 C dX7_readNumber_17 hc10 rfl ?_
      refine x_icmp_ge C 71 dX7_readNumber_20 (by decide) (fun q18 => ?_) (fun q18 => ?_)
      · have rq18 : c10_2.toInt ≥ c10_1.toInt := by rw [Int32.le_iff_toInt_le] at q18; omega
        exact J71 u_12 hT_12 x4_12 x3_12
      · have rq18 : c10_2.toInt < c10_1.toInt := by rw [Int32.le_iff_toInt_le] at q18; omega
        refine x_aload_n C 2 dX7_readNumber_23 rfl rfl ?_
        refine x_callVP C cl_X7_nextLetter kmX7_43 (ci := 6) (b := 1) (As := []) (rest := []) rfl hc10 (tc_X7_nextLetter u_12 hT_12.1) rfl rfl (Nat.le_of_ble_eq_true rfl) ⟨Nat.le_of_ble_eq_true rfl, Nat.le_of_ble_eq_true rfl⟩ ⟨Nat.le_of_ble_eq_true rfl, Nat.le_of_ble_eq_true rfl⟩ dX7_readNumber_24 ?_
        rintro _ _ ⟨rfl, r19, rfl, gr19⟩
        refine x_norm (st2 := [.int r19]) rfl rfl rfl rfl rfl ?_
        refine x_callSP C cl_X7_isFigure kmX7_94 (As := [.int r19]) (rest := []) (tc_X7_isFigure u_12 hT_12.1 r19) rfl rfl (Nat.le_of_ble_eq_true rfl) ⟨Nat.le_of_ble_eq_true rfl, Nat.le_of_ble_eq_true rfl⟩ ⟨Nat.le_of_ble_eq_true rfl, Nat.le_of_ble_eq_true rfl⟩ dX7_readNumber_27 ?_
        rintro _ _ ⟨rfl, r21, rfl, gr21⟩
        refine x_norm (st2 := [.int r21]) rfl rfl rfl rfl rfl ?_
        have l_0 : (0 : Int32).toInt = 0 := by decide
        refine x_if_eq C 71 dX7_readNumber_30 (by decide) (fun q23 => ?_) (fun q23 => ?_)
        · have rq23 : r21.toInt = (0 : Int32).toInt := by rw [i_eq_iff] at q23; omega
          exact J71 u_12 hT_12 x4_12 x3_12
        · have rq23 : ¬ r21.toInt = (0 : Int32).toInt := by rw [i_eq_iff] at q23; omega
          refine x_aload_n C 2 dX7_readNumber_33 rfl rfl ?_
          refine gfX7_19 C dX7_readNumber_34 hc10 rfl ?_
          refine x_iload_n C 1 dX7_readNumber_37 rfl rfl ?_
          refine x_isub C dX7_readNumber_38 ?_
          refine x_top (fun w24 ew24 => ?_)
          refine x_iconst (v := (3 : Int32)) C dX7_readNumber_39 (by decide) ?_
          have l_3 : (3 : Int32).toInt = 3 := by decide
          refine x_icmp_ge C 58 dX7_readNumber_40 (by decide) (fun q25 => ?_) (fun q25 => ?_)
          · have rq25 : w24.toInt ≥ (3 : Int32).toInt := by rw [Int32.le_iff_toInt_le] at q25; omega
            have gh26 : (atOf u_12).toInt = c10_2.toInt := by rw [atOf_eq hc10]
            exact J58 u_12 hT_12 x4_12 (by omega) (by omega)
          · have rq25 : w24.toInt < (3 : Int32).toInt := by rw [Int32.le_iff_toInt_le] at q25; omega
            refine x_iload C 0 dX7_readNumber_43 rfl ?_
            refine x_bipush (v := (10 : Int32)) C dX7_readNumber_45 (by decide) ?_
            refine x_imul C dX7_readNumber_47 ?_
            have l_10 : (10 : Int32).toInt = 10 := by decide
            refine x_top (fun w27 ew27 => ?_)
            refine x_aload_n C 2 dX7_readNumber_48 rfl rfl ?_
            refine x_callVP C cl_X7_nextLetter kmX7_43 (ci := 6) (b := 1) (As := []) (rest := [.int w27]) rfl hc10 (tc_X7_nextLetter u_12 hT_12.1) rfl rfl (Nat.le_of_ble_eq_true rfl) ⟨Nat.le_of_ble_eq_true rfl, Nat.le_of_ble_eq_true rfl⟩ ⟨Nat.le_of_ble_eq_true rfl, Nat.le_of_ble_eq_true rfl⟩ dX7_readNumber_49 ?_
            rintro _ _ ⟨rfl, r28, rfl, gr28⟩
            refine x_norm (st2 := [.int r28, .int w27]) rfl rfl rfl rfl rfl ?_
            refine x_bipush (v := (48 : Int32)) C dX7_readNumber_52 (by decide) ?_
            refine x_isub C dX7_readNumber_54 ?_
            have l_48 : (48 : Int32).toInt = 48 := by decide
            refine x_top (fun w30 ew30 => ?_)
            refine x_iadd C dX7_readNumber_55 ?_
            refine x_top (fun w31 ew31 => ?_)
            refine x_istore C [(4, .int w31), (3, .int x3_12), (0, .ref (z + 1)), (1, .int a1), (2, .int a2)] dX7_readNumber_56 (by decide) rfl ?_
            have gh32 : (atOf u_12).toInt = c10_2.toInt := by rw [atOf_eq hc10]
            exact J58 u_12 hT_12 w31 (by omega) (by omega)
  refine x_aload_n C 0 dX7_readNumber_0 rfl rfl ?_
  obtain ⟨c33_1, c33_2, c33_3, c33_4, hc33, qc33_0, qc33_1, qc33_2⟩ := ty_1 hTy0
  refine x_callVP C cl_X7_skipBlanks kmX7_33 (ci := 6) (b := 1) (As := []) (rest := []) rfl hc33 (tc_X7_skipBlanks uu0 hTy0.1) rfl rfl (Nat.le_of_ble_eq_true rfl) ⟨Nat.le_of_ble_eq_true rfl, Nat.le_of_ble_eq_true rfl⟩ ⟨Nat.le_of_ble_eq_true rfl, Nat.le_of_ble_eq_true rfl⟩ dX7_readNumber_1 ?_
  rintro _ u34 ⟨ju34, rfl⟩
  have hTu34 := hTy0.tr ju34
  refine x_norm (st2 := []) rfl rfl rfl rfl rfl ?_
  refine x_aload_n C 0 dX7_readNumber_4 rfl rfl ?_
  obtain ⟨c35_1, c35_2, c35_3, c35_4, hc35, qc35_0, qc35_1, qc35_2⟩ := ty_1 hTu34
  refine gfX7_19 C dX7_readNumber_5 hc35 rfl ?_
  refine x_istore_n C [(3, .int c35_2), (0, .ref (z + 1)), (1, .int a1), (2, .int a2)] dX7_readNumber_8 rfl (by decide) rfl ?_
  refine x_iconst (v := (0 : Int32)) C dX7_readNumber_9 (by decide) ?_
  refine x_istore C [(4, .int (0 : Int32)), (3, .int c35_2), (0, .ref (z + 1)), (1, .int a1), (2, .int a2)] dX7_readNumber_10 (by decide) rfl ?_
  have gh36 : (atOf u34).toInt = c35_2.toInt := by rw [atOf_eq hc35]
  have l_0 : (0 : Int32).toInt = 0 := by decide
  exact J12 (241 - (atOf u34).toInt).toNat u34 hTu34 (0 : Int32) c35_2 rfl
set_option maxRecDepth 20000 in
set_option maxHeartbeats 2000000 in
theorem tc_X7_readEnd {G : GT} {l : Launch} {z n : Nat} {ln : Int} (uu0 : HpT) (hTz0 : TyC G z ln uu0) : Mp G l z yX7_readEnd cX7_readEnd 1 (some .boolean) { frames := 2, cells := 0, slots := 0, locals := 40 } [.ref (z + 1)] uu0 n (fun r v => TC G z ln uu0 v ∧ ∃ x : Int32, r = some (.int x) ∧ 0 ≤ x.toInt ∧ x.toInt ≤ 1) := by
  refine mp_of (by decide +kernel) (Nat.le_of_ble_eq_true rfl) ?_
  intro p e s m below meth c C hr hlk hnm
  have hTy0 : TC G z ln uu0 uu0 := TC.rf hTz0
  have J22 : ∀ (u_22 : HpT) (hT_22 : TC G z ln uu0 u_22), Xw p l e ({ frames := 2, cells := 0, slots := 0, locals := 40 } : Room) s m ([.ref (z + 1)] : List Value).toArray below meth c G z 1 (MQ below (Qp G z n (fun r v => TC G z ln uu0 v ∧ ∃ x : Int32, r = some (.int x) ∧ 0 ≤ x.toInt ∧ x.toInt ≤ 1)) ([.ref (z + 1)] : List Value).toArray s 0 0 (zA z)) 22 [(0, .ref (z + 1))] [] u_22 n 0 0 := by
    intro u_22 hT_22
    refine x_aload_n C 0 dX7_readEnd_22 rfl rfl ?_
    refine x_dup C dX7_readEnd_23 rfl ?_
    obtain ⟨c1_1, c1_2, c1_3, c1_4, hc1, qc1_0, qc1_1, qc1_2⟩ := ty_1 hT_22
    refine gfX7_19 C dX7_readEnd_24 hc1 rfl ?_
    refine x_iconst (v := (1 : Int32)) C dX7_readEnd_27 (by decide) ?_
    refine x_iadd C dX7_readEnd_28 ?_
    have l_1 : (1 : Int32).toInt = 1 := by decide
    refine x_top (fun w2 ew2 => ?_)
    obtain ⟨u3, eu3⟩ : ∃ w : HpT, w = hup u_22 1 (.inr (6, [.ref (z + 2), .int c1_1, .int w2, .int c1_3, .int c1_4])) := ⟨_, rfl⟩
    refine pfX7_19 C dX7_readEnd_29 hc1 (Nat.le_of_ble_eq_true rfl) rfl eu3.symm ?_
    have hTu3 : TC G z ln uu0 u3 := by rw [eu3]; exact hT_22.up_1 (by omega)
    have hn4 := (congrFun eu3 1).trans (hup_s _ _ _)
    refine x_aload_n C 0 dX7_readEnd_32 rfl rfl ?_
    refine gfX7_22 C dX7_readEnd_33 hn4 rfl ?_
    have l_0 : (0 : Int32).toInt = 0 := by decide
    refine x_if_ne C 43 dX7_readEnd_36 (by decide) (fun q5 => ?_) (fun q5 => ?_)
    · have rq5 : ¬ c1_3.toInt = (0 : Int32).toInt := by rw [i_eq_iff] at q5; omega
      refine x_iconst (v := (0 : Int32)) C dX7_readEnd_43 (by decide) ?_
      exact x_zretP C hr hlk (Nat.le_refl _) (Nat.le_refl _) dX7_readEnd_44 (i_bool (by omega)) ⟨hTu3, (0 : Int32), rfl, by omega⟩
    · have rq5 : c1_3.toInt = (0 : Int32).toInt := by rw [i_eq_iff] at q5; omega
      refine x_iconst (v := (1 : Int32)) C dX7_readEnd_39 (by decide) ?_
      refine x_goto C 44 dX7_readEnd_40 (by decide) ?_
      exact x_zretP C hr hlk (Nat.le_refl _) (Nat.le_refl _) dX7_readEnd_44 (i_bool (by omega)) ⟨hTu3, (1 : Int32), rfl, by omega⟩
  refine x_aload_n C 0 dX7_readEnd_0 rfl rfl ?_
  obtain ⟨c6_1, c6_2, c6_3, c6_4, hc6, qc6_0, qc6_1, qc6_2⟩ := ty_1 hTy0
  refine x_callVP C cl_X7_skipBlanks kmX7_33 (ci := 6) (b := 1) (As := []) (rest := []) rfl hc6 (tc_X7_skipBlanks uu0 hTy0.1) rfl rfl (Nat.le_of_ble_eq_true rfl) ⟨Nat.le_of_ble_eq_true rfl, Nat.le_of_ble_eq_true rfl⟩ ⟨Nat.le_of_ble_eq_true rfl, Nat.le_of_ble_eq_true rfl⟩ dX7_readEnd_1 ?_
  rintro _ u7 ⟨ju7, rfl⟩
  have hTu7 := hTy0.tr ju7
  refine x_norm (st2 := []) rfl rfl rfl rfl rfl ?_
  refine x_aload_n C 0 dX7_readEnd_4 rfl rfl ?_
  obtain ⟨c9_1, c9_2, c9_3, c9_4, hc9, qc9_0, qc9_1, qc9_2⟩ := ty_1 hTu7
  refine x_callVP C cl_X7_nextLetter kmX7_43 (ci := 6) (b := 1) (As := []) (rest := []) rfl hc9 (tc_X7_nextLetter u7 hTu7.1) rfl rfl (Nat.le_of_ble_eq_true rfl) ⟨Nat.le_of_ble_eq_true rfl, Nat.le_of_ble_eq_true rfl⟩ ⟨Nat.le_of_ble_eq_true rfl, Nat.le_of_ble_eq_true rfl⟩ dX7_readEnd_5 ?_
  rintro _ _ ⟨rfl, r8, rfl, gr8⟩
  refine x_norm (st2 := [.int r8]) rfl rfl rfl rfl rfl ?_
  refine x_bipush (v := (59 : Int32)) C dX7_readEnd_8 (by decide) ?_
  have l_59 : (59 : Int32).toInt = 59 := by decide
  refine x_icmp_eq C 22 dX7_readEnd_10 (by decide) (fun q11 => ?_) (fun q11 => ?_)
  · have rq11 : r8.toInt = (59 : Int32).toInt := by rw [i_eq_iff] at q11; omega
    exact J22 u7 hTu7 
  · have rq11 : ¬ r8.toInt = (59 : Int32).toInt := by rw [i_eq_iff] at q11; omega
    refine x_aload_n C 0 dX7_readEnd_13 rfl rfl ?_
    refine x_iconst (v := (1 : Int32)) C dX7_readEnd_14 (by decide) ?_
    refine x_aload_n C 0 dX7_readEnd_15 rfl rfl ?_
    refine gfX7_19 C dX7_readEnd_16 hc9 rfl ?_
    have l_1 : (1 : Int32).toInt = 1 := by decide
    refine x_callVP C cl_X7_note kmX7_51 (ci := 6) (b := 1) (As := [.int (1 : Int32), .int c9_2]) (rest := []) rfl hc9 (tc_X7_note u7 hTu7.1 (1 : Int32) c9_2) rfl rfl (Nat.le_of_ble_eq_true rfl) ⟨Nat.le_of_ble_eq_true rfl, Nat.le_of_ble_eq_true rfl⟩ ⟨Nat.le_of_ble_eq_true rfl, Nat.le_of_ble_eq_true rfl⟩ dX7_readEnd_19 ?_
    rintro _ u12 ⟨ju12, rfl⟩
    have hTu12 := hTu7.tr ju12
    refine x_norm (st2 := []) rfl rfl rfl rfl rfl ?_
    exact J22 u12 hTu12 
set_option maxRecDepth 20000 in
set_option maxHeartbeats 2000000 in
theorem tc_X7_readRate {G : GT} {l : Launch} {z n : Nat} {ln : Int} (uu0 : HpT) (hTz0 : TyC G z ln uu0) (b : Nat) (hb : BrO b) : Mp G l z yX7_readRate cX7_readRate 4 none { frames := 3, cells := 0, slots := 0, locals := 64 } [.ref (z + 1), .ref (z + b)] uu0 n (fun r v => TC G z ln uu0 v ∧ r = none) := by
  refine mp_of (by decide +kernel) (Nat.le_of_ble_eq_true rfl) ?_
  intro p e s m below meth c C hr hlk hnm
  have hbb_b : b = 112 ∨ b = 119 := hb
  have hTy0 : TC G z ln uu0 uu0 := TC.rf hTz0
  refine x_aload_n C 0 dX7_readRate_0 rfl rfl ?_
  refine x_iconst (v := (1 : Int32)) C dX7_readRate_1 (by decide) ?_
  refine x_bipush (v := (60 : Int32)) C dX7_readRate_2 (by decide) ?_
  have l_1 : (1 : Int32).toInt = 1 := by decide
  have l_60 : (60 : Int32).toInt = 60 := by decide
  obtain ⟨c2_1, c2_2, c2_3, c2_4, hc2, qc2_0, qc2_1, qc2_2⟩ := ty_1 hTy0
  refine x_callVP C cl_X7_readNumber kmX7_74 (ci := 6) (b := 1) (As := [.int (1 : Int32), .int (60 : Int32)]) (rest := []) rfl hc2 (tc_X7_readNumber uu0 hTy0.1 (1 : Int32) (60 : Int32)) rfl rfl (Nat.le_of_ble_eq_true rfl) ⟨Nat.le_of_ble_eq_true rfl, Nat.le_of_ble_eq_true rfl⟩ ⟨Nat.le_of_ble_eq_true rfl, Nat.le_of_ble_eq_true rfl⟩ dX7_readRate_4 ?_
  rintro _ u3 ⟨ju3, r1, rfl, gr1⟩
  have hTu3 := hTy0.tr ju3
  refine x_norm (st2 := [.int r1]) rfl rfl rfl rfl rfl ?_
  refine x_istore_n C [(2, .int r1), (0, .ref (z + 1)), (1, .ref (z + b))] dX7_readRate_7 rfl (by decide) rfl ?_
  refine x_aload_n C 1 dX7_readRate_8 rfl rfl ?_
  refine x_iconst (v := (1 : Int32)) C dX7_readRate_9 (by decide) ?_
  refine x_bipush (v := (9 : Int32)) C dX7_readRate_10 (by decide) ?_
  have l_9 : (9 : Int32).toInt = 9 := by decide
  obtain ⟨c5_1, c5_2, c5_3, c5_4, hc5, qc5_0, qc5_1, qc5_2⟩ := ty_1 hTu3
  refine x_callVP C cl_X7_readNumber kmX7_74 (ci := 6) (b := 1) (As := [.int (1 : Int32), .int (9 : Int32)]) (rest := []) rfl hc5 (tc_X7_readNumber u3 hTu3.1 (1 : Int32) (9 : Int32)) rfl rfl (Nat.le_of_ble_eq_true rfl) ⟨Nat.le_of_ble_eq_true rfl, Nat.le_of_ble_eq_true rfl⟩ ⟨Nat.le_of_ble_eq_true rfl, Nat.le_of_ble_eq_true rfl⟩ dX7_readRate_12 ?_
  rintro _ u6 ⟨ju6, r4, rfl, gr4⟩
  have hTu6 := hTu3.tr ju6
  refine x_norm (st2 := [.int r4]) rfl rfl rfl rfl rfl ?_
  refine x_istore_n C [(3, .int r4), (2, .int r1), (0, .ref (z + 1)), (1, .ref (z + b))] dX7_readRate_15 rfl (by decide) rfl ?_
  refine x_aload_n C 2 dX7_readRate_16 rfl rfl ?_
  obtain ⟨c8_1, c8_2, c8_3, c8_4, hc8, qc8_0, qc8_1, qc8_2⟩ := ty_1 hTu6
  refine x_callVP C cl_X7_readEnd kmX7_78 (ci := 6) (b := 1) (As := []) (rest := []) rfl hc8 (tc_X7_readEnd u6 hTu6.1) rfl rfl (Nat.le_of_ble_eq_true rfl) ⟨Nat.le_of_ble_eq_true rfl, Nat.le_of_ble_eq_true rfl⟩ ⟨Nat.le_of_ble_eq_true rfl, Nat.le_of_ble_eq_true rfl⟩ dX7_readRate_17 ?_
  rintro _ u9 ⟨ju9, r7, rfl, gr7⟩
  have hTu9 := hTu6.tr ju9
  refine x_norm (st2 := [.int r7]) rfl rfl rfl rfl rfl ?_
  have l_0 : (0 : Int32).toInt = 0 := by decide
  refine x_if_eq C 33 dX7_readRate_20 (by decide) (fun q10 => ?_) (fun q10 => ?_)
  · have rq10 : r7.toInt = (0 : Int32).toInt := by rw [i_eq_iff] at q10; omega
    exact x_vretP C hr hlk (Nat.le_refl _) (Nat.le_refl _) dX7_readRate_33 ⟨hTu9, rfl⟩
  · have rq10 : ¬ r7.toInt = (0 : Int32).toInt := by rw [i_eq_iff] at q10; omega
    refine x_aload_n C 3 dX7_readRate_23 rfl rfl ?_
    refine x_iload_n C 1 dX7_readRate_24 rfl rfl ?_
    obtain ⟨c11_0, c11_1, c11_2, c11_3, hc11, qc11_0, qc11_1, qc11_2, qc11_3⟩ := ty_br hTu9 hb
    obtain ⟨u12, eu12⟩ : ∃ w : HpT, w = hup u9 b (.inr (0, [.int r1, .int c11_1, .int c11_2, .int c11_3, .ref (z + (b + 1)), .ref (z + (b + 2)), .ref (z + (b + 3)), .ref (z + (b + 4)), .ref (z + (b + 5)), .ref (z + (b + 6))])) := ⟨_, rfl⟩
    refine pfX7_81 C dX7_readRate_25 hc11 (Nat.le_of_ble_eq_true rfl) rfl eu12.symm ?_
    have hTu12 : TC G z ln uu0 u12 := by rw [eu12]; exact hTu9.upBr hb (by omega)
    have hn13 := (congrFun eu12 b).trans (hup_s _ _ _)
    refine x_aload_n C 3 dX7_readRate_28 rfl rfl ?_
    refine x_iload_n C 0 dX7_readRate_29 rfl rfl ?_
    obtain ⟨u14, eu14⟩ : ∃ w : HpT, w = hup u12 b (.inr (0, [.int r1, .int r4, .int c11_2, .int c11_3, .ref (z + (b + 1)), .ref (z + (b + 2)), .ref (z + (b + 3)), .ref (z + (b + 4)), .ref (z + (b + 5)), .ref (z + (b + 6))])) := ⟨_, rfl⟩
    refine pfX7_84 C dX7_readRate_30 hn13 (Nat.le_of_ble_eq_true rfl) rfl eu14.symm ?_
    have hTu14 : TC G z ln uu0 u14 := by rw [eu14]; exact hTu12.upBr hb (by omega)
    have hn15 := (congrFun eu14 b).trans (hup_s _ _ _)
    exact x_vretP C hr hlk (Nat.le_refl _) (Nat.le_refl _) dX7_readRate_33 ⟨hTu14, rfl⟩
set_option maxRecDepth 20000 in
set_option maxHeartbeats 2000000 in
theorem tc_X7_readMatter {G : GT} {l : Launch} {z n : Nat} {ln : Int} (uu0 : HpT) (hTz0 : TyC G z ln uu0) (b : Nat) (hb : BrO b) : Mp G l z yX7_readMatter cX7_readMatter 4 none { frames := 3, cells := 0, slots := 0, locals := 64 } [.ref (z + 1), .ref (z + b)] uu0 n (fun r v => TC G z ln uu0 v ∧ r = none) := by
  refine mp_of (by decide +kernel) (Nat.le_of_ble_eq_true rfl) ?_
  intro p e s m below meth c C hr hlk hnm
  have hbb_b : b = 112 ∨ b = 119 := hb
  have hTy0 : TC G z ln uu0 uu0 := TC.rf hTz0
  refine x_aload_n C 0 dX7_readMatter_0 rfl rfl ?_
  refine x_iconst (v := (1 : Int32)) C dX7_readMatter_1 (by decide) ?_
  refine x_bipush (v := (60 : Int32)) C dX7_readMatter_2 (by decide) ?_
  have l_1 : (1 : Int32).toInt = 1 := by decide
  have l_60 : (60 : Int32).toInt = 60 := by decide
  obtain ⟨c2_1, c2_2, c2_3, c2_4, hc2, qc2_0, qc2_1, qc2_2⟩ := ty_1 hTy0
  refine x_callVP C cl_X7_readNumber kmX7_74 (ci := 6) (b := 1) (As := [.int (1 : Int32), .int (60 : Int32)]) (rest := []) rfl hc2 (tc_X7_readNumber uu0 hTy0.1 (1 : Int32) (60 : Int32)) rfl rfl (Nat.le_of_ble_eq_true rfl) ⟨Nat.le_of_ble_eq_true rfl, Nat.le_of_ble_eq_true rfl⟩ ⟨Nat.le_of_ble_eq_true rfl, Nat.le_of_ble_eq_true rfl⟩ dX7_readMatter_4 ?_
  rintro _ u3 ⟨ju3, r1, rfl, gr1⟩
  have hTu3 := hTy0.tr ju3
  refine x_norm (st2 := [.int r1]) rfl rfl rfl rfl rfl ?_
  refine x_istore_n C [(2, .int r1), (0, .ref (z + 1)), (1, .ref (z + b))] dX7_readMatter_7 rfl (by decide) rfl ?_
  refine x_aload_n C 1 dX7_readMatter_8 rfl rfl ?_
  refine x_iconst (v := (0 : Int32)) C dX7_readMatter_9 (by decide) ?_
  refine x_sipush (v := (255 : Int32)) C dX7_readMatter_10 (by decide) ?_
  have l_0 : (0 : Int32).toInt = 0 := by decide
  have l_255 : (255 : Int32).toInt = 255 := by decide
  obtain ⟨c5_1, c5_2, c5_3, c5_4, hc5, qc5_0, qc5_1, qc5_2⟩ := ty_1 hTu3
  refine x_callVP C cl_X7_readNumber kmX7_74 (ci := 6) (b := 1) (As := [.int (0 : Int32), .int (255 : Int32)]) (rest := []) rfl hc5 (tc_X7_readNumber u3 hTu3.1 (0 : Int32) (255 : Int32)) rfl rfl (Nat.le_of_ble_eq_true rfl) ⟨Nat.le_of_ble_eq_true rfl, Nat.le_of_ble_eq_true rfl⟩ ⟨Nat.le_of_ble_eq_true rfl, Nat.le_of_ble_eq_true rfl⟩ dX7_readMatter_13 ?_
  rintro _ u6 ⟨ju6, r4, rfl, gr4⟩
  have hTu6 := hTu3.tr ju6
  refine x_norm (st2 := [.int r4]) rfl rfl rfl rfl rfl ?_
  refine x_istore_n C [(3, .int r4), (2, .int r1), (0, .ref (z + 1)), (1, .ref (z + b))] dX7_readMatter_16 rfl (by decide) rfl ?_
  refine x_aload_n C 2 dX7_readMatter_17 rfl rfl ?_
  obtain ⟨c8_1, c8_2, c8_3, c8_4, hc8, qc8_0, qc8_1, qc8_2⟩ := ty_1 hTu6
  refine x_callVP C cl_X7_readEnd kmX7_78 (ci := 6) (b := 1) (As := []) (rest := []) rfl hc8 (tc_X7_readEnd u6 hTu6.1) rfl rfl (Nat.le_of_ble_eq_true rfl) ⟨Nat.le_of_ble_eq_true rfl, Nat.le_of_ble_eq_true rfl⟩ ⟨Nat.le_of_ble_eq_true rfl, Nat.le_of_ble_eq_true rfl⟩ dX7_readMatter_18 ?_
  rintro _ u9 ⟨ju9, r7, rfl, gr7⟩
  have hTu9 := hTu6.tr ju9
  refine x_norm (st2 := [.int r7]) rfl rfl rfl rfl rfl ?_
  refine x_if_eq C 30 dX7_readMatter_21 (by decide) (fun q10 => ?_) (fun q10 => ?_)
  · have rq10 : r7.toInt = (0 : Int32).toInt := by rw [i_eq_iff] at q10; omega
    exact x_vretP C hr hlk (Nat.le_refl _) (Nat.le_refl _) dX7_readMatter_30 ⟨hTu9, rfl⟩
  · have rq10 : ¬ r7.toInt = (0 : Int32).toInt := by rw [i_eq_iff] at q10; omega
    refine x_aload_n C 3 dX7_readMatter_24 rfl rfl ?_
    refine x_iload_n C 1 dX7_readMatter_25 rfl rfl ?_
    refine x_iload_n C 0 dX7_readMatter_26 rfl rfl ?_
    obtain ⟨c11_0, c11_1, c11_2, c11_3, hc11, qc11_0, qc11_1, qc11_2, qc11_3⟩ := ty_br hTu9 hb
    refine x_callVP C cl_X1_addMatter kmX7_87 (ci := 0) (b := b) (As := [.int r1, .int r4]) (rest := []) rfl hc11 (tc_X1_addMatter u9 hTu9.1 b hb r1 r4) rfl rfl (Nat.le_of_ble_eq_true rfl) ⟨Nat.le_of_ble_eq_true rfl, Nat.le_of_ble_eq_true rfl⟩ ⟨Nat.le_of_ble_eq_true rfl, Nat.le_of_ble_eq_true rfl⟩ dX7_readMatter_27 ?_
    rintro _ u12 ⟨ju12, rfl⟩
    have hTu12 := hTu9.tr ju12
    refine x_norm (st2 := []) rfl rfl rfl rfl rfl ?_
    exact x_vretP C hr hlk (Nat.le_refl _) (Nat.le_refl _) dX7_readMatter_30 ⟨hTu12, rfl⟩
set_option maxRecDepth 20000 in
set_option maxHeartbeats 2000000 in
theorem tc_X7_readTraveller {G : GT} {l : Launch} {z n : Nat} {ln : Int} (uu0 : HpT) (hTz0 : TyC G z ln uu0) (b : Nat) (hb : BrO b) : Mp G l z yX7_readTraveller cX7_readTraveller 5 none { frames := 3, cells := 0, slots := 0, locals := 64 } [.ref (z + 1), .ref (z + b)] uu0 n (fun r v => TC G z ln uu0 v ∧ r = none) := by
  refine mp_of (by decide +kernel) (Nat.le_of_ble_eq_true rfl) ?_
  intro p e s m below meth c C hr hlk hnm
  have hbb_b : b = 112 ∨ b = 119 := hb
  have hTy0 : TC G z ln uu0 uu0 := TC.rf hTz0
  refine x_aload_n C 0 dX7_readTraveller_0 rfl rfl ?_
  refine x_iconst (v := (0 : Int32)) C dX7_readTraveller_1 (by decide) ?_
  refine x_iconst (v := (4 : Int32)) C dX7_readTraveller_2 (by decide) ?_
  have l_0 : (0 : Int32).toInt = 0 := by decide
  have l_4 : (4 : Int32).toInt = 4 := by decide
  obtain ⟨c2_1, c2_2, c2_3, c2_4, hc2, qc2_0, qc2_1, qc2_2⟩ := ty_1 hTy0
  refine x_callVP C cl_X7_readNumber kmX7_74 (ci := 6) (b := 1) (As := [.int (0 : Int32), .int (4 : Int32)]) (rest := []) rfl hc2 (tc_X7_readNumber uu0 hTy0.1 (0 : Int32) (4 : Int32)) rfl rfl (Nat.le_of_ble_eq_true rfl) ⟨Nat.le_of_ble_eq_true rfl, Nat.le_of_ble_eq_true rfl⟩ ⟨Nat.le_of_ble_eq_true rfl, Nat.le_of_ble_eq_true rfl⟩ dX7_readTraveller_3 ?_
  rintro _ u3 ⟨ju3, r1, rfl, gr1⟩
  have hTu3 := hTy0.tr ju3
  refine x_norm (st2 := [.int r1]) rfl rfl rfl rfl rfl ?_
  refine x_istore_n C [(2, .int r1), (0, .ref (z + 1)), (1, .ref (z + b))] dX7_readTraveller_6 rfl (by decide) rfl ?_
  refine x_aload_n C 1 dX7_readTraveller_7 rfl rfl ?_
  refine x_iconst (v := (0 : Int32)) C dX7_readTraveller_8 (by decide) ?_
  refine x_bipush (v := (9 : Int32)) C dX7_readTraveller_9 (by decide) ?_
  have l_9 : (9 : Int32).toInt = 9 := by decide
  obtain ⟨c5_1, c5_2, c5_3, c5_4, hc5, qc5_0, qc5_1, qc5_2⟩ := ty_1 hTu3
  refine x_callVP C cl_X7_readNumber kmX7_74 (ci := 6) (b := 1) (As := [.int (0 : Int32), .int (9 : Int32)]) (rest := []) rfl hc5 (tc_X7_readNumber u3 hTu3.1 (0 : Int32) (9 : Int32)) rfl rfl (Nat.le_of_ble_eq_true rfl) ⟨Nat.le_of_ble_eq_true rfl, Nat.le_of_ble_eq_true rfl⟩ ⟨Nat.le_of_ble_eq_true rfl, Nat.le_of_ble_eq_true rfl⟩ dX7_readTraveller_11 ?_
  rintro _ u6 ⟨ju6, r4, rfl, gr4⟩
  have hTu6 := hTu3.tr ju6
  refine x_norm (st2 := [.int r4]) rfl rfl rfl rfl rfl ?_
  refine x_istore_n C [(3, .int r4), (2, .int r1), (0, .ref (z + 1)), (1, .ref (z + b))] dX7_readTraveller_14 rfl (by decide) rfl ?_
  refine x_aload_n C 2 dX7_readTraveller_15 rfl rfl ?_
  refine x_iconst (v := (0 : Int32)) C dX7_readTraveller_16 (by decide) ?_
  refine x_sipush (v := (255 : Int32)) C dX7_readTraveller_17 (by decide) ?_
  have l_255 : (255 : Int32).toInt = 255 := by decide
  obtain ⟨c8_1, c8_2, c8_3, c8_4, hc8, qc8_0, qc8_1, qc8_2⟩ := ty_1 hTu6
  refine x_callVP C cl_X7_readNumber kmX7_74 (ci := 6) (b := 1) (As := [.int (0 : Int32), .int (255 : Int32)]) (rest := []) rfl hc8 (tc_X7_readNumber u6 hTu6.1 (0 : Int32) (255 : Int32)) rfl rfl (Nat.le_of_ble_eq_true rfl) ⟨Nat.le_of_ble_eq_true rfl, Nat.le_of_ble_eq_true rfl⟩ ⟨Nat.le_of_ble_eq_true rfl, Nat.le_of_ble_eq_true rfl⟩ dX7_readTraveller_20 ?_
  rintro _ u9 ⟨ju9, r7, rfl, gr7⟩
  have hTu9 := hTu6.tr ju9
  refine x_norm (st2 := [.int r7]) rfl rfl rfl rfl rfl ?_
  refine x_istore C [(4, .int r7), (3, .int r4), (2, .int r1), (0, .ref (z + 1)), (1, .ref (z + b))] dX7_readTraveller_23 (by decide) rfl ?_
  refine x_aload_n C 3 dX7_readTraveller_25 rfl rfl ?_
  obtain ⟨c11_1, c11_2, c11_3, c11_4, hc11, qc11_0, qc11_1, qc11_2⟩ := ty_1 hTu9
  refine x_callVP C cl_X7_readEnd kmX7_78 (ci := 6) (b := 1) (As := []) (rest := []) rfl hc11 (tc_X7_readEnd u9 hTu9.1) rfl rfl (Nat.le_of_ble_eq_true rfl) ⟨Nat.le_of_ble_eq_true rfl, Nat.le_of_ble_eq_true rfl⟩ ⟨Nat.le_of_ble_eq_true rfl, Nat.le_of_ble_eq_true rfl⟩ dX7_readTraveller_26 ?_
  rintro _ u12 ⟨ju12, r10, rfl, gr10⟩
  have hTu12 := hTu9.tr ju12
  refine x_norm (st2 := [.int r10]) rfl rfl rfl rfl rfl ?_
  refine x_if_eq C 40 dX7_readTraveller_29 (by decide) (fun q13 => ?_) (fun q13 => ?_)
  · have rq13 : r10.toInt = (0 : Int32).toInt := by rw [i_eq_iff] at q13; omega
    exact x_vretP C hr hlk (Nat.le_refl _) (Nat.le_refl _) dX7_readTraveller_40 ⟨hTu12, rfl⟩
  · have rq13 : ¬ r10.toInt = (0 : Int32).toInt := by rw [i_eq_iff] at q13; omega
    refine x_aload_n C 4 dX7_readTraveller_32 rfl rfl ?_
    refine x_iload_n C 2 dX7_readTraveller_33 rfl rfl ?_
    refine x_iload_n C 1 dX7_readTraveller_34 rfl rfl ?_
    refine x_iload C 0 dX7_readTraveller_35 rfl ?_
    obtain ⟨c14_0, c14_1, c14_2, c14_3, hc14, qc14_0, qc14_1, qc14_2, qc14_3⟩ := ty_br hTu12 hb
    refine x_callVP C cl_X1_addTraveller kmX7_90 (ci := 0) (b := b) (As := [.int r1, .int r4, .int r7]) (rest := []) rfl hc14 (tc_X1_addTraveller u12 hTu12.1 b hb r1 r4 r7) rfl rfl (Nat.le_of_ble_eq_true rfl) ⟨Nat.le_of_ble_eq_true rfl, Nat.le_of_ble_eq_true rfl⟩ ⟨Nat.le_of_ble_eq_true rfl, Nat.le_of_ble_eq_true rfl⟩ dX7_readTraveller_37 ?_
    rintro _ u15 ⟨ju15, rfl⟩
    have hTu15 := hTu12.tr ju15
    refine x_norm (st2 := []) rfl rfl rfl rfl rfl ?_
    exact x_vretP C hr hlk (Nat.le_refl _) (Nat.le_refl _) dX7_readTraveller_40 ⟨hTu15, rfl⟩
set_option maxRecDepth 20000 in
set_option maxHeartbeats 2000000 in
theorem tc_X7_faultOfWord {G : GT} {l : Launch} {z n : Nat} {ln : Int} (uu0 : HpT) (hTz0 : TyC G z ln uu0) (b : Nat) (hb : BrO b) (a1 : Int32) : Mp G l z yX7_faultOfWord cX7_faultOfWord 2 (some .int) { frames := 1, cells := 0, slots := 0, locals := 20 } [.ref (z + b), .int a1] uu0 n (fun r v => uu0 = v ∧ ∃ x : Int32, r = some (.int x) ∧ True) := by
  refine mp_of (by decide +kernel) (Nat.le_of_ble_eq_true rfl) ?_
  intro p e s m below meth c C hr hlk hnm
  have hbb_b : b = 112 ∨ b = 119 := hb
  have hTy0 : TC G z ln uu0 uu0 := TC.rf hTz0
  refine x_iload_n C 1 dX7_faultOfWord_0 rfl rfl ?_
  refine x_bipush (v := (107 : Int32)) C dX7_faultOfWord_1 (by decide) ?_
  have l_107 : (107 : Int32).toInt = 107 := by decide
  refine x_icmp_ne C 19 dX7_faultOfWord_3 (by decide) (fun q1 => ?_) (fun q1 => ?_)
  · have rq1 : ¬ a1.toInt = (107 : Int32).toInt := by rw [i_eq_iff] at q1; omega
    refine x_aload_n C 0 dX7_faultOfWord_19 rfl rfl ?_
    obtain ⟨c3_0, c3_1, c3_2, c3_3, hc3, qc3_0, qc3_1, qc3_2, qc3_3⟩ := ty_br hTy0 hb
    refine x_callVP C cl_X1_isThere kmX7_64 (ci := 0) (b := b) (As := []) (rest := []) rfl hc3 (tc_X1_isThere uu0 hTy0.1 b hb) rfl rfl (Nat.le_of_ble_eq_true rfl) ⟨Nat.le_of_ble_eq_true rfl, Nat.le_of_ble_eq_true rfl⟩ ⟨Nat.le_of_ble_eq_true rfl, Nat.le_of_ble_eq_true rfl⟩ dX7_faultOfWord_20 ?_
    rintro _ _ ⟨rfl, r2, rfl, gr2⟩
    refine x_norm (st2 := [.int r2]) rfl rfl rfl rfl rfl ?_
    have l_0 : (0 : Int32).toInt = 0 := by decide
    refine x_if_ne C 28 dX7_faultOfWord_23 (by decide) (fun q5 => ?_) (fun q5 => ?_)
    · have rq5 : ¬ r2.toInt = (0 : Int32).toInt := by rw [i_eq_iff] at q5; omega
      refine x_iload_n C 1 dX7_faultOfWord_28 rfl rfl ?_
      refine x_bipush (v := (109 : Int32)) C dX7_faultOfWord_29 (by decide) ?_
      have l_109 : (109 : Int32).toInt = 109 := by decide
      refine x_icmp_ne C 49 dX7_faultOfWord_31 (by decide) (fun q6 => ?_) (fun q6 => ?_)
      · have rq6 : ¬ a1.toInt = (109 : Int32).toInt := by rw [i_eq_iff] at q6; omega
        refine x_iload_n C 1 dX7_faultOfWord_49 rfl rfl ?_
        refine x_bipush (v := (116 : Int32)) C dX7_faultOfWord_50 (by decide) ?_
        have l_116 : (116 : Int32).toInt = 116 := by decide
        refine x_icmp_ne C 70 dX7_faultOfWord_52 (by decide) (fun q7 => ?_) (fun q7 => ?_)
        · have rq7 : ¬ a1.toInt = (116 : Int32).toInt := by rw [i_eq_iff] at q7; omega
          refine x_iconst (v := (1 : Int32)) C dX7_faultOfWord_70 (by decide) ?_
          have l_1 : (1 : Int32).toInt = 1 := by decide
          exact x_iretP C hr hlk (Nat.le_refl _) (Nat.le_refl _) dX7_faultOfWord_71 ⟨rfl, (1 : Int32), rfl, trivial⟩
        · have rq7 : a1.toInt = (116 : Int32).toInt := by rw [i_eq_iff] at q7; omega
          refine x_aload_n C 0 dX7_faultOfWord_55 rfl rfl ?_
          refine gfX7_71 C dX7_faultOfWord_56 hc3 rfl ?_
          refine x_bipush (v := (6 : Int32)) C dX7_faultOfWord_59 (by decide) ?_
          have l_6 : (6 : Int32).toInt = 6 := by decide
          refine x_icmp_lt C 68 dX7_faultOfWord_61 (by decide) (fun q8 => ?_) (fun q8 => ?_)
          · have rq8 : c3_3.toInt < (6 : Int32).toInt := by rw [Int32.lt_iff_toInt_lt] at q8; omega
            refine x_iconst (v := (0 : Int32)) C dX7_faultOfWord_68 (by decide) ?_
            exact x_iretP C hr hlk (Nat.le_refl _) (Nat.le_refl _) dX7_faultOfWord_69 ⟨rfl, (0 : Int32), rfl, trivial⟩
          · have rq8 : c3_3.toInt ≥ (6 : Int32).toInt := by rw [Int32.lt_iff_toInt_lt] at q8; omega
            refine x_iconst (v := (3 : Int32)) C dX7_faultOfWord_64 (by decide) ?_
            refine x_goto C 69 dX7_faultOfWord_65 (by decide) ?_
            have l_3 : (3 : Int32).toInt = 3 := by decide
            exact x_iretP C hr hlk (Nat.le_refl _) (Nat.le_refl _) dX7_faultOfWord_69 ⟨rfl, (3 : Int32), rfl, trivial⟩
      · have rq6 : a1.toInt = (109 : Int32).toInt := by rw [i_eq_iff] at q6; omega
        refine x_aload_n C 0 dX7_faultOfWord_34 rfl rfl ?_
        refine gfX7_68 C dX7_faultOfWord_35 hc3 rfl ?_
        refine x_bipush (v := (8 : Int32)) C dX7_faultOfWord_38 (by decide) ?_
        have l_8 : (8 : Int32).toInt = 8 := by decide
        refine x_icmp_lt C 47 dX7_faultOfWord_40 (by decide) (fun q9 => ?_) (fun q9 => ?_)
        · have rq9 : c3_2.toInt < (8 : Int32).toInt := by rw [Int32.lt_iff_toInt_lt] at q9; omega
          refine x_iconst (v := (0 : Int32)) C dX7_faultOfWord_47 (by decide) ?_
          exact x_iretP C hr hlk (Nat.le_refl _) (Nat.le_refl _) dX7_faultOfWord_48 ⟨rfl, (0 : Int32), rfl, trivial⟩
        · have rq9 : c3_2.toInt ≥ (8 : Int32).toInt := by rw [Int32.lt_iff_toInt_lt] at q9; omega
          refine x_iconst (v := (3 : Int32)) C dX7_faultOfWord_43 (by decide) ?_
          refine x_goto C 48 dX7_faultOfWord_44 (by decide) ?_
          have l_3 : (3 : Int32).toInt = 3 := by decide
          exact x_iretP C hr hlk (Nat.le_refl _) (Nat.le_refl _) dX7_faultOfWord_48 ⟨rfl, (3 : Int32), rfl, trivial⟩
    · have rq5 : r2.toInt = (0 : Int32).toInt := by rw [i_eq_iff] at q5; omega
      refine x_iconst (v := (1 : Int32)) C dX7_faultOfWord_26 (by decide) ?_
      have l_1 : (1 : Int32).toInt = 1 := by decide
      exact x_iretP C hr hlk (Nat.le_refl _) (Nat.le_refl _) dX7_faultOfWord_27 ⟨rfl, (1 : Int32), rfl, trivial⟩
  · have rq1 : a1.toInt = (107 : Int32).toInt := by rw [i_eq_iff] at q1; omega
    refine x_aload_n C 0 dX7_faultOfWord_6 rfl rfl ?_
    obtain ⟨c11_0, c11_1, c11_2, c11_3, hc11, qc11_0, qc11_1, qc11_2, qc11_3⟩ := ty_br hTy0 hb
    refine x_callVP C cl_X1_isThere kmX7_64 (ci := 0) (b := b) (As := []) (rest := []) rfl hc11 (tc_X1_isThere uu0 hTy0.1 b hb) rfl rfl (Nat.le_of_ble_eq_true rfl) ⟨Nat.le_of_ble_eq_true rfl, Nat.le_of_ble_eq_true rfl⟩ ⟨Nat.le_of_ble_eq_true rfl, Nat.le_of_ble_eq_true rfl⟩ dX7_faultOfWord_7 ?_
    rintro _ _ ⟨rfl, r10, rfl, gr10⟩
    refine x_norm (st2 := [.int r10]) rfl rfl rfl rfl rfl ?_
    have l_0 : (0 : Int32).toInt = 0 := by decide
    refine x_if_eq C 17 dX7_faultOfWord_10 (by decide) (fun q13 => ?_) (fun q13 => ?_)
    · have rq13 : r10.toInt = (0 : Int32).toInt := by rw [i_eq_iff] at q13; omega
      refine x_iconst (v := (0 : Int32)) C dX7_faultOfWord_17 (by decide) ?_
      exact x_iretP C hr hlk (Nat.le_refl _) (Nat.le_refl _) dX7_faultOfWord_18 ⟨rfl, (0 : Int32), rfl, trivial⟩
    · have rq13 : ¬ r10.toInt = (0 : Int32).toInt := by rw [i_eq_iff] at q13; omega
      refine x_iconst (v := (3 : Int32)) C dX7_faultOfWord_13 (by decide) ?_
      refine x_goto C 18 dX7_faultOfWord_14 (by decide) ?_
      have l_3 : (3 : Int32).toInt = 3 := by decide
      exact x_iretP C hr hlk (Nat.le_refl _) (Nat.le_refl _) dX7_faultOfWord_18 ⟨rfl, (3 : Int32), rfl, trivial⟩
set_option maxRecDepth 20000 in
set_option maxHeartbeats 2000000 in
theorem tc_X7_readClause {G : GT} {l : Launch} {z n : Nat} {ln : Int} (uu0 : HpT) (hTz0 : TyC G z ln uu0) (b : Nat) (hb : BrO b) : Mp G l z yX7_readClause cX7_readClause 4 none { frames := 4, cells := 0, slots := 0, locals := 88 } [.ref (z + 1), .ref (z + b)] uu0 n (fun r v => TC G z ln uu0 v ∧ r = none) := by
  refine mp_of (by decide +kernel) (Nat.le_of_ble_eq_true rfl) ?_
  intro p e s m below meth c C hr hlk hnm
  have hbb_b : b = 112 ∨ b = 119 := hb
  have hTy0 : TC G z ln uu0 uu0 := TC.rf hTz0
  refine x_aload_n C 0 dX7_readClause_0 rfl rfl ?_
  obtain ⟨c2_1, c2_2, c2_3, c2_4, hc2, qc2_0, qc2_1, qc2_2⟩ := ty_1 hTy0
  refine x_callVP C cl_X7_nextLetter kmX7_43 (ci := 6) (b := 1) (As := []) (rest := []) rfl hc2 (tc_X7_nextLetter uu0 hTy0.1) rfl rfl (Nat.le_of_ble_eq_true rfl) ⟨Nat.le_of_ble_eq_true rfl, Nat.le_of_ble_eq_true rfl⟩ ⟨Nat.le_of_ble_eq_true rfl, Nat.le_of_ble_eq_true rfl⟩ dX7_readClause_1 ?_
  rintro _ _ ⟨rfl, r1, rfl, gr1⟩
  refine x_norm (st2 := [.int r1]) rfl rfl rfl rfl rfl ?_
  refine x_istore_n C [(2, .int r1), (0, .ref (z + 1)), (1, .ref (z + b))] dX7_readClause_4 rfl (by decide) rfl ?_
  refine x_aload_n C 2 dX7_readClause_5 rfl rfl ?_
  refine x_iload_n C 0 dX7_readClause_6 rfl rfl ?_
  refine x_callSP C cl_X7_faultOfWord kmX7_47 (As := [.ref (z + b), .int r1]) (rest := []) (tc_X7_faultOfWord uu0 hTy0.1 b hb r1) rfl rfl (Nat.le_of_ble_eq_true rfl) ⟨Nat.le_of_ble_eq_true rfl, Nat.le_of_ble_eq_true rfl⟩ ⟨Nat.le_of_ble_eq_true rfl, Nat.le_of_ble_eq_true rfl⟩ dX7_readClause_7 ?_
  rintro _ _ ⟨rfl, r4, rfl, gr4⟩
  refine x_norm (st2 := [.int r4]) rfl rfl rfl rfl rfl ?_
  refine x_istore_n C [(3, .int r4), (2, .int r1), (0, .ref (z + 1)), (1, .ref (z + b))] dX7_readClause_10 rfl (by decide) rfl ?_
  refine x_iload_n C 0 dX7_readClause_11 rfl rfl ?_
  have l_0 : (0 : Int32).toInt = 0 := by decide
  refine x_if_eq C 25 dX7_readClause_12 (by decide) (fun q6 => ?_) (fun q6 => ?_)
  · have rq6 : r4.toInt = (0 : Int32).toInt := by rw [i_eq_iff] at q6; omega
    refine x_aload_n C 2 dX7_readClause_25 rfl rfl ?_
    refine x_dup C dX7_readClause_26 rfl ?_
    refine gfX7_19 C dX7_readClause_27 hc2 rfl ?_
    refine x_iconst (v := (1 : Int32)) C dX7_readClause_30 (by decide) ?_
    refine x_iadd C dX7_readClause_31 ?_
    have l_1 : (1 : Int32).toInt = 1 := by decide
    refine x_top (fun w7 ew7 => ?_)
    obtain ⟨u8, eu8⟩ : ∃ w : HpT, w = hup uu0 1 (.inr (6, [.ref (z + 2), .int c2_1, .int w7, .int c2_3, .int c2_4])) := ⟨_, rfl⟩
    refine pfX7_19 C dX7_readClause_32 hc2 (Nat.le_of_ble_eq_true rfl) rfl eu8.symm ?_
    have hTu8 : TC G z ln uu0 u8 := by rw [eu8]; exact hTy0.up_1 (by omega)
    have hn9 := (congrFun eu8 1).trans (hup_s _ _ _)
    refine x_iload_n C 1 dX7_readClause_35 rfl rfl ?_
    refine x_bipush (v := (107 : Int32)) C dX7_readClause_36 (by decide) ?_
    have l_107 : (107 : Int32).toInt = 107 := by decide
    refine x_icmp_ne C 49 dX7_readClause_38 (by decide) (fun q10 => ?_) (fun q10 => ?_)
    · have rq10 : ¬ r1.toInt = (107 : Int32).toInt := by rw [i_eq_iff] at q10; omega
      refine x_iload_n C 1 dX7_readClause_49 rfl rfl ?_
      refine x_bipush (v := (109 : Int32)) C dX7_readClause_50 (by decide) ?_
      have l_109 : (109 : Int32).toInt = 109 := by decide
      refine x_icmp_ne C 63 dX7_readClause_52 (by decide) (fun q11 => ?_) (fun q11 => ?_)
      · have rq11 : ¬ r1.toInt = (109 : Int32).toInt := by rw [i_eq_iff] at q11; omega
        refine x_aload_n C 2 dX7_readClause_63 rfl rfl ?_
        refine x_aload_n C 3 dX7_readClause_64 rfl rfl ?_
        refine x_callVP C cl_X7_readTraveller kmX7_61 (ci := 6) (b := 1) (As := [.ref (z + b)]) (rest := []) rfl hn9 (tc_X7_readTraveller u8 hTu8.1 b hb) rfl rfl (Nat.le_of_ble_eq_true rfl) ⟨Nat.le_of_ble_eq_true rfl, Nat.le_of_ble_eq_true rfl⟩ ⟨Nat.le_of_ble_eq_true rfl, Nat.le_of_ble_eq_true rfl⟩ dX7_readClause_65 ?_
        rintro _ u12 ⟨ju12, rfl⟩
        have hTu12 := hTu8.tr ju12
        refine x_norm (st2 := []) rfl rfl rfl rfl rfl ?_
        exact x_vretP C hr hlk (Nat.le_refl _) (Nat.le_refl _) dX7_readClause_68 ⟨hTu12, rfl⟩
      · have rq11 : r1.toInt = (109 : Int32).toInt := by rw [i_eq_iff] at q11; omega
        refine x_aload_n C 2 dX7_readClause_55 rfl rfl ?_
        refine x_aload_n C 3 dX7_readClause_56 rfl rfl ?_
        refine x_callVP C cl_X7_readMatter kmX7_58 (ci := 6) (b := 1) (As := [.ref (z + b)]) (rest := []) rfl hn9 (tc_X7_readMatter u8 hTu8.1 b hb) rfl rfl (Nat.le_of_ble_eq_true rfl) ⟨Nat.le_of_ble_eq_true rfl, Nat.le_of_ble_eq_true rfl⟩ ⟨Nat.le_of_ble_eq_true rfl, Nat.le_of_ble_eq_true rfl⟩ dX7_readClause_57 ?_
        rintro _ u13 ⟨ju13, rfl⟩
        have hTu13 := hTu8.tr ju13
        refine x_norm (st2 := []) rfl rfl rfl rfl rfl ?_
        refine x_goto C 68 dX7_readClause_60 (by decide) ?_
        exact x_vretP C hr hlk (Nat.le_refl _) (Nat.le_refl _) dX7_readClause_68 ⟨hTu13, rfl⟩
    · have rq10 : r1.toInt = (107 : Int32).toInt := by rw [i_eq_iff] at q10; omega
      refine x_aload_n C 2 dX7_readClause_41 rfl rfl ?_
      refine x_aload_n C 3 dX7_readClause_42 rfl rfl ?_
      refine x_callVP C cl_X7_readRate kmX7_55 (ci := 6) (b := 1) (As := [.ref (z + b)]) (rest := []) rfl hn9 (tc_X7_readRate u8 hTu8.1 b hb) rfl rfl (Nat.le_of_ble_eq_true rfl) ⟨Nat.le_of_ble_eq_true rfl, Nat.le_of_ble_eq_true rfl⟩ ⟨Nat.le_of_ble_eq_true rfl, Nat.le_of_ble_eq_true rfl⟩ dX7_readClause_43 ?_
      rintro _ u14 ⟨ju14, rfl⟩
      have hTu14 := hTu8.tr ju14
      refine x_norm (st2 := []) rfl rfl rfl rfl rfl ?_
      refine x_goto C 68 dX7_readClause_46 (by decide) ?_
      exact x_vretP C hr hlk (Nat.le_refl _) (Nat.le_refl _) dX7_readClause_68 ⟨hTu14, rfl⟩
  · have rq6 : ¬ r4.toInt = (0 : Int32).toInt := by rw [i_eq_iff] at q6; omega
    refine x_aload_n C 2 dX7_readClause_15 rfl rfl ?_
    refine x_iload_n C 0 dX7_readClause_16 rfl rfl ?_
    refine x_aload_n C 2 dX7_readClause_17 rfl rfl ?_
    refine gfX7_19 C dX7_readClause_18 hc2 rfl ?_
    refine x_callVP C cl_X7_note kmX7_51 (ci := 6) (b := 1) (As := [.int r4, .int c2_2]) (rest := []) rfl hc2 (tc_X7_note uu0 hTy0.1 r4 c2_2) rfl rfl (Nat.le_of_ble_eq_true rfl) ⟨Nat.le_of_ble_eq_true rfl, Nat.le_of_ble_eq_true rfl⟩ ⟨Nat.le_of_ble_eq_true rfl, Nat.le_of_ble_eq_true rfl⟩ dX7_readClause_21 ?_
    rintro _ u15 ⟨ju15, rfl⟩
    have hTu15 := hTy0.tr ju15
    refine x_norm (st2 := []) rfl rfl rfl rfl rfl ?_
    exact x_vretP C hr hlk (Nat.le_refl _) (Nat.le_refl _) dX7_readClause_24 ⟨hTu15, rfl⟩
set_option maxRecDepth 20000 in
set_option maxHeartbeats 2000000 in
theorem tc_X7_readInto {G : GT} {l : Launch} {z n : Nat} {ln : Int} (uu0 : HpT) (hTz0 : TyC G z ln uu0) (b : Nat) (hb : BrO b) : Mp G l z yX7_readInto cX7_readInto 3 none { frames := 5, cells := 0, slots := 0, locals := 111 } [.ref (z + 1), .ref (z + b)] uu0 n (fun r v => TC G z ln uu0 v ∧ r = none) := by
  refine mp_of (by decide +kernel) (Nat.le_of_ble_eq_true rfl) ?_
  intro p e s m below meth c C hr hlk hnm
  have hbb_b : b = 112 ∨ b = 119 := hb
  have hTy0 : TC G z ln uu0 uu0 := TC.rf hTz0
  have J65 : ∀ (u_65 : HpT) (hT_65 : TC G z ln uu0 u_65) (x2_65 : Int32) (hl_x2_65 : 0 ≤ x2_65.toInt) (hh_x2_65 : x2_65.toInt ≤ 240), Xw p l e ({ frames := 5, cells := 0, slots := 0, locals := 111 } : Room) s m ([.ref (z + 1), .ref (z + b)] : List Value).toArray below meth c G z 3 (MQ below (Qp G z n (fun r v => TC G z ln uu0 v ∧ r = none)) ([.ref (z + 1), .ref (z + b)] : List Value).toArray s 0 0 (zA z)) 65 [(2, .int x2_65), (0, .ref (z + 1)), (1, .ref (z + b))] [] u_65 n 0 0 := by
    intro u_65 hT_65 x2_65 hl_x2_65 hh_x2_65
    refine x_aload_n C 1 dX7_readInto_65 rfl rfl ?_
    obtain ⟨c1_1, c1_2, c1_3, c1_4, hc1, qc1_0, qc1_1, qc1_2⟩ := ty_1 hT_65
    refine gfX7_22 C dX7_readInto_66 hc1 rfl ?_
    have l_0 : (0 : Int32).toInt = 0 := by decide
    refine x_if_ne C 76 dX7_readInto_69 (by decide) (fun q2 => ?_) (fun q2 => ?_)
    · have rq2 : ¬ c1_3.toInt = (0 : Int32).toInt := by rw [i_eq_iff] at q2; omega
      exact x_vretP C hr hlk (Nat.le_refl _) (Nat.le_refl _) dX7_readInto_76 ⟨hT_65, rfl⟩
    · have rq2 : c1_3.toInt = (0 : Int32).toInt := by rw [i_eq_iff] at q2; omega
      refine x_aload_n C 2 dX7_readInto_72 rfl rfl ?_
      obtain ⟨c3_0, c3_1, c3_2, c3_3, hc3, qc3_0, qc3_1, qc3_2, qc3_3⟩ := ty_br hT_65 hb
      refine x_callVP C cl_X1_settle kmX7_40 (ci := 0) (b := b) (As := []) (rest := []) rfl hc3 (tc_X1_settle u_65 hT_65.1 b hb) rfl rfl (Nat.le_of_ble_eq_true rfl) ⟨Nat.le_of_ble_eq_true rfl, Nat.le_of_ble_eq_true rfl⟩ ⟨Nat.le_of_ble_eq_true rfl, Nat.le_of_ble_eq_true rfl⟩ dX7_readInto_73 ?_
      rintro _ u4 ⟨ju4, rfl⟩
      have hTu4 := hT_65.tr ju4
      refine x_norm (st2 := []) rfl rfl rfl rfl rfl ?_
      exact x_vretP C hr hlk (Nat.le_refl _) (Nat.le_refl _) dX7_readInto_76 ⟨hTu4, rfl⟩
  have J25 : ∀ (d : Nat) (u_25 : HpT) (hT_25 : TC G z ln uu0 u_25) (x2_25 : Int32) (hl_x2_25 : 0 ≤ x2_25.toInt) (hh_x2_25 : x2_25.toInt ≤ 240) (hd : d = (241 - x2_25.toInt).toNat), Xw p l e ({ frames := 5, cells := 0, slots := 0, locals := 111 } : Room) s m ([.ref (z + 1), .ref (z + b)] : List Value).toArray below meth c G z 3 (MQ below (Qp G z n (fun r v => TC G z ln uu0 v ∧ r = none)) ([.ref (z + 1), .ref (z + b)] : List Value).toArray s 0 0 (zA z)) 25 [(2, .int x2_25), (0, .ref (z + 1)), (1, .ref (z + b))] [] u_25 n 0 0 := by
    intro d
    induction d using Nat.strongRecOn with
    | _ d ih25 =>
      intro u_25 hT_25 x2_25 hl_x2_25 hh_x2_25 hd25
      refine x_iload_n C 0 dX7_readInto_25 rfl rfl ?_
      refine x_sipush (v := (240 : Int32)) C dX7_readInto_26 (by decide) ?_
      have l_240 : (240 : Int32).toInt = 240 := by decide
      refine x_icmp_ge C 65 dX7_readInto_29 (by decide) (fun q5 => ?_) (fun q5 => ?_)
      · have rq5 : x2_25.toInt ≥ (240 : Int32).toInt := by rw [Int32.le_iff_toInt_le] at q5; omega
        exact J65 u_25 hT_25 x2_25 (by omega) (by omega)
      · have rq5 : x2_25.toInt < (240 : Int32).toInt := by rw [Int32.le_iff_toInt_le] at q5; omega
        refine x_aload_n C 1 dX7_readInto_32 rfl rfl ?_
        obtain ⟨c6_1, c6_2, c6_3, c6_4, hc6, qc6_0, qc6_1, qc6_2⟩ := ty_1 hT_25
        refine gfX7_19 C dX7_readInto_33 hc6 rfl ?_
        refine x_aload_n C 1 dX7_readInto_36 rfl rfl ?_
        refine gfX7_15 C dX7_readInto_37 hc6 rfl ?_
        refine x_icmp_ge C 65 dX7_readInto_40 (by decide) (fun q7 => ?_) (fun q7 => ?_)
        · have rq7 : c6_2.toInt ≥ c6_1.toInt := by rw [Int32.le_iff_toInt_le] at q7; omega
          exact J65 u_25 hT_25 x2_25 (by omega) (by omega)
        · have rq7 : c6_2.toInt < c6_1.toInt := by rw [Int32.le_iff_toInt_le] at q7; omega
          refine x_aload_n C 1 dX7_readInto_43 rfl rfl ?_
          refine gfX7_22 C dX7_readInto_44 hc6 rfl ?_
          have l_0 : (0 : Int32).toInt = 0 := by decide
          refine x_if_ne C 65 dX7_readInto_47 (by decide) (fun q8 => ?_) (fun q8 => ?_)
          · have rq8 : ¬ c6_3.toInt = (0 : Int32).toInt := by rw [i_eq_iff] at q8; omega
            exact J65 u_25 hT_25 x2_25 (by omega) (by omega)
          · have rq8 : c6_3.toInt = (0 : Int32).toInt := by rw [i_eq_iff] at q8; omega
            refine x_aload_n C 1 dX7_readInto_50 rfl rfl ?_
            refine x_aload_n C 2 dX7_readInto_51 rfl rfl ?_
            refine x_callVP C cl_X7_readClause kmX7_36 (ci := 6) (b := 1) (As := [.ref (z + b)]) (rest := []) rfl hc6 (tc_X7_readClause u_25 hT_25.1 b hb) rfl rfl (Nat.le_of_ble_eq_true rfl) ⟨Nat.le_of_ble_eq_true rfl, Nat.le_of_ble_eq_true rfl⟩ ⟨Nat.le_of_ble_eq_true rfl, Nat.le_of_ble_eq_true rfl⟩ dX7_readInto_52 ?_
            rintro _ u9 ⟨ju9, rfl⟩
            have hTu9 := hT_25.tr ju9
            refine x_norm (st2 := []) rfl rfl rfl rfl rfl ?_
            refine x_aload_n C 1 dX7_readInto_55 rfl rfl ?_
            obtain ⟨c10_1, c10_2, c10_3, c10_4, hc10, qc10_0, qc10_1, qc10_2⟩ := ty_1 hTu9
            refine x_callVP C cl_X7_skipBlanks kmX7_33 (ci := 6) (b := 1) (As := []) (rest := []) rfl hc10 (tc_X7_skipBlanks u9 hTu9.1) rfl rfl (Nat.le_of_ble_eq_true rfl) ⟨Nat.le_of_ble_eq_true rfl, Nat.le_of_ble_eq_true rfl⟩ ⟨Nat.le_of_ble_eq_true rfl, Nat.le_of_ble_eq_true rfl⟩ dX7_readInto_56 ?_
            rintro _ u11 ⟨ju11, rfl⟩
            have hTu11 := hTu9.tr ju11
            refine x_norm (st2 := []) rfl rfl rfl rfl rfl ?_
            have l_1 : (1 : Int32).toInt = 1 := by decide
            obtain ⟨w12, ew12⟩ : ∃ w : Int32, w = x2_25 + Int32.ofInt 1 := ⟨_, rfl⟩
            have fw12 : w12.toInt = x2_25.toInt + (1) := by rw [ew12]; exact i_addk (by decide) (by omega) (by omega)
            refine x_iinc (v := w12) C 0 [(2, .int w12), (0, .ref (z + 1)), (1, .ref (z + b))] dX7_readInto_59 rfl ew12.symm (by decide) rfl ?_
            refine x_goto C 25 dX7_readInto_62 (by decide) ?_
            exact ih25 (241 - w12.toInt).toNat (by omega) u11 hTu11 w12 (by omega) (by omega) rfl
  refine x_aload_n C 0 dX7_readInto_0 rfl rfl ?_
  refine x_iconst (v := (0 : Int32)) C dX7_readInto_1 (by decide) ?_
  obtain ⟨c13_1, c13_2, c13_3, c13_4, hc13, qc13_0, qc13_1, qc13_2⟩ := ty_1 hTy0
  have l_0 : (0 : Int32).toInt = 0 := by decide
  obtain ⟨u14, eu14⟩ : ∃ w : HpT, w = hup uu0 1 (.inr (6, [.ref (z + 2), .int c13_1, .int (0 : Int32), .int c13_3, .int c13_4])) := ⟨_, rfl⟩
  refine pfX7_19 C dX7_readInto_2 hc13 (Nat.le_of_ble_eq_true rfl) rfl eu14.symm ?_
  have hTu14 : TC G z ln uu0 u14 := by rw [eu14]; exact hTy0.up_1 (by omega)
  have hn15 := (congrFun eu14 1).trans (hup_s _ _ _)
  refine x_aload_n C 0 dX7_readInto_5 rfl rfl ?_
  refine x_iconst (v := (0 : Int32)) C dX7_readInto_6 (by decide) ?_
  obtain ⟨u16, eu16⟩ : ∃ w : HpT, w = hup u14 1 (.inr (6, [.ref (z + 2), .int c13_1, .int (0 : Int32), .int (0 : Int32), .int c13_4])) := ⟨_, rfl⟩
  refine pfX7_22 C dX7_readInto_7 hn15 (Nat.le_of_ble_eq_true rfl) rfl eu16.symm ?_
  have hTu16 : TC G z ln uu0 u16 := by rw [eu16]; exact hTu14.up_1 (by omega)
  have hn17 := (congrFun eu16 1).trans (hup_s _ _ _)
  refine x_aload_n C 0 dX7_readInto_10 rfl rfl ?_
  refine x_iconst (v := (-1 : Int32)) C dX7_readInto_11 (by decide) ?_
  have l_m1 : (-1 : Int32).toInt = -1 := by decide
  obtain ⟨u18, eu18⟩ : ∃ w : HpT, w = hup u16 1 (.inr (6, [.ref (z + 2), .int c13_1, .int (0 : Int32), .int (0 : Int32), .int (-1 : Int32)])) := ⟨_, rfl⟩
  refine pfX7_25 C dX7_readInto_12 hn17 (Nat.le_of_ble_eq_true rfl) rfl eu18.symm ?_
  have hTu18 : TC G z ln uu0 u18 := by rw [eu18]; exact hTu16.up_1 (by omega)
  have hn19 := (congrFun eu18 1).trans (hup_s _ _ _)
  refine x_aload_n C 1 dX7_readInto_15 rfl rfl ?_
  obtain ⟨c20_0, c20_1, c20_2, c20_3, hc20, qc20_0, qc20_1, qc20_2, qc20_3⟩ := ty_br hTu18 hb
  refine x_callVP C cl_X1_clear kmX7_28 (ci := 0) (b := b) (As := []) (rest := []) rfl hc20 (tc_X1_clear u18 hTu18.1 b hb) rfl rfl (Nat.le_of_ble_eq_true rfl) ⟨Nat.le_of_ble_eq_true rfl, Nat.le_of_ble_eq_true rfl⟩ ⟨Nat.le_of_ble_eq_true rfl, Nat.le_of_ble_eq_true rfl⟩ dX7_readInto_16 ?_
  rintro _ u21 ⟨ju21, rfl⟩
  have hTu21 := hTu18.tr ju21
  refine x_norm (st2 := []) rfl rfl rfl rfl rfl ?_
  refine x_aload_n C 0 dX7_readInto_19 rfl rfl ?_
  obtain ⟨c22_1, c22_2, c22_3, c22_4, hc22, qc22_0, qc22_1, qc22_2⟩ := ty_1 hTu21
  refine x_callVP C cl_X7_skipBlanks kmX7_33 (ci := 6) (b := 1) (As := []) (rest := []) rfl hc22 (tc_X7_skipBlanks u21 hTu21.1) rfl rfl (Nat.le_of_ble_eq_true rfl) ⟨Nat.le_of_ble_eq_true rfl, Nat.le_of_ble_eq_true rfl⟩ ⟨Nat.le_of_ble_eq_true rfl, Nat.le_of_ble_eq_true rfl⟩ dX7_readInto_20 ?_
  rintro _ u23 ⟨ju23, rfl⟩
  have hTu23 := hTu21.tr ju23
  refine x_norm (st2 := []) rfl rfl rfl rfl rfl ?_
  refine x_iconst (v := (0 : Int32)) C dX7_readInto_23 (by decide) ?_
  refine x_istore_n C [(2, .int (0 : Int32)), (0, .ref (z + 1)), (1, .ref (z + b))] dX7_readInto_24 rfl (by decide) rfl ?_
  exact J25 (241 - (0 : Int32).toInt).toNat u23 hTu23 (0 : Int32) (by omega) (by omega) rfl
