set_option maxRecDepth 20000 in
set_option maxHeartbeats 2000000 in
theorem tc_X3_emptySeat {G : GT} {l : Launch} {z n : Nat} {ln : Int} (uu0 : HpT) (hTz0 : TyC G z ln uu0) : Mp G l z yX3_emptySeat cX3_emptySeat 1 none { frames := 0, cells := 0, slots := 0, locals := 0 } [.ref (z + 3)] uu0 n (fun r v => TC G z ln uu0 v ∧ r = none) := by
  refine mp_of (by decide +kernel) (Nat.le_of_ble_eq_true rfl) ?_
  intro p e s m below meth c C hr hlk hnm
  have hTy0 : TC G z ln uu0 uu0 := TC.rf hTz0
  refine x_aload_n C 0 dX3_emptySeat_0 rfl rfl ?_
  refine x_iconst (v := (-1 : Int32)) C dX3_emptySeat_1 (by decide) ?_
  obtain ⟨c1_0, c1_1, c1_2, c1_3, c1_4, c1_5, c1_6, c1_7, c1_8, c1_9, hc1⟩ := ty_ev hTy0 (Or.inl rfl)
  have l_m1 : (-1 : Int32).toInt = -1 := by decide
  obtain ⟨u2, eu2⟩ : ∃ w : HpT, w = hup uu0 3 (.inr (2, [.int c1_0, .int c1_1, .int c1_2, .int c1_3, .int (-1 : Int32), .int c1_5, .int c1_6, .int c1_7, .int c1_8, .int c1_9, .ref (z + (3 + 1)), .ref (z + (3 + 2))])) := ⟨_, rfl⟩
  refine pfX3_24 C dX3_emptySeat_2 hc1 (Nat.le_of_ble_eq_true rfl) rfl eu2.symm ?_
  have hTu2 : TC G z ln uu0 u2 := by rw [eu2]; exact hTy0.upEv (Or.inl rfl)
  have hn3 := (congrFun eu2 3).trans (hup_s _ _ _)
  refine x_aload_n C 0 dX3_emptySeat_5 rfl rfl ?_
  refine x_iconst (v := (0 : Int32)) C dX3_emptySeat_6 (by decide) ?_
  have l_0 : (0 : Int32).toInt = 0 := by decide
  obtain ⟨u4, eu4⟩ : ∃ w : HpT, w = hup u2 3 (.inr (2, [.int c1_0, .int c1_1, .int c1_2, .int c1_3, .int (-1 : Int32), .int (0 : Int32), .int c1_6, .int c1_7, .int c1_8, .int c1_9, .ref (z + (3 + 1)), .ref (z + (3 + 2))])) := ⟨_, rfl⟩
  refine pfX3_27 C dX3_emptySeat_7 hn3 (Nat.le_of_ble_eq_true rfl) rfl eu4.symm ?_
  have hTu4 : TC G z ln uu0 u4 := by rw [eu4]; exact hTu2.upEv (Or.inl rfl)
  have hn5 := (congrFun eu4 3).trans (hup_s _ _ _)
  refine x_aload_n C 0 dX3_emptySeat_10 rfl rfl ?_
  refine x_iconst (v := (-1 : Int32)) C dX3_emptySeat_11 (by decide) ?_
  obtain ⟨u6, eu6⟩ : ∃ w : HpT, w = hup u4 3 (.inr (2, [.int c1_0, .int c1_1, .int c1_2, .int c1_3, .int (-1 : Int32), .int (0 : Int32), .int (-1 : Int32), .int c1_7, .int c1_8, .int c1_9, .ref (z + (3 + 1)), .ref (z + (3 + 2))])) := ⟨_, rfl⟩
  refine pfX3_30 C dX3_emptySeat_12 hn5 (Nat.le_of_ble_eq_true rfl) rfl eu6.symm ?_
  have hTu6 : TC G z ln uu0 u6 := by rw [eu6]; exact hTu4.upEv (Or.inl rfl)
  have hn7 := (congrFun eu6 3).trans (hup_s _ _ _)
  exact x_vretP C hr hlk (Nat.le_refl _) (Nat.le_refl _) dX3_emptySeat_15 ⟨hTu6, rfl⟩
set_option maxRecDepth 20000 in
set_option maxHeartbeats 2000000 in
theorem tc_X3_takeSeat {G : GT} {l : Launch} {z n : Nat} {ln : Int} (uu0 : HpT) (hTz0 : TyC G z ln uu0) (a1 : Int32) : Mp G l z yX3_takeSeat cX3_takeSeat 2 none { frames := 0, cells := 0, slots := 0, locals := 0 } [.ref (z + 3), .int a1] uu0 n (fun r v => TC G z ln uu0 v ∧ r = none) := by
  refine mp_of (by decide +kernel) (Nat.le_of_ble_eq_true rfl) ?_
  intro p e s m below meth c C hr hlk hnm
  have hTy0 : TC G z ln uu0 uu0 := TC.rf hTz0
  refine x_aload_n C 0 dX3_takeSeat_0 rfl rfl ?_
  refine x_dup C dX3_takeSeat_1 rfl ?_
  obtain ⟨c1_0, c1_1, c1_2, c1_3, c1_4, c1_5, c1_6, c1_7, c1_8, c1_9, hc1⟩ := ty_ev hTy0 (Or.inl rfl)
  refine gfX3_33 C dX3_takeSeat_2 hc1 rfl ?_
  refine x_iconst (v := (1 : Int32)) C dX3_takeSeat_5 (by decide) ?_
  refine x_iload_n C 1 dX3_takeSeat_6 rfl rfl ?_
  refine x_ishl C dX3_takeSeat_7 ?_
  have l_1 : (1 : Int32).toInt = 1 := by decide
  refine x_top (fun w2 ew2 => ?_)
  refine x_iconst (v := (-1 : Int32)) C dX3_takeSeat_8 (by decide) ?_
  refine x_ixor C dX3_takeSeat_9 ?_
  have l_m1 : (-1 : Int32).toInt = -1 := by decide
  refine x_top (fun w3 ew3 => ?_)
  refine x_iand C dX3_takeSeat_10 ?_
  refine x_top (fun w4 ew4 => ?_)
  obtain ⟨u5, eu5⟩ : ∃ w : HpT, w = hup uu0 3 (.inr (2, [.int c1_0, .int c1_1, .int c1_2, .int c1_3, .int c1_4, .int c1_5, .int c1_6, .int w4, .int c1_8, .int c1_9, .ref (z + (3 + 1)), .ref (z + (3 + 2))])) := ⟨_, rfl⟩
  refine pfX3_33 C dX3_takeSeat_11 hc1 (Nat.le_of_ble_eq_true rfl) rfl eu5.symm ?_
  have hTu5 : TC G z ln uu0 u5 := by rw [eu5]; exact hTy0.upEv (Or.inl rfl)
  have hn6 := (congrFun eu5 3).trans (hup_s _ _ _)
  refine x_aload_n C 0 dX3_takeSeat_14 rfl rfl ?_
  refine x_iload_n C 1 dX3_takeSeat_15 rfl rfl ?_
  obtain ⟨u7, eu7⟩ : ∃ w : HpT, w = hup u5 3 (.inr (2, [.int c1_0, .int c1_1, .int c1_2, .int c1_3, .int a1, .int c1_5, .int c1_6, .int w4, .int c1_8, .int c1_9, .ref (z + (3 + 1)), .ref (z + (3 + 2))])) := ⟨_, rfl⟩
  refine pfX3_24 C dX3_takeSeat_16 hn6 (Nat.le_of_ble_eq_true rfl) rfl eu7.symm ?_
  have hTu7 : TC G z ln uu0 u7 := by rw [eu7]; exact hTu5.upEv (Or.inl rfl)
  have hn8 := (congrFun eu7 3).trans (hup_s _ _ _)
  exact x_vretP C hr hlk (Nat.le_refl _) (Nat.le_refl _) dX3_takeSeat_19 ⟨hTu7, rfl⟩
set_option maxRecDepth 20000 in
set_option maxHeartbeats 2000000 in
theorem tc_X3_canHear {G : GT} {l : Launch} {z n : Nat} {ln : Int} (uu0 : HpT) (hTz0 : TyC G z ln uu0) (a1 : Int32) : Mp G l z yX3_canHear cX3_canHear 2 (some .boolean) { frames := 1, cells := 0, slots := 0, locals := 21 } [.ref (z + 3), .int a1] uu0 n (fun r v => uu0 = v ∧ ∃ x : Int32, r = some (.int x) ∧ 0 ≤ x.toInt ∧ x.toInt ≤ 1) := by
  refine mp_of (by decide +kernel) (Nat.le_of_ble_eq_true rfl) ?_
  intro p e s m below meth c C hr hlk hnm
  have hTy0 : TC G z ln uu0 uu0 := TC.rf hTz0
  have J34 : Xw p l e ({ frames := 1, cells := 0, slots := 0, locals := 21 } : Room) s m ([.ref (z + 3), .int a1] : List Value).toArray below meth c G z 2 (MQ below (Qp G z n (fun r v => uu0 = v ∧ ∃ x : Int32, r = some (.int x) ∧ 0 ≤ x.toInt ∧ x.toInt ≤ 1)) ([.ref (z + 3), .int a1] : List Value).toArray s 0 0 (zA z)) 34 [(0, .ref (z + 3)), (1, .int a1)] [] uu0 n 0 0 := by
    refine x_iconst (v := (0 : Int32)) C dX3_canHear_34 (by decide) ?_
    have l_0 : (0 : Int32).toInt = 0 := by decide
    exact x_zretP C hr hlk (Nat.le_refl _) (Nat.le_refl _) dX3_canHear_35 (i_bool (by omega)) ⟨rfl, (0 : Int32), rfl, by omega⟩
  refine x_aload_n C 0 dX3_canHear_0 rfl rfl ?_
  obtain ⟨c1_0, c1_1, c1_2, c1_3, c1_4, c1_5, c1_6, c1_7, c1_8, c1_9, hc1⟩ := ty_ev hTy0 (Or.inl rfl)
  refine gfX3_24 C dX3_canHear_1 hc1 rfl ?_
  refine x_iconst (v := (-1 : Int32)) C dX3_canHear_4 (by decide) ?_
  have l_m1 : (-1 : Int32).toInt = -1 := by decide
  refine x_icmp_eq C 34 dX3_canHear_5 (by decide) (fun q2 => ?_) (fun q2 => ?_)
  · have rq2 : c1_4.toInt = (-1 : Int32).toInt := by rw [i_eq_iff] at q2; omega
    exact J34  
  · have rq2 : ¬ c1_4.toInt = (-1 : Int32).toInt := by rw [i_eq_iff] at q2; omega
    refine x_aload_n C 0 dX3_canHear_8 rfl rfl ?_
    refine gfX3_21 C dX3_canHear_9 hc1 rfl ?_
    refine x_iload_n C 1 dX3_canHear_12 rfl rfl ?_
    refine x_callSNP C cl_X9_holds knX3_68 (As := [.int c1_3, .int a1]) (rest := []) (tc_X9_holds uu0 hTy0.1 c1_3 a1) rfl rfl (Nat.le_of_ble_eq_true rfl) ⟨Nat.le_of_ble_eq_true rfl, Nat.le_of_ble_eq_true rfl⟩ ⟨Nat.le_of_ble_eq_true rfl, Nat.le_of_ble_eq_true rfl⟩ dX3_canHear_13 ?_
    rintro _ _ ⟨rfl, r3, rfl, gr3⟩
    refine x_norm (st2 := [.int r3]) rfl rfl rfl rfl rfl ?_
    have l_0 : (0 : Int32).toInt = 0 := by decide
    refine x_if_eq C 34 dX3_canHear_16 (by decide) (fun q5 => ?_) (fun q5 => ?_)
    · have rq5 : r3.toInt = (0 : Int32).toInt := by rw [i_eq_iff] at q5; omega
      exact J34  
    · have rq5 : ¬ r3.toInt = (0 : Int32).toInt := by rw [i_eq_iff] at q5; omega
      refine x_aload_n C 0 dX3_canHear_19 rfl rfl ?_
      refine gfX3_27 C dX3_canHear_20 hc1 rfl ?_
      refine x_iload_n C 1 dX3_canHear_23 rfl rfl ?_
      refine x_callSNP C cl_X9_holds knX3_68 (As := [.int c1_5, .int a1]) (rest := []) (tc_X9_holds uu0 hTy0.1 c1_5 a1) rfl rfl (Nat.le_of_ble_eq_true rfl) ⟨Nat.le_of_ble_eq_true rfl, Nat.le_of_ble_eq_true rfl⟩ ⟨Nat.le_of_ble_eq_true rfl, Nat.le_of_ble_eq_true rfl⟩ dX3_canHear_24 ?_
      rintro _ _ ⟨rfl, r6, rfl, gr6⟩
      refine x_norm (st2 := [.int r6]) rfl rfl rfl rfl rfl ?_
      refine x_if_ne C 34 dX3_canHear_27 (by decide) (fun q8 => ?_) (fun q8 => ?_)
      · have rq8 : ¬ r6.toInt = (0 : Int32).toInt := by rw [i_eq_iff] at q8; omega
        exact J34  
      · have rq8 : r6.toInt = (0 : Int32).toInt := by rw [i_eq_iff] at q8; omega
        refine x_iconst (v := (1 : Int32)) C dX3_canHear_30 (by decide) ?_
        refine x_goto C 35 dX3_canHear_31 (by decide) ?_
        have l_1 : (1 : Int32).toInt = 1 := by decide
        exact x_zretP C hr hlk (Nat.le_refl _) (Nat.le_refl _) dX3_canHear_35 (i_bool (by omega)) ⟨rfl, (1 : Int32), rfl, by omega⟩
set_option maxRecDepth 20000 in
set_option maxHeartbeats 2000000 in
theorem tc_X3_takeUp {G : GT} {l : Launch} {z n : Nat} {ln : Int} (uu0 : HpT) (hTz0 : TyC G z ln uu0) (a1 : Int32) : Mp G l z yX3_takeUp cX3_takeUp 3 none { frames := 0, cells := 0, slots := 0, locals := 0 } [.ref (z + 3), .int a1] uu0 n (fun r v => TC G z ln uu0 v ∧ r = none) := by
  refine mp_of (by decide +kernel) (Nat.le_of_ble_eq_true rfl) ?_
  intro p e s m below meth c C hr hlk hnm
  have hTy0 : TC G z ln uu0 uu0 := TC.rf hTz0
  refine x_iload_n C 1 dX3_takeUp_0 rfl rfl ?_
  refine x_aload_n C 0 dX3_takeUp_1 rfl rfl ?_
  obtain ⟨c1_0, c1_1, c1_2, c1_3, c1_4, c1_5, c1_6, c1_7, c1_8, c1_9, hc1⟩ := ty_ev hTy0 (Or.inl rfl)
  refine gfX3_21 C dX3_takeUp_2 hc1 rfl ?_
  refine x_iconst (v := (-1 : Int32)) C dX3_takeUp_5 (by decide) ?_
  refine x_ixor C dX3_takeUp_6 ?_
  have l_m1 : (-1 : Int32).toInt = -1 := by decide
  refine x_top (fun w2 ew2 => ?_)
  refine x_iand C dX3_takeUp_7 ?_
  refine x_top (fun w3 ew3 => ?_)
  refine x_istore_n C [(2, .int w3), (0, .ref (z + 3)), (1, .int a1)] dX3_takeUp_8 rfl (by decide) rfl ?_
  refine x_aload_n C 1 dX3_takeUp_9 rfl rfl ?_
  refine x_dup C dX3_takeUp_10 rfl ?_
  refine gfX3_21 C dX3_takeUp_11 hc1 rfl ?_
  refine x_iload_n C 0 dX3_takeUp_14 rfl rfl ?_
  refine x_iload_n C 0 dX3_takeUp_15 rfl rfl ?_
  refine x_ineg C dX3_takeUp_16 ?_
  refine x_top (fun w4 ew4 => ?_)
  refine x_iand C dX3_takeUp_17 ?_
  refine x_top (fun w5 ew5 => ?_)
  refine x_ior C dX3_takeUp_18 ?_
  refine x_top (fun w6 ew6 => ?_)
  obtain ⟨u7, eu7⟩ : ∃ w : HpT, w = hup uu0 3 (.inr (2, [.int c1_0, .int c1_1, .int c1_2, .int w6, .int c1_4, .int c1_5, .int c1_6, .int c1_7, .int c1_8, .int c1_9, .ref (z + (3 + 1)), .ref (z + (3 + 2))])) := ⟨_, rfl⟩
  refine pfX3_21 C dX3_takeUp_19 hc1 (Nat.le_of_ble_eq_true rfl) rfl eu7.symm ?_
  have hTu7 : TC G z ln uu0 u7 := by rw [eu7]; exact hTy0.upEv (Or.inl rfl)
  have hn8 := (congrFun eu7 3).trans (hup_s _ _ _)
  exact x_vretP C hr hlk (Nat.le_refl _) (Nat.le_refl _) dX3_takeUp_22 ⟨hTu7, rfl⟩
set_option maxRecDepth 20000 in
set_option maxHeartbeats 2000000 in
theorem tc_X3_gather {G : GT} {l : Launch} {z n : Nat} {ln : Int} (uu0 : HpT) (hTz0 : TyC G z ln uu0) (b : Nat) (hb : BrO b) : Mp G l z yX3_gather cX3_gather 3 none { frames := 1, cells := 0, slots := 0, locals := 20 } [.ref (z + 3), .ref (z + b)] uu0 n (fun r v => TC G z ln uu0 v ∧ r = none) := by
  refine mp_of (by decide +kernel) (Nat.le_of_ble_eq_true rfl) ?_
  intro p e s m below meth c C hr hlk hnm
  have hbb_b : b = 112 ∨ b = 119 := hb
  have hTy0 : TC G z ln uu0 uu0 := TC.rf hTz0
  have J27 : ∀ (d : Nat) (u_27 : HpT) (hT_27 : TC G z ln uu0 u_27) (x2_27 : Int32) (hl_x2_27 : 0 ≤ x2_27.toInt) (hh_x2_27 : x2_27.toInt ≤ 6) (hd : d = (7 - x2_27.toInt).toNat), Xw p l e ({ frames := 1, cells := 0, slots := 0, locals := 20 } : Room) s m ([.ref (z + 3), .ref (z + b)] : List Value).toArray below meth c G z 3 (MQ below (Qp G z n (fun r v => TC G z ln uu0 v ∧ r = none)) ([.ref (z + 3), .ref (z + b)] : List Value).toArray s 0 0 (zA z)) 27 [(2, .int x2_27), (0, .ref (z + 3)), (1, .ref (z + b))] [] u_27 n 0 0 := by
    intro d
    induction d using Nat.strongRecOn with
    | _ d ih27 =>
      intro u_27 hT_27 x2_27 hl_x2_27 hh_x2_27 hd27
      refine x_iload_n C 0 dX3_gather_27 rfl rfl ?_
      refine x_bipush (v := (6 : Int32)) C dX3_gather_28 (by decide) ?_
      have l_6 : (6 : Int32).toInt = 6 := by decide
      refine x_icmp_ge C 53 dX3_gather_30 (by decide) (fun q1 => ?_) (fun q1 => ?_)
      · have rq1 : x2_27.toInt ≥ (6 : Int32).toInt := by rw [Int32.le_iff_toInt_le] at q1; omega
        exact x_vretP C hr hlk (Nat.le_refl _) (Nat.le_refl _) dX3_gather_53 ⟨hT_27, rfl⟩
      · have rq1 : x2_27.toInt < (6 : Int32).toInt := by rw [Int32.le_iff_toInt_le] at q1; omega
        refine x_aload_n C 1 dX3_gather_33 rfl rfl ?_
        obtain ⟨c2_0, c2_1, c2_2, c2_3, c2_4, c2_5, c2_6, c2_7, c2_8, c2_9, hc2⟩ := ty_ev hT_27 (Or.inl rfl)
        refine gfX3_42 C dX3_gather_34 hc2 rfl ?_
        refine x_iload_n C 0 dX3_gather_37 rfl rfl ?_
        refine x_iconst (v := (0 : Int32)) C dX3_gather_38 (by decide) ?_
        obtain ⟨f3, hf3⟩ := ty_evA hT_27 (Or.inl rfl) 1 (by decide) (by decide)
        have l_0 : (0 : Int32).toInt = 0 := by decide
        refine x_iast C hf3 (i_in (by omega) (by omega)) dX3_gather_39 ?_
        obtain ⟨u4, eu4⟩ : ∃ w : HpT, w = hup u_27 (3 + 1) (aI G 6 (upd f3 x2_27.toNatClampNeg (0 : Int32))) := ⟨_, rfl⟩
        refine x_heap (u2 := u4) eu4.symm ?_
        have hTu4 : TC G z ln uu0 u4 := by rw [eu4]; exact hT_27.upEvA (Or.inl rfl) 1 (by decide) (by decide)
        have hn6 := (congrFun eu4 (3 + 1)).trans (hup_s _ _ _)
        generalize (upd f3 x2_27.toNatClampNeg (0 : Int32)) = f7 at *
        refine x_aload_n C 1 dX3_gather_40 rfl rfl ?_
        have k8 := (congrFun eu4 3).trans (hup_n' (by omega) hc2)
        refine gfX3_46 C dX3_gather_41 k8 rfl ?_
        refine x_iload_n C 0 dX3_gather_44 rfl rfl ?_
        refine x_iconst (v := (0 : Int32)) C dX3_gather_45 (by decide) ?_
        obtain ⟨f9, hf9⟩ := ty_evA hTu4 (Or.inl rfl) 2 (by decide) (by decide)
        refine x_iast C hf9 (i_in (by omega) (by omega)) dX3_gather_46 ?_
        obtain ⟨u10, eu10⟩ : ∃ w : HpT, w = hup u4 (3 + 2) (aI G 6 (upd f9 x2_27.toNatClampNeg (0 : Int32))) := ⟨_, rfl⟩
        refine x_heap (u2 := u10) eu10.symm ?_
        have hTu10 : TC G z ln uu0 u10 := by rw [eu10]; exact hTu4.upEvA (Or.inl rfl) 2 (by decide) (by decide)
        have hn13 := (congrFun eu10 (3 + 2)).trans (hup_s _ _ _)
        generalize (upd f9 x2_27.toNatClampNeg (0 : Int32)) = f14 at *
        have l_1 : (1 : Int32).toInt = 1 := by decide
        obtain ⟨w15, ew15⟩ : ∃ w : Int32, w = x2_27 + Int32.ofInt 1 := ⟨_, rfl⟩
        have fw15 : w15.toInt = x2_27.toInt + (1) := by rw [ew15]; exact i_addk (by decide) (by omega) (by omega)
        refine x_iinc (v := w15) C 0 [(2, .int w15), (0, .ref (z + 3)), (1, .ref (z + b))] dX3_gather_47 rfl ew15.symm (by decide) rfl ?_
        refine x_goto C 27 dX3_gather_50 (by decide) ?_
        exact ih27 (7 - w15.toInt).toNat (by omega) u10 hTu10 w15 (by omega) (by omega) rfl
  refine x_aload_n C 0 dX3_gather_0 rfl rfl ?_
  obtain ⟨c16_0, c16_1, c16_2, c16_3, c16_4, c16_5, c16_6, c16_7, c16_8, c16_9, hc16⟩ := ty_ev hTy0 (Or.inl rfl)
  refine x_callVP C cl_X3_emptySeat kmX3_58 (ci := 2) (b := 3) (As := []) (rest := []) rfl hc16 (tc_X3_emptySeat uu0 hTy0.1) rfl rfl (Nat.le_of_ble_eq_true rfl) ⟨Nat.le_of_ble_eq_true rfl, Nat.le_of_ble_eq_true rfl⟩ ⟨Nat.le_of_ble_eq_true rfl, Nat.le_of_ble_eq_true rfl⟩ dX3_gather_1 ?_
  rintro _ u17 ⟨ju17, rfl⟩
  have hTu17 := hTy0.tr ju17
  refine x_norm (st2 := []) rfl rfl rfl rfl rfl ?_
  refine x_aload_n C 0 dX3_gather_4 rfl rfl ?_
  refine x_aload_n C 1 dX3_gather_5 rfl rfl ?_
  obtain ⟨c18_0, c18_1, c18_2, c18_3, hc18, qc18_0, qc18_1, qc18_2, qc18_3⟩ := ty_br hTu17 hb
  refine gfX3_61 C dX3_gather_6 hc18 rfl ?_
  refine x_callSNP C cl_X9_setOfFirst knX3_64 (As := [.int c18_3]) (rest := [.ref (z + 3)]) (tc_X9_setOfFirst u17 hTu17.1 c18_3 (by omega) (by omega)) rfl rfl (Nat.le_of_ble_eq_true rfl) ⟨Nat.le_of_ble_eq_true rfl, Nat.le_of_ble_eq_true rfl⟩ ⟨Nat.le_of_ble_eq_true rfl, Nat.le_of_ble_eq_true rfl⟩ dX3_gather_9 ?_
  rintro _ _ ⟨rfl, r19, rfl, gr19⟩
  refine x_norm (st2 := [.int r19, .ref (z + 3)]) rfl rfl rfl rfl rfl ?_
  obtain ⟨c21_0, c21_1, c21_2, c21_3, c21_4, c21_5, c21_6, c21_7, c21_8, c21_9, hc21⟩ := ty_ev hTu17 (Or.inl rfl)
  obtain ⟨u22, eu22⟩ : ∃ w : HpT, w = hup u17 3 (.inr (2, [.int c21_0, .int c21_1, .int c21_2, .int c21_3, .int c21_4, .int c21_5, .int c21_6, .int r19, .int c21_8, .int c21_9, .ref (z + (3 + 1)), .ref (z + (3 + 2))])) := ⟨_, rfl⟩
  refine pfX3_33 C dX3_gather_12 hc21 (Nat.le_of_ble_eq_true rfl) rfl eu22.symm ?_
  have hTu22 : TC G z ln uu0 u22 := by rw [eu22]; exact hTu17.upEv (Or.inl rfl)
  have hn24 := (congrFun eu22 3).trans (hup_s _ _ _)
  refine x_aload_n C 0 dX3_gather_15 rfl rfl ?_
  refine x_iconst (v := (0 : Int32)) C dX3_gather_16 (by decide) ?_
  have l_0 : (0 : Int32).toInt = 0 := by decide
  obtain ⟨u25, eu25⟩ : ∃ w : HpT, w = hup u22 3 (.inr (2, [.int c21_0, .int c21_1, .int c21_2, .int c21_3, .int c21_4, .int c21_5, .int c21_6, .int r19, .int (0 : Int32), .int c21_9, .ref (z + (3 + 1)), .ref (z + (3 + 2))])) := ⟨_, rfl⟩
  refine pfX3_36 C dX3_gather_17 hn24 (Nat.le_of_ble_eq_true rfl) rfl eu25.symm ?_
  have hTu25 : TC G z ln uu0 u25 := by rw [eu25]; exact hTu22.upEv (Or.inl rfl)
  have hn27 := (congrFun eu25 3).trans (hup_s _ _ _)
  refine x_aload_n C 0 dX3_gather_20 rfl rfl ?_
  refine x_iconst (v := (0 : Int32)) C dX3_gather_21 (by decide) ?_
  obtain ⟨u28, eu28⟩ : ∃ w : HpT, w = hup u25 3 (.inr (2, [.int c21_0, .int c21_1, .int c21_2, .int c21_3, .int c21_4, .int c21_5, .int c21_6, .int r19, .int (0 : Int32), .int (0 : Int32), .ref (z + (3 + 1)), .ref (z + (3 + 2))])) := ⟨_, rfl⟩
  refine pfX3_39 C dX3_gather_22 hn27 (Nat.le_of_ble_eq_true rfl) rfl eu28.symm ?_
  have hTu28 : TC G z ln uu0 u28 := by rw [eu28]; exact hTu25.upEv (Or.inl rfl)
  have hn30 := (congrFun eu28 3).trans (hup_s _ _ _)
  refine x_iconst (v := (0 : Int32)) C dX3_gather_25 (by decide) ?_
  refine x_istore_n C [(2, .int (0 : Int32)), (0, .ref (z + 3)), (1, .ref (z + b))] dX3_gather_26 rfl (by decide) rfl ?_
  exact J27 (7 - (0 : Int32).toInt).toNat u28 hTu28 (0 : Int32) (by omega) (by omega) rfl
set_option maxRecDepth 20000 in
set_option maxHeartbeats 2000000 in
theorem tc_X3_begin {G : GT} {l : Launch} {z n : Nat} {ln : Int} (uu0 : HpT) (hTz0 : TyC G z ln uu0) (b : Nat) (hb : BrO b) : Mp G l z yX3_begin cX3_begin 2 none { frames := 2, cells := 0, slots := 0, locals := 42 } [.ref (z + 3), .ref (z + b)] uu0 n (fun r v => TC G z ln uu0 v ∧ r = none) := by
  refine mp_of (by decide +kernel) (Nat.le_of_ble_eq_true rfl) ?_
  intro p e s m below meth c C hr hlk hnm
  have hbb_b : b = 112 ∨ b = 119 := hb
  have hTy0 : TC G z ln uu0 uu0 := TC.rf hTz0
  have J28 : ∀ (u_28 : HpT) (hT_28 : TC G z ln uu0 u_28) (y0_28 : Int32) (hl_y0_28 : 0 ≤ y0_28.toInt) (hh_y0_28 : y0_28.toInt ≤ 1), Xw p l e ({ frames := 2, cells := 0, slots := 0, locals := 42 } : Room) s m ([.ref (z + 3), .ref (z + b)] : List Value).toArray below meth c G z 2 (MQ below (Qp G z n (fun r v => TC G z ln uu0 v ∧ r = none)) ([.ref (z + 3), .ref (z + b)] : List Value).toArray s 0 0 (zA z)) 28 [(0, .ref (z + 3)), (1, .ref (z + b))] [.int y0_28, .ref (z + 3)] u_28 n 0 0 := by
    intro u_28 hT_28 y0_28 hl_y0_28 hh_y0_28
    obtain ⟨c1_0, c1_1, c1_2, c1_3, c1_4, c1_5, c1_6, c1_7, c1_8, c1_9, hc1⟩ := ty_ev hT_28 (Or.inl rfl)
    obtain ⟨u2, eu2⟩ : ∃ w : HpT, w = hup u_28 3 (.inr (2, [.int c1_0, .int c1_1, .int c1_2, .int y0_28, .int c1_4, .int c1_5, .int c1_6, .int c1_7, .int c1_8, .int c1_9, .ref (z + (3 + 1)), .ref (z + (3 + 2))])) := ⟨_, rfl⟩
    refine pfX3_21 C dX3_begin_28 hc1 (Nat.le_of_ble_eq_true rfl) rfl eu2.symm ?_
    have hTu2 : TC G z ln uu0 u2 := by rw [eu2]; exact hT_28.upEv (Or.inl rfl)
    have hn3 := (congrFun eu2 3).trans (hup_s _ _ _)
    refine x_aload_n C 0 dX3_begin_31 rfl rfl ?_
    refine x_aload_n C 1 dX3_begin_32 rfl rfl ?_
    refine x_callVP C cl_X3_gather kmX3_54 (ci := 2) (b := 3) (As := [.ref (z + b)]) (rest := []) rfl hn3 (tc_X3_gather u2 hTu2.1 b hb) rfl rfl (Nat.le_of_ble_eq_true rfl) ⟨Nat.le_of_ble_eq_true rfl, Nat.le_of_ble_eq_true rfl⟩ ⟨Nat.le_of_ble_eq_true rfl, Nat.le_of_ble_eq_true rfl⟩ dX3_begin_33 ?_
    rintro _ u4 ⟨ju4, rfl⟩
    have hTu4 := hTu2.tr ju4
    refine x_norm (st2 := []) rfl rfl rfl rfl rfl ?_
    exact x_vretP C hr hlk (Nat.le_refl _) (Nat.le_refl _) dX3_begin_36 ⟨hTu4, rfl⟩
  refine x_aload_n C 0 dX3_begin_0 rfl rfl ?_
  refine x_iconst (v := (0 : Int32)) C dX3_begin_1 (by decide) ?_
  obtain ⟨c5_0, c5_1, c5_2, c5_3, c5_4, c5_5, c5_6, c5_7, c5_8, c5_9, hc5⟩ := ty_ev hTy0 (Or.inl rfl)
  have l_0 : (0 : Int32).toInt = 0 := by decide
  obtain ⟨u6, eu6⟩ : ∃ w : HpT, w = hup uu0 3 (.inr (2, [.int (0 : Int32), .int c5_1, .int c5_2, .int c5_3, .int c5_4, .int c5_5, .int c5_6, .int c5_7, .int c5_8, .int c5_9, .ref (z + (3 + 1)), .ref (z + (3 + 2))])) := ⟨_, rfl⟩
  refine pfX3_9 C dX3_begin_2 hc5 (Nat.le_of_ble_eq_true rfl) rfl eu6.symm ?_
  have hTu6 : TC G z ln uu0 u6 := by rw [eu6]; exact hTy0.upEv (Or.inl rfl)
  have hn7 := (congrFun eu6 3).trans (hup_s _ _ _)
  refine x_aload_n C 0 dX3_begin_5 rfl rfl ?_
  refine x_iconst (v := (0 : Int32)) C dX3_begin_6 (by decide) ?_
  obtain ⟨u8, eu8⟩ : ∃ w : HpT, w = hup u6 3 (.inr (2, [.int (0 : Int32), .int (0 : Int32), .int c5_2, .int c5_3, .int c5_4, .int c5_5, .int c5_6, .int c5_7, .int c5_8, .int c5_9, .ref (z + (3 + 1)), .ref (z + (3 + 2))])) := ⟨_, rfl⟩
  refine pfX3_15 C dX3_begin_7 hn7 (Nat.le_of_ble_eq_true rfl) rfl eu8.symm ?_
  have hTu8 : TC G z ln uu0 u8 := by rw [eu8]; exact hTu6.upEv (Or.inl rfl)
  have hn9 := (congrFun eu8 3).trans (hup_s _ _ _)
  refine x_aload_n C 0 dX3_begin_10 rfl rfl ?_
  refine x_iconst (v := (0 : Int32)) C dX3_begin_11 (by decide) ?_
  obtain ⟨u10, eu10⟩ : ∃ w : HpT, w = hup u8 3 (.inr (2, [.int (0 : Int32), .int (0 : Int32), .int (0 : Int32), .int c5_3, .int c5_4, .int c5_5, .int c5_6, .int c5_7, .int c5_8, .int c5_9, .ref (z + (3 + 1)), .ref (z + (3 + 2))])) := ⟨_, rfl⟩
  refine pfX3_18 C dX3_begin_12 hn9 (Nat.le_of_ble_eq_true rfl) rfl eu10.symm ?_
  have hTu10 : TC G z ln uu0 u10 := by rw [eu10]; exact hTu8.upEv (Or.inl rfl)
  have hn11 := (congrFun eu10 3).trans (hup_s _ _ _)
  refine x_aload_n C 0 dX3_begin_15 rfl rfl ?_
  refine x_aload_n C 1 dX3_begin_16 rfl rfl ?_
  obtain ⟨c12_0, c12_1, c12_2, c12_3, hc12, qc12_0, qc12_1, qc12_2, qc12_3⟩ := ty_br hTu10 hb
  refine gfX3_49 C dX3_begin_17 hc12 rfl ?_
  refine x_if_le C 27 dX3_begin_20 (by decide) (fun q13 => ?_) (fun q13 => ?_)
  · have rq13 : c12_2.toInt ≤ (0 : Int32).toInt := by rw [Int32.le_iff_toInt_le] at q13; omega
    refine x_iconst (v := (0 : Int32)) C dX3_begin_27 (by decide) ?_
    exact J28 u10 hTu10 (0 : Int32) (by omega) (by omega)
  · have rq13 : c12_2.toInt > (0 : Int32).toInt := by rw [Int32.le_iff_toInt_le] at q13; omega
    refine x_iconst (v := (1 : Int32)) C dX3_begin_23 (by decide) ?_
    refine x_goto C 28 dX3_begin_24 (by decide) ?_
    have l_1 : (1 : Int32).toInt = 1 := by decide
    exact J28 u10 hTu10 (1 : Int32) (by omega) (by omega)
set_option maxRecDepth 20000 in
set_option maxHeartbeats 2000000 in
theorem tc_X3_follows {G : GT} {l : Launch} {z n : Nat} {ln : Int} (uu0 : HpT) (hTz0 : TyC G z ln uu0) (b : Nat) (hb : BrO b) (a2 : Int32) : Mp G l z yX3_follows cX3_follows 3 (some .boolean) { frames := 1, cells := 0, slots := 0, locals := 21 } [.ref (z + 3), .ref (z + b), .int a2] uu0 n (fun r v => uu0 = v ∧ ∃ x : Int32, r = some (.int x) ∧ 0 ≤ x.toInt ∧ x.toInt ≤ 1) := by
  refine mp_of (by decide +kernel) (Nat.le_of_ble_eq_true rfl) ?_
  intro p e s m below meth c C hr hlk hnm
  have hbb_b : b = 112 ∨ b = 119 := hb
  have hTy0 : TC G z ln uu0 uu0 := TC.rf hTz0
  have J27 : Xw p l e ({ frames := 1, cells := 0, slots := 0, locals := 21 } : Room) s m ([.ref (z + 3), .ref (z + b), .int a2] : List Value).toArray below meth c G z 3 (MQ below (Qp G z n (fun r v => uu0 = v ∧ ∃ x : Int32, r = some (.int x) ∧ 0 ≤ x.toInt ∧ x.toInt ≤ 1)) ([.ref (z + 3), .ref (z + b), .int a2] : List Value).toArray s 0 0 (zA z)) 27 [(0, .ref (z + 3)), (1, .ref (z + b)), (2, .int a2)] [] uu0 n 0 0 := by
    refine x_iconst (v := (1 : Int32)) C dX3_follows_27 (by decide) ?_
    refine x_goto C 32 dX3_follows_28 (by decide) ?_
    have l_1 : (1 : Int32).toInt = 1 := by decide
    exact x_zretP C hr hlk (Nat.le_refl _) (Nat.le_refl _) dX3_follows_32 (i_bool (by omega)) ⟨rfl, (1 : Int32), rfl, by omega⟩
  refine x_aload_n C 1 dX3_follows_0 rfl rfl ?_
  refine x_aload_n C 0 dX3_follows_1 rfl rfl ?_
  obtain ⟨c1_0, c1_1, c1_2, c1_3, c1_4, c1_5, c1_6, c1_7, c1_8, c1_9, hc1⟩ := ty_ev hTy0 (Or.inl rfl)
  refine gfX3_30 C dX3_follows_2 hc1 rfl ?_
  obtain ⟨c3_0, c3_1, c3_2, c3_3, hc3, qc3_0, qc3_1, qc3_2, qc3_3⟩ := ty_br hTy0 hb
  refine x_callVP C cl_X1_hasMatter kmX3_92 (ci := 0) (b := b) (As := [.int c1_6]) (rest := []) rfl hc3 (tc_X1_hasMatter uu0 hTy0.1 b hb c1_6) rfl rfl (Nat.le_of_ble_eq_true rfl) ⟨Nat.le_of_ble_eq_true rfl, Nat.le_of_ble_eq_true rfl⟩ ⟨Nat.le_of_ble_eq_true rfl, Nat.le_of_ble_eq_true rfl⟩ dX3_follows_5 ?_
  rintro _ _ ⟨rfl, r2, rfl, gr2⟩
  refine x_norm (st2 := [.int r2]) rfl rfl rfl rfl rfl ?_
  have l_0 : (0 : Int32).toInt = 0 := by decide
  refine x_if_eq C 27 dX3_follows_8 (by decide) (fun q5 => ?_) (fun q5 => ?_)
  · have rq5 : r2.toInt = (0 : Int32).toInt := by rw [i_eq_iff] at q5; omega
    exact J27  
  · have rq5 : ¬ r2.toInt = (0 : Int32).toInt := by rw [i_eq_iff] at q5; omega
    refine x_aload_n C 1 dX3_follows_11 rfl rfl ?_
    refine gfX3_95 C dX3_follows_12 hc3 rfl ?_
    refine x_aload_n C 0 dX3_follows_15 rfl rfl ?_
    refine gfX3_30 C dX3_follows_16 hc1 rfl ?_
    obtain ⟨f6, hf6⟩ := ty_brA hTy0 hb 2 8 (by omega)
    refine x_iald C hf6 (i_in (by omega) (by omega)) dX3_follows_19 ?_
    refine x_top (fun w7 ew7 => ?_)
    refine x_iload_n C 2 dX3_follows_20 rfl rfl ?_
    refine x_callSNP C cl_X9_holds knX3_68 (As := [.int w7, .int a2]) (rest := []) (tc_X9_holds uu0 hTy0.1 w7 a2) rfl rfl (Nat.le_of_ble_eq_true rfl) ⟨Nat.le_of_ble_eq_true rfl, Nat.le_of_ble_eq_true rfl⟩ ⟨Nat.le_of_ble_eq_true rfl, Nat.le_of_ble_eq_true rfl⟩ dX3_follows_21 ?_
    rintro _ _ ⟨rfl, r8, rfl, gr8⟩
    refine x_norm (st2 := [.int r8]) rfl rfl rfl rfl rfl ?_
    refine x_if_eq C 31 dX3_follows_24 (by decide) (fun q10 => ?_) (fun q10 => ?_)
    · have rq10 : r8.toInt = (0 : Int32).toInt := by rw [i_eq_iff] at q10; omega
      refine x_iconst (v := (0 : Int32)) C dX3_follows_31 (by decide) ?_
      exact x_zretP C hr hlk (Nat.le_refl _) (Nat.le_refl _) dX3_follows_32 (i_bool (by omega)) ⟨rfl, (0 : Int32), rfl, by omega⟩
    · have rq10 : ¬ r8.toInt = (0 : Int32).toInt := by rw [i_eq_iff] at q10; omega
      exact J27  
set_option maxRecDepth 20000 in
set_option maxHeartbeats 2000000 in
theorem tc_X3_leaveSeat {G : GT} {l : Launch} {z n : Nat} {ln : Int} (uu0 : HpT) (hTz0 : TyC G z ln uu0) (b : Nat) (hb : BrO b) : Mp G l z yX3_leaveSeat cX3_leaveSeat 4 (some .int) { frames := 2, cells := 0, slots := 0, locals := 42 } [.ref (z + 3), .ref (z + b)] uu0 n (fun r v => TC G z ln uu0 v ∧ ∃ x : Int32, r = some (.int x) ∧ True) := by
  refine mp_of (by decide +kernel) (Nat.le_of_ble_eq_true rfl) ?_
  intro p e s m below meth c C hr hlk hnm
  have hbb_b : b = 112 ∨ b = 119 := hb
  have hTy0 : TC G z ln uu0 uu0 := TC.rf hTz0
  have J80 : ∀ (u_80 : HpT) (hT_80 : TC G z ln uu0 u_80) (x3_80 : Int32) (x2_80 : Int32), Xw p l e ({ frames := 2, cells := 0, slots := 0, locals := 42 } : Room) s m ([.ref (z + 3), .ref (z + b)] : List Value).toArray below meth c G z 4 (MQ below (Qp G z n (fun r v => TC G z ln uu0 v ∧ ∃ x : Int32, r = some (.int x) ∧ True)) ([.ref (z + 3), .ref (z + b)] : List Value).toArray s 0 0 (zA z)) 80 [(3, .int x3_80), (2, .int x2_80), (0, .ref (z + 3)), (1, .ref (z + b))] [] u_80 n 0 0 := by
    intro u_80 hT_80 x3_80 x2_80
    refine x_iload_n C 0 dX3_leaveSeat_80 rfl rfl ?_
    exact x_iretP C hr hlk (Nat.le_refl _) (Nat.le_refl _) dX3_leaveSeat_81 ⟨hT_80, x3_80, rfl, trivial⟩
  refine x_aload_n C 0 dX3_leaveSeat_0 rfl rfl ?_
  obtain ⟨c1_0, c1_1, c1_2, c1_3, c1_4, c1_5, c1_6, c1_7, c1_8, c1_9, hc1⟩ := ty_ev hTy0 (Or.inl rfl)
  refine gfX3_24 C dX3_leaveSeat_1 hc1 rfl ?_
  refine x_istore_n C [(2, .int c1_4), (0, .ref (z + 3)), (1, .ref (z + b))] dX3_leaveSeat_4 rfl (by decide) rfl ?_
  refine x_aload_n C 1 dX3_leaveSeat_5 rfl rfl ?_
  refine x_callVP C cl_X3_emptySeat kmX3_58 (ci := 2) (b := 3) (As := []) (rest := []) rfl hc1 (tc_X3_emptySeat uu0 hTy0.1) rfl rfl (Nat.le_of_ble_eq_true rfl) ⟨Nat.le_of_ble_eq_true rfl, Nat.le_of_ble_eq_true rfl⟩ ⟨Nat.le_of_ble_eq_true rfl, Nat.le_of_ble_eq_true rfl⟩ dX3_leaveSeat_6 ?_
  rintro _ u2 ⟨ju2, rfl⟩
  have hTu2 := hTy0.tr ju2
  refine x_norm (st2 := []) rfl rfl rfl rfl rfl ?_
  refine x_aload_n C 2 dX3_leaveSeat_9 rfl rfl ?_
  refine x_iload_n C 0 dX3_leaveSeat_10 rfl rfl ?_
  obtain ⟨c4_0, c4_1, c4_2, c4_3, hc4, qc4_0, qc4_1, qc4_2, qc4_3⟩ := ty_br hTu2 hb
  refine x_callVP C cl_X1_hasTraveller kmX3_72 (ci := 0) (b := b) (As := [.int c1_4]) (rest := []) rfl hc4 (tc_X1_hasTraveller u2 hTu2.1 b hb c1_4) rfl rfl (Nat.le_of_ble_eq_true rfl) ⟨Nat.le_of_ble_eq_true rfl, Nat.le_of_ble_eq_true rfl⟩ ⟨Nat.le_of_ble_eq_true rfl, Nat.le_of_ble_eq_true rfl⟩ dX3_leaveSeat_11 ?_
  rintro _ _ ⟨rfl, r3, rfl, gr3⟩
  refine x_norm (st2 := [.int r3]) rfl rfl rfl rfl rfl ?_
  have l_0 : (0 : Int32).toInt = 0 := by decide
  refine x_if_ne C 19 dX3_leaveSeat_14 (by decide) (fun q6 => ?_) (fun q6 => ?_)
  · have rq6 : ¬ r3.toInt = (0 : Int32).toInt := by rw [i_eq_iff] at q6; omega
    refine x_aload_n C 1 dX3_leaveSeat_19 rfl rfl ?_
    refine x_dup C dX3_leaveSeat_20 rfl ?_
    obtain ⟨c7_0, c7_1, c7_2, c7_3, c7_4, c7_5, c7_6, c7_7, c7_8, c7_9, hc7⟩ := ty_ev hTu2 (Or.inl rfl)
    refine gfX3_36 C dX3_leaveSeat_21 hc7 rfl ?_
    refine x_iconst (v := (1 : Int32)) C dX3_leaveSeat_24 (by decide) ?_
    refine x_iload_n C 0 dX3_leaveSeat_25 rfl rfl ?_
    refine x_ishl C dX3_leaveSeat_26 ?_
    have l_1 : (1 : Int32).toInt = 1 := by decide
    refine x_top (fun w8 ew8 => ?_)
    refine x_ior C dX3_leaveSeat_27 ?_
    refine x_top (fun w9 ew9 => ?_)
    obtain ⟨u10, eu10⟩ : ∃ w : HpT, w = hup u2 3 (.inr (2, [.int c7_0, .int c7_1, .int c7_2, .int c7_3, .int c7_4, .int c7_5, .int c7_6, .int c7_7, .int w9, .int c7_9, .ref (z + (3 + 1)), .ref (z + (3 + 2))])) := ⟨_, rfl⟩
    refine pfX3_36 C dX3_leaveSeat_28 hc7 (Nat.le_of_ble_eq_true rfl) rfl eu10.symm ?_
    have hTu10 : TC G z ln uu0 u10 := by rw [eu10]; exact hTu2.upEv (Or.inl rfl)
    have hn12 := (congrFun eu10 3).trans (hup_s _ _ _)
    refine x_aload_n C 2 dX3_leaveSeat_31 rfl rfl ?_
    refine x_aload_n C 1 dX3_leaveSeat_32 rfl rfl ?_
    refine gfX3_46 C dX3_leaveSeat_33 hn12 rfl ?_
    refine x_iload_n C 0 dX3_leaveSeat_36 rfl rfl ?_
    obtain ⟨f13, hf13⟩ := ty_evA hTu10 (Or.inl rfl) 2 (by decide) (by decide)
    refine x_iald C hf13 (i_in (by omega) (by omega)) dX3_leaveSeat_37 ?_
    refine x_top (fun w14 ew14 => ?_)
    have k16 := (congrFun eu10 b).trans (hup_n' (by omega) hc4)
    refine x_callVP C cl_X1_payFor kmX3_98 (ci := 0) (b := b) (As := [.int w14]) (rest := []) rfl k16 (tc_X1_payFor u10 hTu10.1 b hb w14) rfl rfl (Nat.le_of_ble_eq_true rfl) ⟨Nat.le_of_ble_eq_true rfl, Nat.le_of_ble_eq_true rfl⟩ ⟨Nat.le_of_ble_eq_true rfl, Nat.le_of_ble_eq_true rfl⟩ dX3_leaveSeat_38 ?_
    rintro _ _ ⟨rfl, r15, rfl, gr15⟩
    refine x_norm (st2 := [.int r15]) rfl rfl rfl rfl rfl ?_
    refine x_ldc C kcX3_101 dX3_leaveSeat_41 ?_
    refine x_aload_n C 1 dX3_leaveSeat_43 rfl rfl ?_
    refine gfX3_18 C dX3_leaveSeat_44 hn12 rfl ?_
    refine x_isub C dX3_leaveSeat_47 ?_
    have l_999999 : (999999 : Int32).toInt = 999999 := by decide
    refine x_top (fun w18 ew18 => ?_)
    refine x_min C kmX3_102 kMs_min kzMath kMc_min (Nat.le_of_ble_eq_true rfl) (Nat.le_of_ble_eq_true rfl) (Nat.le_of_ble_eq_true rfl) (Nat.le_of_ble_eq_true rfl) dX3_leaveSeat_48 ?_
    refine x_top (fun w19 ew19 => ?_)
    have fw19_0 : (w19.toInt = r15.toInt ∨ w19.toInt = w18.toInt) ∧ w19.toInt ≤ r15.toInt ∧ w19.toInt ≤ w18.toInt := by rw [ew19]; exact i_min _ _
    refine x_istore_n C [(3, .int w19), (2, .int c1_4), (0, .ref (z + 3)), (1, .ref (z + b))] dX3_leaveSeat_51 rfl (by decide) rfl ?_
    refine x_aload_n C 2 dX3_leaveSeat_52 rfl rfl ?_
    refine x_dup C dX3_leaveSeat_53 rfl ?_
    refine gfX3_18 C dX3_leaveSeat_54 hn12 rfl ?_
    refine x_iload_n C 0 dX3_leaveSeat_57 rfl rfl ?_
    refine x_iadd C dX3_leaveSeat_58 ?_
    refine x_top (fun w20 ew20 => ?_)
    obtain ⟨u21, eu21⟩ : ∃ w : HpT, w = hup u10 3 (.inr (2, [.int c7_0, .int c7_1, .int w20, .int c7_3, .int c7_4, .int c7_5, .int c7_6, .int c7_7, .int w9, .int c7_9, .ref (z + (3 + 1)), .ref (z + (3 + 2))])) := ⟨_, rfl⟩
    refine pfX3_18 C dX3_leaveSeat_59 hn12 (Nat.le_of_ble_eq_true rfl) rfl eu21.symm ?_
    have hTu21 : TC G z ln uu0 u21 := by rw [eu21]; exact hTu10.upEv (Or.inl rfl)
    have hn24 := (congrFun eu21 3).trans (hup_s _ _ _)
    refine x_aload_n C 3 dX3_leaveSeat_62 rfl rfl ?_
    refine x_iload_n C 1 dX3_leaveSeat_63 rfl rfl ?_
    have k26 := (congrFun eu21 b).trans (hup_n' (by omega) k16)
    refine x_callVP C cl_X1_isProfessor kmX3_107 (ci := 0) (b := b) (As := [.int c1_4]) (rest := []) rfl k26 (tc_X1_isProfessor u21 hTu21.1 b hb c1_4) rfl rfl (Nat.le_of_ble_eq_true rfl) ⟨Nat.le_of_ble_eq_true rfl, Nat.le_of_ble_eq_true rfl⟩ ⟨Nat.le_of_ble_eq_true rfl, Nat.le_of_ble_eq_true rfl⟩ dX3_leaveSeat_64 ?_
    rintro _ _ ⟨rfl, r25, rfl, gr25⟩
    refine x_norm (st2 := [.int r25]) rfl rfl rfl rfl rfl ?_
    refine x_if_eq C 80 dX3_leaveSeat_67 (by decide) (fun q28 => ?_) (fun q28 => ?_)
    · have rq28 : r25.toInt = (0 : Int32).toInt := by rw [i_eq_iff] at q28; omega
      exact J80 u21 hTu21 w19 c1_4
    · have rq28 : ¬ r25.toInt = (0 : Int32).toInt := by rw [i_eq_iff] at q28; omega
      refine x_aload_n C 2 dX3_leaveSeat_70 rfl rfl ?_
      refine x_aload_n C 3 dX3_leaveSeat_71 rfl rfl ?_
      refine gfX3_110 C dX3_leaveSeat_72 k26 rfl ?_
      refine x_iload_n C 1 dX3_leaveSeat_75 rfl rfl ?_
      obtain ⟨f29, hf29⟩ := ty_brA hTu21 hb 5 6 (by omega)
      refine x_iald C hf29 (i_in (by omega) (by omega)) dX3_leaveSeat_76 ?_
      refine x_top (fun w30 ew30 => ?_)
      refine x_callVP C cl_X3_takeUp kmX3_113 (ci := 2) (b := 3) (As := [.int w30]) (rest := []) rfl hn24 (tc_X3_takeUp u21 hTu21.1 w30) rfl rfl (Nat.le_of_ble_eq_true rfl) ⟨Nat.le_of_ble_eq_true rfl, Nat.le_of_ble_eq_true rfl⟩ ⟨Nat.le_of_ble_eq_true rfl, Nat.le_of_ble_eq_true rfl⟩ dX3_leaveSeat_77 ?_
      rintro _ u31 ⟨ju31, rfl⟩
      have hTu31 := hTu21.tr ju31
      refine x_norm (st2 := []) rfl rfl rfl rfl rfl ?_
      exact J80 u31 hTu31 w19 c1_4
  · have rq6 : r3.toInt = (0 : Int32).toInt := by rw [i_eq_iff] at q6; omega
    refine x_iconst (v := (0 : Int32)) C dX3_leaveSeat_17 (by decide) ?_
    exact x_iretP C hr hlk (Nat.le_refl _) (Nat.le_refl _) dX3_leaveSeat_18 ⟨hTu2, (0 : Int32), rfl, trivial⟩
set_option maxRecDepth 20000 in
set_option maxHeartbeats 2000000 in
theorem tc_X3_passMinutes {G : GT} {l : Launch} {z n : Nat} {ln : Int} (uu0 : HpT) (hTz0 : TyC G z ln uu0) (b : Nat) (hb : BrO b) (a2 : Int32) : Mp G l z yX3_passMinutes cX3_passMinutes 5 none { frames := 2, cells := 0, slots := 0, locals := 42 } [.ref (z + 3), .ref (z + b), .int a2] uu0 n (fun r v => TC G z ln uu0 v ∧ r = none) := by
  refine mp_of (by decide +kernel) (Nat.le_of_ble_eq_true rfl) ?_
  intro p e s m below meth c C hr hlk hnm
  have hbb_b : b = 112 ∨ b = 119 := hb
  have hTy0 : TC G z ln uu0 uu0 := TC.rf hTz0
  have J12 : ∀ (d : Nat) (u_12 : HpT) (hT_12 : TC G z ln uu0 u_12) (x3_12 : Int32) (hl_x3_12 : 0 ≤ x3_12.toInt) (hh_x3_12 : x3_12.toInt ≤ 6) (hd : d = (7 - x3_12.toInt).toNat), Xw p l e ({ frames := 2, cells := 0, slots := 0, locals := 42 } : Room) s m ([.ref (z + 3), .ref (z + b), .int a2] : List Value).toArray below meth c G z 5 (MQ below (Qp G z n (fun r v => TC G z ln uu0 v ∧ r = none)) ([.ref (z + 3), .ref (z + b), .int a2] : List Value).toArray s 0 0 (zA z)) 12 [(3, .int x3_12), (0, .ref (z + 3)), (1, .ref (z + b)), (2, .int a2)] [] u_12 n 0 0 := by
    intro d
    induction d using Nat.strongRecOn with
    | _ d ih12 =>
      intro u_12 hT_12 x3_12 hl_x3_12 hh_x3_12 hd12
      have J96 : ∀ (u_96 : HpT) (hT_96 : TC G z ln uu0 u_96) (nl_x3_12_96 : 0 ≤ x3_12.toInt) (nh_x3_12_96 : x3_12.toInt ≤ 5), Xw p l e ({ frames := 2, cells := 0, slots := 0, locals := 42 } : Room) s m ([.ref (z + 3), .ref (z + b), .int a2] : List Value).toArray below meth c G z 5 (MQ below (Qp G z n (fun r v => TC G z ln uu0 v ∧ r = none)) ([.ref (z + 3), .ref (z + b), .int a2] : List Value).toArray s 0 0 (zA z)) 96 [(3, .int x3_12), (0, .ref (z + 3)), (1, .ref (z + b)), (2, .int a2)] [] u_96 n 0 0 := by
        intro u_96 hT_96 nl_x3_12_96 nh_x3_12_96
        have l_1 : (1 : Int32).toInt = 1 := by decide
        obtain ⟨w1, ew1⟩ : ∃ w : Int32, w = x3_12 + Int32.ofInt 1 := ⟨_, rfl⟩
        have fw1 : w1.toInt = x3_12.toInt + (1) := by rw [ew1]; exact i_addk (by decide) (by omega) (by omega)
        refine x_iinc (v := w1) C 0 [(3, .int w1), (0, .ref (z + 3)), (1, .ref (z + b)), (2, .int a2)] dX3_passMinutes_96 rfl ew1.symm (by decide) rfl ?_
        refine x_goto C 12 dX3_passMinutes_99 (by decide) ?_
        exact ih12 (7 - w1.toInt).toNat (by omega) u_96 hT_96 w1 (by omega) (by omega) rfl
      refine x_iload_n C 0 dX3_passMinutes_12 rfl rfl ?_
      refine x_aload_n C 2 dX3_passMinutes_13 rfl rfl ?_
      obtain ⟨c2_0, c2_1, c2_2, c2_3, hc2, qc2_0, qc2_1, qc2_2, qc2_3⟩ := ty_br hT_12 hb
      refine gfX3_61 C dX3_passMinutes_14 hc2 rfl ?_
      refine x_icmp_ge C 102 dX3_passMinutes_17 (by decide) (fun q3 => ?_) (fun q3 => ?_)
      · have rq3 : x3_12.toInt ≥ c2_3.toInt := by rw [Int32.le_iff_toInt_le] at q3; omega
        exact x_vretP C hr hlk (Nat.le_refl _) (Nat.le_refl _) dX3_passMinutes_102 ⟨hT_12, rfl⟩
      · have rq3 : x3_12.toInt < c2_3.toInt := by rw [Int32.le_iff_toInt_le] at q3; omega
        refine x_aload_n C 1 dX3_passMinutes_20 rfl rfl ?_
        obtain ⟨c4_0, c4_1, c4_2, c4_3, c4_4, c4_5, c4_6, c4_7, c4_8, c4_9, hc4⟩ := ty_ev hT_12 (Or.inl rfl)
        refine gfX3_33 C dX3_passMinutes_21 hc4 rfl ?_
        refine x_iload_n C 0 dX3_passMinutes_24 rfl rfl ?_
        refine x_callSNP C cl_X9_holds knX3_68 (As := [.int c4_7, .int x3_12]) (rest := []) (tc_X9_holds u_12 hT_12.1 c4_7 x3_12) rfl rfl (Nat.le_of_ble_eq_true rfl) ⟨Nat.le_of_ble_eq_true rfl, Nat.le_of_ble_eq_true rfl⟩ ⟨Nat.le_of_ble_eq_true rfl, Nat.le_of_ble_eq_true rfl⟩ dX3_passMinutes_25 ?_
        rintro _ _ ⟨rfl, r5, rfl, gr5⟩
        refine x_norm (st2 := [.int r5]) rfl rfl rfl rfl rfl ?_
        have l_0 : (0 : Int32).toInt = 0 := by decide
        refine x_if_eq C 96 dX3_passMinutes_28 (by decide) (fun q7 => ?_) (fun q7 => ?_)
        · have rq7 : r5.toInt = (0 : Int32).toInt := by rw [i_eq_iff] at q7; omega
          exact J96 u_12 hT_12 (by omega) (by omega)
        · have rq7 : ¬ r5.toInt = (0 : Int32).toInt := by rw [i_eq_iff] at q7; omega
          refine x_aload_n C 2 dX3_passMinutes_31 rfl rfl ?_
          refine x_iload_n C 0 dX3_passMinutes_32 rfl rfl ?_
          refine x_callVP C cl_X1_mostWaiting kmX3_117 (ci := 0) (b := b) (As := [.int x3_12]) (rest := []) rfl hc2 (tc_X1_mostWaiting u_12 hT_12.1 b hb x3_12) rfl rfl (Nat.le_of_ble_eq_true rfl) ⟨Nat.le_of_ble_eq_true rfl, Nat.le_of_ble_eq_true rfl⟩ ⟨Nat.le_of_ble_eq_true rfl, Nat.le_of_ble_eq_true rfl⟩ dX3_passMinutes_33 ?_
          rintro _ _ ⟨rfl, r8, rfl, gr8⟩
          refine x_norm (st2 := [.int r8]) rfl rfl rfl rfl rfl ?_
          refine x_iconst (v := (1 : Int32)) C dX3_passMinutes_36 (by decide) ?_
          refine x_iadd C dX3_passMinutes_37 ?_
          have l_1 : (1 : Int32).toInt = 1 := by decide
          refine x_top (fun w10 ew10 => ?_)
          refine x_istore C [(4, .int w10), (3, .int x3_12), (0, .ref (z + 3)), (1, .ref (z + b)), (2, .int a2)] dX3_passMinutes_38 (by decide) rfl ?_
          refine x_aload_n C 2 dX3_passMinutes_40 rfl rfl ?_
          refine gfX3_42 C dX3_passMinutes_41 hc4 rfl ?_
          refine x_iload_n C 1 dX3_passMinutes_44 rfl rfl ?_
          refine x_aload_n C 2 dX3_passMinutes_45 rfl rfl ?_
          refine gfX3_42 C dX3_passMinutes_46 hc4 rfl ?_
          refine x_iload_n C 1 dX3_passMinutes_49 rfl rfl ?_
          obtain ⟨f11, hf11⟩ := ty_evA hT_12 (Or.inl rfl) 1 (by decide) (by decide)
          refine x_iald C hf11 (i_in (by omega) (by omega)) dX3_passMinutes_50 ?_
          refine x_top (fun w12 ew12 => ?_)
          refine x_iload_n C 4 dX3_passMinutes_51 rfl rfl ?_
          refine x_iadd C dX3_passMinutes_52 ?_
          refine x_top (fun w13 ew13 => ?_)
          refine x_iload C 0 dX3_passMinutes_53 rfl ?_
          refine x_min C kmX3_102 kMs_min kzMath kMc_min (Nat.le_of_ble_eq_true rfl) (Nat.le_of_ble_eq_true rfl) (Nat.le_of_ble_eq_true rfl) (Nat.le_of_ble_eq_true rfl) dX3_passMinutes_55 ?_
          refine x_top (fun w14 ew14 => ?_)
          have fw14_0 : (w14.toInt = w13.toInt ∨ w14.toInt = w10.toInt) ∧ w14.toInt ≤ w13.toInt ∧ w14.toInt ≤ w10.toInt := by rw [ew14]; exact i_min _ _
          refine x_iast C hf11 (i_in (by omega) (by omega)) dX3_passMinutes_58 ?_
          obtain ⟨u15, eu15⟩ : ∃ w : HpT, w = hup u_12 (3 + 1) (aI G 6 (upd f11 x3_12.toNatClampNeg w14)) := ⟨_, rfl⟩
          refine x_heap (u2 := u15) eu15.symm ?_
          have hTu15 : TC G z ln uu0 u15 := by rw [eu15]; exact hT_12.upEvA (Or.inl rfl) 1 (by decide) (by decide)
          have hn18 := (congrFun eu15 (3 + 1)).trans (hup_s _ _ _)
          generalize (upd f11 x3_12.toNatClampNeg w14) = f19 at *
          refine x_aload_n C 2 dX3_passMinutes_59 rfl rfl ?_
          have k20 := (congrFun eu15 3).trans (hup_n' (by omega) hc4)
          refine gfX3_42 C dX3_passMinutes_60 k20 rfl ?_
          refine x_iload_n C 1 dX3_passMinutes_63 rfl rfl ?_
          refine x_iald C hn18 (i_in (by omega) (by omega)) dX3_passMinutes_64 ?_
          refine x_top (fun w21 ew21 => ?_)
          refine x_iload C 0 dX3_passMinutes_65 rfl ?_
          refine x_icmp_lt C 96 dX3_passMinutes_67 (by decide) (fun q22 => ?_) (fun q22 => ?_)
          · have rq22 : w21.toInt < w10.toInt := by rw [Int32.lt_iff_toInt_lt] at q22; omega
            refine x_mv (lo2 := [(3, .int x3_12), (0, .ref (z + 3)), (1, .ref (z + b)), (2, .int a2)]) [1, 2, 3, 4] rfl ?_
            exact J96 u15 hTu15 (by omega) (by omega)
          · have rq22 : w21.toInt ≥ w10.toInt := by rw [Int32.lt_iff_toInt_lt] at q22; omega
            refine x_aload_n C 2 dX3_passMinutes_70 rfl rfl ?_
            refine x_dup C dX3_passMinutes_71 rfl ?_
            refine gfX3_33 C dX3_passMinutes_72 k20 rfl ?_
            refine x_iconst (v := (1 : Int32)) C dX3_passMinutes_75 (by decide) ?_
            refine x_iload_n C 1 dX3_passMinutes_76 rfl rfl ?_
            refine x_ishl C dX3_passMinutes_77 ?_
            refine x_top (fun w23 ew23 => ?_)
            refine x_iconst (v := (-1 : Int32)) C dX3_passMinutes_78 (by decide) ?_
            refine x_ixor C dX3_passMinutes_79 ?_
            have l_m1 : (-1 : Int32).toInt = -1 := by decide
            refine x_top (fun w24 ew24 => ?_)
            refine x_iand C dX3_passMinutes_80 ?_
            refine x_top (fun w25 ew25 => ?_)
            obtain ⟨u26, eu26⟩ : ∃ w : HpT, w = hup u15 3 (.inr (2, [.int c4_0, .int c4_1, .int c4_2, .int c4_3, .int c4_4, .int c4_5, .int c4_6, .int w25, .int c4_8, .int c4_9, .ref (z + (3 + 1)), .ref (z + (3 + 2))])) := ⟨_, rfl⟩
            refine pfX3_33 C dX3_passMinutes_81 k20 (Nat.le_of_ble_eq_true rfl) rfl eu26.symm ?_
            have hTu26 : TC G z ln uu0 u26 := by rw [eu26]; exact hTu15.upEv (Or.inl rfl)
            have hn29 := (congrFun eu26 3).trans (hup_s _ _ _)
            refine x_aload_n C 2 dX3_passMinutes_84 rfl rfl ?_
            refine x_dup C dX3_passMinutes_85 rfl ?_
            refine gfX3_39 C dX3_passMinutes_86 hn29 rfl ?_
            refine x_iconst (v := (1 : Int32)) C dX3_passMinutes_89 (by decide) ?_
            refine x_iload_n C 1 dX3_passMinutes_90 rfl rfl ?_
            refine x_ishl C dX3_passMinutes_91 ?_
            refine x_top (fun w30 ew30 => ?_)
            refine x_ior C dX3_passMinutes_92 ?_
            refine x_top (fun w31 ew31 => ?_)
            obtain ⟨u32, eu32⟩ : ∃ w : HpT, w = hup u26 3 (.inr (2, [.int c4_0, .int c4_1, .int c4_2, .int c4_3, .int c4_4, .int c4_5, .int c4_6, .int w25, .int c4_8, .int w31, .ref (z + (3 + 1)), .ref (z + (3 + 2))])) := ⟨_, rfl⟩
            refine pfX3_39 C dX3_passMinutes_93 hn29 (Nat.le_of_ble_eq_true rfl) rfl eu32.symm ?_
            have hTu32 : TC G z ln uu0 u32 := by rw [eu32]; exact hTu26.upEv (Or.inl rfl)
            have hn35 := (congrFun eu32 3).trans (hup_s _ _ _)
            refine x_mv (lo2 := [(3, .int x3_12), (0, .ref (z + 3)), (1, .ref (z + b)), (2, .int a2)]) [1, 2, 3, 4] rfl ?_
            exact J96 u32 hTu32 (by omega) (by omega)
  refine x_aload_n C 0 dX3_passMinutes_0 rfl rfl ?_
  refine x_dup C dX3_passMinutes_1 rfl ?_
  obtain ⟨c36_0, c36_1, c36_2, c36_3, c36_4, c36_5, c36_6, c36_7, c36_8, c36_9, hc36⟩ := ty_ev hTy0 (Or.inl rfl)
  refine gfX3_9 C dX3_passMinutes_2 hc36 rfl ?_
  refine x_iload_n C 2 dX3_passMinutes_5 rfl rfl ?_
  refine x_iadd C dX3_passMinutes_6 ?_
  refine x_top (fun w37 ew37 => ?_)
  obtain ⟨u38, eu38⟩ : ∃ w : HpT, w = hup uu0 3 (.inr (2, [.int w37, .int c36_1, .int c36_2, .int c36_3, .int c36_4, .int c36_5, .int c36_6, .int c36_7, .int c36_8, .int c36_9, .ref (z + (3 + 1)), .ref (z + (3 + 2))])) := ⟨_, rfl⟩
  refine pfX3_9 C dX3_passMinutes_7 hc36 (Nat.le_of_ble_eq_true rfl) rfl eu38.symm ?_
  have hTu38 : TC G z ln uu0 u38 := by rw [eu38]; exact hTy0.upEv (Or.inl rfl)
  have hn39 := (congrFun eu38 3).trans (hup_s _ _ _)
  refine x_iconst (v := (0 : Int32)) C dX3_passMinutes_10 (by decide) ?_
  refine x_istore_n C [(3, .int (0 : Int32)), (0, .ref (z + 3)), (1, .ref (z + b)), (2, .int a2)] dX3_passMinutes_11 rfl (by decide) rfl ?_
  have l_0 : (0 : Int32).toInt = 0 := by decide
  exact J12 (7 - (0 : Int32).toInt).toNat u38 hTu38 (0 : Int32) (by omega) (by omega) rfl
set_option maxRecDepth 20000 in
set_option maxHeartbeats 2000000 in
theorem tc_X3_hear {G : GT} {l : Launch} {z n : Nat} {ln : Int} (uu0 : HpT) (hTz0 : TyC G z ln uu0) (b : Nat) (hb : BrO b) (a2 : Int32) : Mp G l z yX3_hear cX3_hear 4 (some .int) { frames := 3, cells := 0, slots := 0, locals := 66 } [.ref (z + 3), .ref (z + b), .int a2] uu0 n (fun r v => TC G z ln uu0 v ∧ ∃ x : Int32, r = some (.int x) ∧ True) := by
  refine mp_of (by decide +kernel) (Nat.le_of_ble_eq_true rfl) ?_
  intro p e s m below meth c C hr hlk hnm
  have hbb_b : b = 112 ∨ b = 119 := hb
  have hTy0 : TC G z ln uu0 uu0 := TC.rf hTz0
  have J20 : ∀ (u_20 : HpT) (hT_20 : TC G z ln uu0 u_20), Xw p l e ({ frames := 3, cells := 0, slots := 0, locals := 66 } : Room) s m ([.ref (z + 3), .ref (z + b), .int a2] : List Value).toArray below meth c G z 4 (MQ below (Qp G z n (fun r v => TC G z ln uu0 v ∧ ∃ x : Int32, r = some (.int x) ∧ True)) ([.ref (z + 3), .ref (z + b), .int a2] : List Value).toArray s 0 0 (zA z)) 20 [(0, .ref (z + 3)), (1, .ref (z + b)), (2, .int a2)] [] u_20 n 0 0 := by
    intro u_20 hT_20
    refine x_aload_n C 0 dX3_hear_20 rfl rfl ?_
    refine x_aload_n C 1 dX3_hear_21 rfl rfl ?_
    obtain ⟨c2_0, c2_1, c2_2, c2_3, c2_4, c2_5, c2_6, c2_7, c2_8, c2_9, hc2⟩ := ty_ev hT_20 (Or.inl rfl)
    refine x_callVP C cl_X3_leaveSeat kmX3_80 (ci := 2) (b := 3) (As := [.ref (z + b)]) (rest := []) rfl hc2 (tc_X3_leaveSeat u_20 hT_20.1 b hb) rfl rfl (Nat.le_of_ble_eq_true rfl) ⟨Nat.le_of_ble_eq_true rfl, Nat.le_of_ble_eq_true rfl⟩ ⟨Nat.le_of_ble_eq_true rfl, Nat.le_of_ble_eq_true rfl⟩ dX3_hear_22 ?_
    rintro _ u3 ⟨ju3, r1, rfl, gr1⟩
    have hTu3 := hT_20.tr ju3
    refine x_norm (st2 := [.int r1]) rfl rfl rfl rfl rfl ?_
    refine x_pop C dX3_hear_25 rfl ?_
    refine x_iconst (v := (-1 : Int32)) C dX3_hear_26 (by decide) ?_
    have l_m1 : (-1 : Int32).toInt = -1 := by decide
    exact x_iretP C hr hlk (Nat.le_refl _) (Nat.le_refl _) dX3_hear_27 ⟨hTu3, (-1 : Int32), rfl, trivial⟩
  refine x_aload_n C 1 dX3_hear_0 rfl rfl ?_
  refine x_aload_n C 0 dX3_hear_1 rfl rfl ?_
  obtain ⟨c4_0, c4_1, c4_2, c4_3, c4_4, c4_5, c4_6, c4_7, c4_8, c4_9, hc4⟩ := ty_ev hTy0 (Or.inl rfl)
  refine gfX3_24 C dX3_hear_2 hc4 rfl ?_
  obtain ⟨c6_0, c6_1, c6_2, c6_3, hc6, qc6_0, qc6_1, qc6_2, qc6_3⟩ := ty_br hTy0 hb
  refine x_callVP C cl_X1_hasTraveller kmX3_72 (ci := 0) (b := b) (As := [.int c4_4]) (rest := []) rfl hc6 (tc_X1_hasTraveller uu0 hTy0.1 b hb c4_4) rfl rfl (Nat.le_of_ble_eq_true rfl) ⟨Nat.le_of_ble_eq_true rfl, Nat.le_of_ble_eq_true rfl⟩ ⟨Nat.le_of_ble_eq_true rfl, Nat.le_of_ble_eq_true rfl⟩ dX3_hear_5 ?_
  rintro _ _ ⟨rfl, r5, rfl, gr5⟩
  refine x_norm (st2 := [.int r5]) rfl rfl rfl rfl rfl ?_
  have l_0 : (0 : Int32).toInt = 0 := by decide
  refine x_if_eq C 20 dX3_hear_8 (by decide) (fun q8 => ?_) (fun q8 => ?_)
  · have rq8 : r5.toInt = (0 : Int32).toInt := by rw [i_eq_iff] at q8; omega
    exact J20 uu0 hTy0 
  · have rq8 : ¬ r5.toInt = (0 : Int32).toInt := by rw [i_eq_iff] at q8; omega
    refine x_aload_n C 0 dX3_hear_11 rfl rfl ?_
    refine x_aload_n C 1 dX3_hear_12 rfl rfl ?_
    refine x_iload_n C 2 dX3_hear_13 rfl rfl ?_
    refine x_callVP C cl_X3_follows kmX3_76 (ci := 2) (b := 3) (As := [.ref (z + b), .int a2]) (rest := []) rfl hc4 (tc_X3_follows uu0 hTy0.1 b hb a2) rfl rfl (Nat.le_of_ble_eq_true rfl) ⟨Nat.le_of_ble_eq_true rfl, Nat.le_of_ble_eq_true rfl⟩ ⟨Nat.le_of_ble_eq_true rfl, Nat.le_of_ble_eq_true rfl⟩ dX3_hear_14 ?_
    rintro _ _ ⟨rfl, r9, rfl, gr9⟩
    refine x_norm (st2 := [.int r9]) rfl rfl rfl rfl rfl ?_
    refine x_if_ne C 28 dX3_hear_17 (by decide) (fun q11 => ?_) (fun q11 => ?_)
    · have rq11 : ¬ r9.toInt = (0 : Int32).toInt := by rw [i_eq_iff] at q11; omega
      refine x_aload_n C 1 dX3_hear_28 rfl rfl ?_
      refine x_aload_n C 0 dX3_hear_29 rfl rfl ?_
      refine gfX3_24 C dX3_hear_30 hc4 rfl ?_
      refine x_iload_n C 2 dX3_hear_33 rfl rfl ?_
      refine x_callVP C cl_X1_stayOf kmX3_84 (ci := 0) (b := b) (As := [.int c4_4, .int a2]) (rest := []) rfl hc6 (tc_X1_stayOf uu0 hTy0.1 b hb c4_4 a2) rfl rfl (Nat.le_of_ble_eq_true rfl) ⟨Nat.le_of_ble_eq_true rfl, Nat.le_of_ble_eq_true rfl⟩ ⟨Nat.le_of_ble_eq_true rfl, Nat.le_of_ble_eq_true rfl⟩ dX3_hear_34 ?_
      rintro _ _ ⟨rfl, r12, rfl, gr12⟩
      refine x_norm (st2 := [.int r12]) rfl rfl rfl rfl rfl ?_
      refine x_istore_n C [(3, .int r12), (0, .ref (z + 3)), (1, .ref (z + b)), (2, .int a2)] dX3_hear_37 rfl (by decide) rfl ?_
      refine x_aload_n C 1 dX3_hear_38 rfl rfl ?_
      refine x_dup C dX3_hear_39 rfl ?_
      refine gfX3_27 C dX3_hear_40 hc4 rfl ?_
      refine x_iconst (v := (1 : Int32)) C dX3_hear_43 (by decide) ?_
      refine x_iload_n C 3 dX3_hear_44 rfl rfl ?_
      refine x_ishl C dX3_hear_45 ?_
      have l_1 : (1 : Int32).toInt = 1 := by decide
      refine x_top (fun w14 ew14 => ?_)
      refine x_ior C dX3_hear_46 ?_
      refine x_top (fun w15 ew15 => ?_)
      obtain ⟨u16, eu16⟩ : ∃ w : HpT, w = hup uu0 3 (.inr (2, [.int c4_0, .int c4_1, .int c4_2, .int c4_3, .int c4_4, .int w15, .int c4_6, .int c4_7, .int c4_8, .int c4_9, .ref (z + (3 + 1)), .ref (z + (3 + 2))])) := ⟨_, rfl⟩
      refine pfX3_27 C dX3_hear_47 hc4 (Nat.le_of_ble_eq_true rfl) rfl eu16.symm ?_
      have hTu16 : TC G z ln uu0 u16 := by rw [eu16]; exact hTy0.upEv (Or.inl rfl)
      have hn18 := (congrFun eu16 3).trans (hup_s _ _ _)
      refine x_aload_n C 1 dX3_hear_50 rfl rfl ?_
      refine x_iload_n C 3 dX3_hear_51 rfl rfl ?_
      obtain ⟨u19, eu19⟩ : ∃ w : HpT, w = hup u16 3 (.inr (2, [.int c4_0, .int c4_1, .int c4_2, .int c4_3, .int c4_4, .int w15, .int a2, .int c4_7, .int c4_8, .int c4_9, .ref (z + (3 + 1)), .ref (z + (3 + 2))])) := ⟨_, rfl⟩
      refine pfX3_30 C dX3_hear_52 hn18 (Nat.le_of_ble_eq_true rfl) rfl eu19.symm ?_
      have hTu19 : TC G z ln uu0 u19 := by rw [eu19]; exact hTu16.upEv (Or.inl rfl)
      have hn21 := (congrFun eu19 3).trans (hup_s _ _ _)
      refine x_aload_n C 1 dX3_hear_55 rfl rfl ?_
      refine gfX3_46 C dX3_hear_56 hn21 rfl ?_
      refine x_aload_n C 1 dX3_hear_59 rfl rfl ?_
      refine gfX3_24 C dX3_hear_60 hn21 rfl ?_
      refine x_dup2 C dX3_hear_63 rfl rfl ?_
      obtain ⟨f22, hf22⟩ := ty_evA hTu19 (Or.inl rfl) 2 (by decide) (by decide)
      refine x_iald C hf22 (i_in (by omega) (by omega)) dX3_hear_64 ?_
      refine x_top (fun w23 ew23 => ?_)
      refine x_iload_n C 0 dX3_hear_65 rfl rfl ?_
      refine x_iadd C dX3_hear_66 ?_
      refine x_top (fun w24 ew24 => ?_)
      refine x_iast C hf22 (i_in (by omega) (by omega)) dX3_hear_67 ?_
      obtain ⟨u25, eu25⟩ : ∃ w : HpT, w = hup u19 (3 + 2) (aI G 6 (upd f22 c4_4.toNatClampNeg w24)) := ⟨_, rfl⟩
      refine x_heap (u2 := u25) eu25.symm ?_
      have hTu25 : TC G z ln uu0 u25 := by rw [eu25]; exact hTu19.upEvA (Or.inl rfl) 2 (by decide) (by decide)
      have hn28 := (congrFun eu25 (3 + 2)).trans (hup_s _ _ _)
      generalize (upd f22 c4_4.toNatClampNeg w24) = f29 at *
      refine x_aload_n C 1 dX3_hear_68 rfl rfl ?_
      refine x_aload_n C 2 dX3_hear_69 rfl rfl ?_
      refine x_iload_n C 0 dX3_hear_70 rfl rfl ?_
      have k30 := (congrFun eu25 3).trans (hup_n' (by omega) hn21)
      refine x_callVP C cl_X3_passMinutes kmX3_88 (ci := 2) (b := 3) (As := [.ref (z + b), .int r12]) (rest := []) rfl k30 (tc_X3_passMinutes u25 hTu25.1 b hb r12) rfl rfl (Nat.le_of_ble_eq_true rfl) ⟨Nat.le_of_ble_eq_true rfl, Nat.le_of_ble_eq_true rfl⟩ ⟨Nat.le_of_ble_eq_true rfl, Nat.le_of_ble_eq_true rfl⟩ dX3_hear_71 ?_
      rintro _ u31 ⟨ju31, rfl⟩
      have hTu31 := hTu25.tr ju31
      refine x_norm (st2 := []) rfl rfl rfl rfl rfl ?_
      refine x_iload_n C 0 dX3_hear_74 rfl rfl ?_
      exact x_iretP C hr hlk (Nat.le_refl _) (Nat.le_refl _) dX3_hear_75 ⟨hTu31, r12, rfl, trivial⟩
    · have rq11 : r9.toInt = (0 : Int32).toInt := by rw [i_eq_iff] at q11; omega
      exact J20 uu0 hTy0 
set_option maxRecDepth 20000 in
set_option maxHeartbeats 2000000 in
theorem tc_X3_patienceOf {G : GT} {l : Launch} {z n : Nat} {ln : Int} (uu0 : HpT) (hTz0 : TyC G z ln uu0) (b : Nat) (hb : BrO b) (a2 : Int32) : Mp G l z yX3_patienceOf cX3_patienceOf 3 (some .int) { frames := 2, cells := 0, slots := 0, locals := 42 } [.ref (z + 3), .ref (z + b), .int a2] uu0 n (fun r v => uu0 = v ∧ ∃ x : Int32, r = some (.int x) ∧ True) := by
  refine mp_of (by decide +kernel) (Nat.le_of_ble_eq_true rfl) ?_
  intro p e s m below meth c C hr hlk hnm
  have hbb_b : b = 112 ∨ b = 119 := hb
  have hTy0 : TC G z ln uu0 uu0 := TC.rf hTz0
  have J34 : Xw p l e ({ frames := 2, cells := 0, slots := 0, locals := 42 } : Room) s m ([.ref (z + 3), .ref (z + b), .int a2] : List Value).toArray below meth c G z 3 (MQ below (Qp G z n (fun r v => uu0 = v ∧ ∃ x : Int32, r = some (.int x) ∧ True)) ([.ref (z + 3), .ref (z + b), .int a2] : List Value).toArray s 0 0 (zA z)) 34 [(0, .ref (z + 3)), (1, .ref (z + b)), (2, .int a2)] [] uu0 n 0 0 := by
    refine x_iconst (v := (0 : Int32)) C dX3_patienceOf_34 (by decide) ?_
    have l_0 : (0 : Int32).toInt = 0 := by decide
    exact x_iretP C hr hlk (Nat.le_refl _) (Nat.le_refl _) dX3_patienceOf_35 ⟨rfl, (0 : Int32), rfl, trivial⟩
  refine x_aload_n C 1 dX3_patienceOf_0 rfl rfl ?_
  refine x_iload_n C 2 dX3_patienceOf_1 rfl rfl ?_
  obtain ⟨c2_0, c2_1, c2_2, c2_3, hc2, qc2_0, qc2_1, qc2_2, qc2_3⟩ := ty_br hTy0 hb
  refine x_callVP C cl_X1_hasTraveller kmX3_72 (ci := 0) (b := b) (As := [.int a2]) (rest := []) rfl hc2 (tc_X1_hasTraveller uu0 hTy0.1 b hb a2) rfl rfl (Nat.le_of_ble_eq_true rfl) ⟨Nat.le_of_ble_eq_true rfl, Nat.le_of_ble_eq_true rfl⟩ ⟨Nat.le_of_ble_eq_true rfl, Nat.le_of_ble_eq_true rfl⟩ dX3_patienceOf_2 ?_
  rintro _ _ ⟨rfl, r1, rfl, gr1⟩
  refine x_norm (st2 := [.int r1]) rfl rfl rfl rfl rfl ?_
  have l_0 : (0 : Int32).toInt = 0 := by decide
  refine x_if_eq C 34 dX3_patienceOf_5 (by decide) (fun q4 => ?_) (fun q4 => ?_)
  · have rq4 : r1.toInt = (0 : Int32).toInt := by rw [i_eq_iff] at q4; omega
    exact J34  
  · have rq4 : ¬ r1.toInt = (0 : Int32).toInt := by rw [i_eq_iff] at q4; omega
    refine x_aload_n C 0 dX3_patienceOf_8 rfl rfl ?_
    obtain ⟨c5_0, c5_1, c5_2, c5_3, c5_4, c5_5, c5_6, c5_7, c5_8, c5_9, hc5⟩ := ty_ev hTy0 (Or.inl rfl)
    refine gfX3_33 C dX3_patienceOf_9 hc5 rfl ?_
    refine x_iload_n C 2 dX3_patienceOf_12 rfl rfl ?_
    refine x_callSNP C cl_X9_holds knX3_68 (As := [.int c5_7, .int a2]) (rest := []) (tc_X9_holds uu0 hTy0.1 c5_7 a2) rfl rfl (Nat.le_of_ble_eq_true rfl) ⟨Nat.le_of_ble_eq_true rfl, Nat.le_of_ble_eq_true rfl⟩ ⟨Nat.le_of_ble_eq_true rfl, Nat.le_of_ble_eq_true rfl⟩ dX3_patienceOf_13 ?_
    rintro _ _ ⟨rfl, r6, rfl, gr6⟩
    refine x_norm (st2 := [.int r6]) rfl rfl rfl rfl rfl ?_
    refine x_if_eq C 34 dX3_patienceOf_16 (by decide) (fun q8 => ?_) (fun q8 => ?_)
    · have rq8 : r6.toInt = (0 : Int32).toInt := by rw [i_eq_iff] at q8; omega
      exact J34  
    · have rq8 : ¬ r6.toInt = (0 : Int32).toInt := by rw [i_eq_iff] at q8; omega
      refine x_aload_n C 1 dX3_patienceOf_19 rfl rfl ?_
      refine x_iload_n C 2 dX3_patienceOf_20 rfl rfl ?_
      refine x_callVP C cl_X1_mostWaiting kmX3_117 (ci := 0) (b := b) (As := [.int a2]) (rest := []) rfl hc2 (tc_X1_mostWaiting uu0 hTy0.1 b hb a2) rfl rfl (Nat.le_of_ble_eq_true rfl) ⟨Nat.le_of_ble_eq_true rfl, Nat.le_of_ble_eq_true rfl⟩ ⟨Nat.le_of_ble_eq_true rfl, Nat.le_of_ble_eq_true rfl⟩ dX3_patienceOf_21 ?_
      rintro _ _ ⟨rfl, r9, rfl, gr9⟩
      refine x_norm (st2 := [.int r9]) rfl rfl rfl rfl rfl ?_
      refine x_aload_n C 0 dX3_patienceOf_24 rfl rfl ?_
      refine gfX3_42 C dX3_patienceOf_25 hc5 rfl ?_
      refine x_iload_n C 2 dX3_patienceOf_28 rfl rfl ?_
      obtain ⟨f11, hf11⟩ := ty_evA hTy0 (Or.inl rfl) 1 (by decide) (by decide)
      refine x_iald C hf11 (i_in (by omega) (by omega)) dX3_patienceOf_29 ?_
      refine x_top (fun w12 ew12 => ?_)
      refine x_isub C dX3_patienceOf_30 ?_
      refine x_top (fun w13 ew13 => ?_)
      refine x_goto C 35 dX3_patienceOf_31 (by decide) ?_
      exact x_iretP C hr hlk (Nat.le_refl _) (Nat.le_refl _) dX3_patienceOf_35 ⟨rfl, w13, rfl, trivial⟩
set_option maxRecDepth 20000 in
set_option maxHeartbeats 2000000 in
theorem tc_X3_longestSat {G : GT} {l : Launch} {z n : Nat} {ln : Int} (uu0 : HpT) (hTz0 : TyC G z ln uu0) (b : Nat) (hb : BrO b) : Mp G l z yX3_longestSat cX3_longestSat 5 (some .int) { frames := 0, cells := 0, slots := 0, locals := 0 } [.ref (z + 3), .ref (z + b)] uu0 n (fun r v => uu0 = v ∧ ∃ x : Int32, r = some (.int x) ∧ True) := by
  refine mp_of (by decide +kernel) (Nat.le_of_ble_eq_true rfl) ?_
  intro p e s m below meth c C hr hlk hnm
  have hbb_b : b = 112 ∨ b = 119 := hb
  have hTy0 : TC G z ln uu0 uu0 := TC.rf hTz0
  have J7 : ∀ (d : Nat) (x4_7 : Int32) (hl_x4_7 : 0 ≤ x4_7.toInt) (hh_x4_7 : x4_7.toInt ≤ 6) (x3_7 : Int32) (x2_7 : Int32) (hl_x2_7 : -1 ≤ x2_7.toInt) (hh_x2_7 : x2_7.toInt ≤ 5) (hd : d = (7 - x4_7.toInt).toNat), Xw p l e ({ frames := 0, cells := 0, slots := 0, locals := 0 } : Room) s m ([.ref (z + 3), .ref (z + b)] : List Value).toArray below meth c G z 5 (MQ below (Qp G z n (fun r v => uu0 = v ∧ ∃ x : Int32, r = some (.int x) ∧ True)) ([.ref (z + 3), .ref (z + b)] : List Value).toArray s 0 0 (zA z)) 7 [(4, .int x4_7), (3, .int x3_7), (2, .int x2_7), (0, .ref (z + 3)), (1, .ref (z + b))] [] uu0 n 0 0 := by
    intro d
    induction d using Nat.strongRecOn with
    | _ d ih7 =>
      intro  x4_7 hl_x4_7 hh_x4_7 x3_7 x2_7 hl_x2_7 hh_x2_7 hd7
      have J38 : ∀ (x3_38 : Int32) (x2_38 : Int32) (hl_x2_38 : -1 ≤ x2_38.toInt) (hh_x2_38 : x2_38.toInt ≤ 5) (nl_x4_7_38 : 0 ≤ x4_7.toInt) (nh_x4_7_38 : x4_7.toInt ≤ 5), Xw p l e ({ frames := 0, cells := 0, slots := 0, locals := 0 } : Room) s m ([.ref (z + 3), .ref (z + b)] : List Value).toArray below meth c G z 5 (MQ below (Qp G z n (fun r v => uu0 = v ∧ ∃ x : Int32, r = some (.int x) ∧ True)) ([.ref (z + 3), .ref (z + b)] : List Value).toArray s 0 0 (zA z)) 38 [(4, .int x4_7), (3, .int x3_38), (2, .int x2_38), (0, .ref (z + 3)), (1, .ref (z + b))] [] uu0 n 0 0 := by
        intro  x3_38 x2_38 hl_x2_38 hh_x2_38 nl_x4_7_38 nh_x4_7_38
        have l_1 : (1 : Int32).toInt = 1 := by decide
        obtain ⟨w1, ew1⟩ : ∃ w : Int32, w = x4_7 + Int32.ofInt 1 := ⟨_, rfl⟩
        have fw1 : w1.toInt = x4_7.toInt + (1) := by rw [ew1]; exact i_addk (by decide) (by omega) (by omega)
        refine x_iinc (v := w1) C 0 [(4, .int w1), (3, .int x3_38), (2, .int x2_38), (0, .ref (z + 3)), (1, .ref (z + b))] dX3_longestSat_38 rfl ew1.symm (by decide) rfl ?_
        refine x_goto C 7 dX3_longestSat_41 (by decide) ?_
        exact ih7 (7 - w1.toInt).toNat (by omega)  w1 (by omega) (by omega) x3_38 x2_38 (by omega) (by omega) rfl
      refine x_iload C 0 dX3_longestSat_7 rfl ?_
      refine x_aload_n C 4 dX3_longestSat_9 rfl rfl ?_
      obtain ⟨c2_0, c2_1, c2_2, c2_3, hc2, qc2_0, qc2_1, qc2_2, qc2_3⟩ := ty_br hTy0 hb
      refine gfX3_61 C dX3_longestSat_10 hc2 rfl ?_
      refine x_icmp_ge C 44 dX3_longestSat_13 (by decide) (fun q3 => ?_) (fun q3 => ?_)
      · have rq3 : x4_7.toInt ≥ c2_3.toInt := by rw [Int32.le_iff_toInt_le] at q3; omega
        refine x_iload_n C 2 dX3_longestSat_44 rfl rfl ?_
        exact x_iretP C hr hlk (Nat.le_refl _) (Nat.le_refl _) dX3_longestSat_45 ⟨rfl, x2_7, rfl, trivial⟩
      · have rq3 : x4_7.toInt < c2_3.toInt := by rw [Int32.le_iff_toInt_le] at q3; omega
        refine x_aload_n C 3 dX3_longestSat_16 rfl rfl ?_
        obtain ⟨c4_0, c4_1, c4_2, c4_3, c4_4, c4_5, c4_6, c4_7, c4_8, c4_9, hc4⟩ := ty_ev hTy0 (Or.inl rfl)
        refine gfX3_46 C dX3_longestSat_17 hc4 rfl ?_
        refine x_iload C 0 dX3_longestSat_20 rfl ?_
        obtain ⟨f5, hf5⟩ := ty_evA hTy0 (Or.inl rfl) 2 (by decide) (by decide)
        refine x_iald C hf5 (i_in (by omega) (by omega)) dX3_longestSat_22 ?_
        refine x_top (fun w6 ew6 => ?_)
        refine x_iload_n C 1 dX3_longestSat_23 rfl rfl ?_
        refine x_icmp_le C 38 dX3_longestSat_24 (by decide) (fun q7 => ?_) (fun q7 => ?_)
        · have rq7 : w6.toInt ≤ x3_7.toInt := by rw [Int32.le_iff_toInt_le] at q7; omega
          exact J38  x3_7 x2_7 (by omega) (by omega) (by omega) (by omega)
        · have rq7 : w6.toInt > x3_7.toInt := by rw [Int32.le_iff_toInt_le] at q7; omega
          refine x_aload_n C 3 dX3_longestSat_27 rfl rfl ?_
          refine gfX3_46 C dX3_longestSat_28 hc4 rfl ?_
          refine x_iload C 0 dX3_longestSat_31 rfl ?_
          refine x_iald C hf5 (i_in (by omega) (by omega)) dX3_longestSat_33 ?_
          refine x_top (fun w8 ew8 => ?_)
          refine x_istore_n C [(3, .int w8), (4, .int x4_7), (2, .int x2_7), (0, .ref (z + 3)), (1, .ref (z + b))] dX3_longestSat_34 rfl (by decide) rfl ?_
          refine x_iload C 1 dX3_longestSat_35 rfl ?_
          refine x_istore_n C [(2, .int x4_7), (3, .int w8), (4, .int x4_7), (0, .ref (z + 3)), (1, .ref (z + b))] dX3_longestSat_37 rfl (by decide) rfl ?_
          refine x_mv (lo2 := [(4, .int x4_7), (3, .int w8), (2, .int x4_7), (0, .ref (z + 3)), (1, .ref (z + b))]) [2, 1, 0, 3, 4] rfl ?_
          exact J38  w8 x4_7 (by omega) (by omega) (by omega) (by omega)
  refine x_iconst (v := (-1 : Int32)) C dX3_longestSat_0 (by decide) ?_
  refine x_istore_n C [(2, .int (-1 : Int32)), (0, .ref (z + 3)), (1, .ref (z + b))] dX3_longestSat_1 rfl (by decide) rfl ?_
  refine x_iconst (v := (0 : Int32)) C dX3_longestSat_2 (by decide) ?_
  refine x_istore_n C [(3, .int (0 : Int32)), (2, .int (-1 : Int32)), (0, .ref (z + 3)), (1, .ref (z + b))] dX3_longestSat_3 rfl (by decide) rfl ?_
  refine x_iconst (v := (0 : Int32)) C dX3_longestSat_4 (by decide) ?_
  refine x_istore C [(4, .int (0 : Int32)), (3, .int (0 : Int32)), (2, .int (-1 : Int32)), (0, .ref (z + 3)), (1, .ref (z + b))] dX3_longestSat_5 (by decide) rfl ?_
  have l_0 : (0 : Int32).toInt = 0 := by decide
  have l_m1 : (-1 : Int32).toInt = -1 := by decide
  exact J7 (7 - (0 : Int32).toInt).toNat  (0 : Int32) (by omega) (by omega) (0 : Int32) (-1 : Int32) (by omega) (by omega) rfl
