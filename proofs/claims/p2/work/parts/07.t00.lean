set_option maxRecDepth 20000 in
set_option maxHeartbeats 2000000 in
theorem tc_J6_bitCount_0f7a4 {G : GT} {l : Launch} {z n : Nat} {ln : Int} (uu0 : HpT) (hTz0 : TyC G z ln uu0) (a0 : Int32) : Mp G l z yJ6_bitCount_0f7a4 cJ6_bitCount_0f7a4 1 (some .int) { frames := 0, cells := 0, slots := 0, locals := 0 } [.int a0] uu0 n (fun r v => uu0 = v ∧ ∃ x : Int32, r = some (.int x) ∧ True) := by
  refine mp_of (by decide +kernel) (Nat.le_of_ble_eq_true rfl) ?_
  intro p e s m below meth c C hr hlk hnm
  have hTy0 : TC G z ln uu0 uu0 := TC.rf hTz0
  refine x_iload_n C 0 dJ6_bitCount_0f7a4_0 rfl rfl ?_
  refine x_iload_n C 0 dJ6_bitCount_0f7a4_1 rfl rfl ?_
  refine x_iconst (v := (1 : Int32)) C dJ6_bitCount_0f7a4_2 (by decide) ?_
  refine x_iushr C dJ6_bitCount_0f7a4_3 ?_
  have l_1 : (1 : Int32).toInt = 1 := by decide
  refine x_top (fun w1 ew1 => ?_)
  refine x_ldcw C kcJ6_265 dJ6_bitCount_0f7a4_4 ?_
  refine x_iand C dJ6_bitCount_0f7a4_7 ?_
  have l_1431655765 : (1431655765 : Int32).toInt = 1431655765 := by decide
  refine x_top (fun w2 ew2 => ?_)
  have fw2_0 : 0 ≤ w2.toInt ∧ w2.toInt ≤ (1431655765 : Int32).toInt := by rw [ew2]; exact i_and_r (by omega)
  refine x_isub C dJ6_bitCount_0f7a4_8 ?_
  refine x_top (fun w3 ew3 => ?_)
  refine x_istore_n C [(0, .int w3)] dJ6_bitCount_0f7a4_9 rfl (by decide) rfl ?_
  refine x_iload_n C 0 dJ6_bitCount_0f7a4_10 rfl rfl ?_
  refine x_ldcw C kcJ6_266 dJ6_bitCount_0f7a4_11 ?_
  refine x_iand C dJ6_bitCount_0f7a4_14 ?_
  have l_858993459 : (858993459 : Int32).toInt = 858993459 := by decide
  refine x_top (fun w4 ew4 => ?_)
  have fw4_0 : 0 ≤ w4.toInt ∧ w4.toInt ≤ (858993459 : Int32).toInt := by rw [ew4]; exact i_and_r (by omega)
  refine x_iload_n C 0 dJ6_bitCount_0f7a4_15 rfl rfl ?_
  refine x_iconst (v := (2 : Int32)) C dJ6_bitCount_0f7a4_16 (by decide) ?_
  refine x_iushr C dJ6_bitCount_0f7a4_17 ?_
  have l_2 : (2 : Int32).toInt = 2 := by decide
  refine x_top (fun w5 ew5 => ?_)
  refine x_ldcw C kcJ6_266 dJ6_bitCount_0f7a4_18 ?_
  refine x_iand C dJ6_bitCount_0f7a4_21 ?_
  refine x_top (fun w6 ew6 => ?_)
  have fw6_0 : 0 ≤ w6.toInt ∧ w6.toInt ≤ (858993459 : Int32).toInt := by rw [ew6]; exact i_and_r (by omega)
  refine x_iadd C dJ6_bitCount_0f7a4_22 ?_
  refine x_top (fun w7 ew7 => ?_)
  have fw7_0 : w7.toInt = w4.toInt + w6.toInt := by rw [ew7]; exact i_add (by omega) (by omega)
  refine x_istore_n C [(0, .int w7)] dJ6_bitCount_0f7a4_23 rfl (by decide) rfl ?_
  refine x_iload_n C 0 dJ6_bitCount_0f7a4_24 rfl rfl ?_
  refine x_iload_n C 0 dJ6_bitCount_0f7a4_25 rfl rfl ?_
  refine x_iconst (v := (4 : Int32)) C dJ6_bitCount_0f7a4_26 (by decide) ?_
  refine x_iushr C dJ6_bitCount_0f7a4_27 ?_
  have l_4 : (4 : Int32).toInt = 4 := by decide
  refine x_top (fun w8 ew8 => ?_)
  refine x_iadd C dJ6_bitCount_0f7a4_28 ?_
  refine x_top (fun w9 ew9 => ?_)
  refine x_ldcw C kcJ6_267 dJ6_bitCount_0f7a4_29 ?_
  refine x_iand C dJ6_bitCount_0f7a4_32 ?_
  have l_252645135 : (252645135 : Int32).toInt = 252645135 := by decide
  refine x_top (fun w10 ew10 => ?_)
  have fw10_0 : 0 ≤ w10.toInt ∧ w10.toInt ≤ (252645135 : Int32).toInt := by rw [ew10]; exact i_and_r (by omega)
  refine x_istore_n C [(0, .int w10)] dJ6_bitCount_0f7a4_33 rfl (by decide) rfl ?_
  refine x_iload_n C 0 dJ6_bitCount_0f7a4_34 rfl rfl ?_
  refine x_iload_n C 0 dJ6_bitCount_0f7a4_35 rfl rfl ?_
  refine x_bipush (v := (8 : Int32)) C dJ6_bitCount_0f7a4_36 (by decide) ?_
  refine x_iushr C dJ6_bitCount_0f7a4_38 ?_
  have l_8 : (8 : Int32).toInt = 8 := by decide
  refine x_top (fun w11 ew11 => ?_)
  refine x_iadd C dJ6_bitCount_0f7a4_39 ?_
  refine x_top (fun w12 ew12 => ?_)
  refine x_istore_n C [(0, .int w12)] dJ6_bitCount_0f7a4_40 rfl (by decide) rfl ?_
  refine x_iload_n C 0 dJ6_bitCount_0f7a4_41 rfl rfl ?_
  refine x_iload_n C 0 dJ6_bitCount_0f7a4_42 rfl rfl ?_
  refine x_bipush (v := (16 : Int32)) C dJ6_bitCount_0f7a4_43 (by decide) ?_
  refine x_iushr C dJ6_bitCount_0f7a4_45 ?_
  have l_16 : (16 : Int32).toInt = 16 := by decide
  refine x_top (fun w13 ew13 => ?_)
  refine x_iadd C dJ6_bitCount_0f7a4_46 ?_
  refine x_top (fun w14 ew14 => ?_)
  refine x_istore_n C [(0, .int w14)] dJ6_bitCount_0f7a4_47 rfl (by decide) rfl ?_
  refine x_iload_n C 0 dJ6_bitCount_0f7a4_48 rfl rfl ?_
  refine x_bipush (v := (63 : Int32)) C dJ6_bitCount_0f7a4_49 (by decide) ?_
  refine x_iand C dJ6_bitCount_0f7a4_51 ?_
  have l_63 : (63 : Int32).toInt = 63 := by decide
  refine x_top (fun w15 ew15 => ?_)
  have fw15_0 : 0 ≤ w15.toInt ∧ w15.toInt ≤ (63 : Int32).toInt := by rw [ew15]; exact i_and_r (by omega)
  exact x_iretP C hr hlk (Nat.le_refl _) (Nat.le_refl _) dJ6_bitCount_0f7a4_52 ⟨rfl, w15, rfl, trivial⟩
set_option maxRecDepth 20000 in
set_option maxHeartbeats 2000000 in
theorem tc_X9_holds {G : GT} {l : Launch} {z n : Nat} {ln : Int} (uu0 : HpT) (hTz0 : TyC G z ln uu0) (a0 : Int32) (a1 : Int32) : Mp G l z yX9_holds cX9_holds 2 (some .boolean) { frames := 0, cells := 0, slots := 0, locals := 0 } [.int a0, .int a1] uu0 n (fun r v => uu0 = v ∧ ∃ x : Int32, r = some (.int x) ∧ 0 ≤ x.toInt ∧ x.toInt ≤ 1) := by
  refine mp_of (by decide +kernel) (Nat.le_of_ble_eq_true rfl) ?_
  intro p e s m below meth c C hr hlk hnm
  have hTy0 : TC G z ln uu0 uu0 := TC.rf hTz0
  have J22 : Xw p l e ({ frames := 0, cells := 0, slots := 0, locals := 0 } : Room) s m ([.int a0, .int a1] : List Value).toArray below meth c G z 2 (MQ below (Qp G z n (fun r v => uu0 = v ∧ ∃ x : Int32, r = some (.int x) ∧ 0 ≤ x.toInt ∧ x.toInt ≤ 1)) ([.int a0, .int a1] : List Value).toArray s 0 0 (zA z)) 22 [(0, .int a0), (1, .int a1)] [] uu0 n 0 0 := by
    refine x_iconst (v := (0 : Int32)) C dX9_holds_22 (by decide) ?_
    have l_0 : (0 : Int32).toInt = 0 := by decide
    exact x_zretP C hr hlk (Nat.le_refl _) (Nat.le_refl _) dX9_holds_23 (i_bool (by omega)) ⟨rfl, (0 : Int32), rfl, by omega⟩
  refine x_iload_n C 1 dX9_holds_0 rfl rfl ?_
  have l_0 : (0 : Int32).toInt = 0 := by decide
  refine x_if_lt C 22 dX9_holds_1 (by decide) (fun q1 => ?_) (fun q1 => ?_)
  · have rq1 : a1.toInt < (0 : Int32).toInt := by rw [Int32.lt_iff_toInt_lt] at q1; omega
    exact J22  
  · have rq1 : a1.toInt ≥ (0 : Int32).toInt := by rw [Int32.lt_iff_toInt_lt] at q1; omega
    refine x_iload_n C 1 dX9_holds_4 rfl rfl ?_
    refine x_bipush (v := (31 : Int32)) C dX9_holds_5 (by decide) ?_
    have l_31 : (31 : Int32).toInt = 31 := by decide
    refine x_icmp_ge C 22 dX9_holds_7 (by decide) (fun q2 => ?_) (fun q2 => ?_)
    · have rq2 : a1.toInt ≥ (31 : Int32).toInt := by rw [Int32.le_iff_toInt_le] at q2; omega
      exact J22  
    · have rq2 : a1.toInt < (31 : Int32).toInt := by rw [Int32.le_iff_toInt_le] at q2; omega
      refine x_iload_n C 0 dX9_holds_10 rfl rfl ?_
      refine x_iload_n C 1 dX9_holds_11 rfl rfl ?_
      refine x_ishr C dX9_holds_12 ?_
      refine x_top (fun w3 ew3 => ?_)
      refine x_iconst (v := (1 : Int32)) C dX9_holds_13 (by decide) ?_
      refine x_iand C dX9_holds_14 ?_
      have l_1 : (1 : Int32).toInt = 1 := by decide
      refine x_top (fun w4 ew4 => ?_)
      have fw4_0 : 0 ≤ w4.toInt ∧ w4.toInt ≤ (1 : Int32).toInt := by rw [ew4]; exact i_and_r (by omega)
      refine x_if_eq C 22 dX9_holds_15 (by decide) (fun q5 => ?_) (fun q5 => ?_)
      · have rq5 : w4.toInt = (0 : Int32).toInt := by rw [i_eq_iff] at q5; omega
        exact J22  
      · have rq5 : ¬ w4.toInt = (0 : Int32).toInt := by rw [i_eq_iff] at q5; omega
        refine x_iconst (v := (1 : Int32)) C dX9_holds_18 (by decide) ?_
        refine x_goto C 23 dX9_holds_19 (by decide) ?_
        exact x_zretP C hr hlk (Nat.le_refl _) (Nat.le_refl _) dX9_holds_23 (i_bool (by omega)) ⟨rfl, (1 : Int32), rfl, by omega⟩
set_option maxRecDepth 20000 in
set_option maxHeartbeats 2000000 in
theorem tc_X9_setOfFirst {G : GT} {l : Launch} {z n : Nat} {ln : Int} (uu0 : HpT) (hTz0 : TyC G z ln uu0) (a0 : Int32) (pre0 : 0 ≤ a0.toInt) (pre1 : a0.toInt ≤ 8) : Mp G l z yX9_setOfFirst cX9_setOfFirst 1 (some .int) { frames := 0, cells := 0, slots := 0, locals := 0 } [.int a0] uu0 n (fun r v => uu0 = v ∧ ∃ x : Int32, r = some (.int x) ∧ 0 ≤ x.toInt ∧ x.toInt ≤ 255) := by
  refine mp_of (by decide +kernel) (Nat.le_of_ble_eq_true rfl) ?_
  intro p e s m below meth c C hr hlk hnm
  have hTy0 : TC G z ln uu0 uu0 := TC.rf hTz0
  refine x_iconst (v := (1 : Int32)) C dX9_setOfFirst_0 (by decide) ?_
  refine x_iload_n C 0 dX9_setOfFirst_1 rfl rfl ?_
  refine x_ishl C dX9_setOfFirst_2 ?_
  have l_1 : (1 : Int32).toInt = 1 := by decide
  refine x_top (fun w1 ew1 => ?_)
  refine x_iconst (v := (1 : Int32)) C dX9_setOfFirst_3 (by decide) ?_
  refine x_isub C dX9_setOfFirst_4 ?_
  refine x_top (fun w2 ew2 => ?_)
  exact x_iretP C hr hlk (Nat.le_refl _) (Nat.le_refl _) dX9_setOfFirst_5 ⟨rfl, w2, rfl, by rw [ew2, ew1]; exact i_sof pre0 pre1⟩
set_option maxRecDepth 20000 in
set_option maxHeartbeats 2000000 in
theorem tc_X9_leastOf {G : GT} {l : Launch} {z n : Nat} {ln : Int} (uu0 : HpT) (hTz0 : TyC G z ln uu0) (a0 : Int32) : Mp G l z yX9_leastOf cX9_leastOf 2 (some .int) { frames := 1, cells := 0, slots := 0, locals := 21 } [.int a0] uu0 n (fun r v => uu0 = v ∧ ∃ x : Int32, r = some (.int x) ∧ True) := by
  refine mp_of (by decide +kernel) (Nat.le_of_ble_eq_true rfl) ?_
  intro p e s m below meth c C hr hlk hnm
  have hTy0 : TC G z ln uu0 uu0 := TC.rf hTz0
  have J2 : ∀ (d : Nat) (x1_2 : Int32) (hl_x1_2 : 0 ≤ x1_2.toInt) (hh_x1_2 : x1_2.toInt ≤ 31) (hd : d = (32 - x1_2.toInt).toNat), Xw p l e ({ frames := 1, cells := 0, slots := 0, locals := 21 } : Room) s m ([.int a0] : List Value).toArray below meth c G z 2 (MQ below (Qp G z n (fun r v => uu0 = v ∧ ∃ x : Int32, r = some (.int x) ∧ True)) ([.int a0] : List Value).toArray s 0 0 (zA z)) 2 [(1, .int x1_2), (0, .int a0)] [] uu0 n 0 0 := by
    intro d
    induction d using Nat.strongRecOn with
    | _ d ih2 =>
      intro  x1_2 hl_x1_2 hh_x1_2 hd2
      refine x_iload_n C 0 dX9_leastOf_2 rfl rfl ?_
      refine x_bipush (v := (31 : Int32)) C dX9_leastOf_3 (by decide) ?_
      have l_31 : (31 : Int32).toInt = 31 := by decide
      refine x_icmp_ge C 24 dX9_leastOf_5 (by decide) (fun q1 => ?_) (fun q1 => ?_)
      · have rq1 : x1_2.toInt ≥ (31 : Int32).toInt := by rw [Int32.le_iff_toInt_le] at q1; omega
        refine x_iconst (v := (-1 : Int32)) C dX9_leastOf_24 (by decide) ?_
        have l_m1 : (-1 : Int32).toInt = -1 := by decide
        exact x_iretP C hr hlk (Nat.le_refl _) (Nat.le_refl _) dX9_leastOf_25 ⟨rfl, (-1 : Int32), rfl, trivial⟩
      · have rq1 : x1_2.toInt < (31 : Int32).toInt := by rw [Int32.le_iff_toInt_le] at q1; omega
        refine x_iload_n C 1 dX9_leastOf_8 rfl rfl ?_
        refine x_iload_n C 0 dX9_leastOf_9 rfl rfl ?_
        refine x_callSP C cl_X9_holds kmX9_217 (As := [.int a0, .int x1_2]) (rest := []) (tc_X9_holds uu0 hTy0.1 a0 x1_2) rfl rfl (Nat.le_of_ble_eq_true rfl) ⟨Nat.le_of_ble_eq_true rfl, Nat.le_of_ble_eq_true rfl⟩ ⟨Nat.le_of_ble_eq_true rfl, Nat.le_of_ble_eq_true rfl⟩ dX9_leastOf_10 ?_
        rintro _ _ ⟨rfl, r2, rfl, gr2⟩
        refine x_norm (st2 := [.int r2]) rfl rfl rfl rfl rfl ?_
        have l_0 : (0 : Int32).toInt = 0 := by decide
        refine x_if_eq C 18 dX9_leastOf_13 (by decide) (fun q4 => ?_) (fun q4 => ?_)
        · have rq4 : r2.toInt = (0 : Int32).toInt := by rw [i_eq_iff] at q4; omega
          have l_1 : (1 : Int32).toInt = 1 := by decide
          obtain ⟨w5, ew5⟩ : ∃ w : Int32, w = x1_2 + Int32.ofInt 1 := ⟨_, rfl⟩
          have fw5 : w5.toInt = x1_2.toInt + (1) := by rw [ew5]; exact i_addk (by decide) (by omega) (by omega)
          refine x_iinc (v := w5) C 0 [(1, .int w5), (0, .int a0)] dX9_leastOf_18 rfl ew5.symm (by decide) rfl ?_
          refine x_goto C 2 dX9_leastOf_21 (by decide) ?_
          exact ih2 (32 - w5.toInt).toNat (by omega)  w5 (by omega) (by omega) rfl
        · have rq4 : ¬ r2.toInt = (0 : Int32).toInt := by rw [i_eq_iff] at q4; omega
          refine x_iload_n C 0 dX9_leastOf_16 rfl rfl ?_
          exact x_iretP C hr hlk (Nat.le_refl _) (Nat.le_refl _) dX9_leastOf_17 ⟨rfl, x1_2, rfl, trivial⟩
  refine x_iconst (v := (0 : Int32)) C dX9_leastOf_0 (by decide) ?_
  refine x_istore_n C [(1, .int (0 : Int32)), (0, .int a0)] dX9_leastOf_1 rfl (by decide) rfl ?_
  have l_0 : (0 : Int32).toInt = 0 := by decide
  exact J2 (32 - (0 : Int32).toInt).toNat  (0 : Int32) (by omega) (by omega) rfl
set_option maxRecDepth 20000 in
set_option maxHeartbeats 2000000 in
theorem tc_X1_isThere {G : GT} {l : Launch} {z n : Nat} {ln : Int} (uu0 : HpT) (hTz0 : TyC G z ln uu0) (b : Nat) (hb : BrO b) : Mp G l z yX1_isThere cX1_isThere 1 (some .boolean) { frames := 0, cells := 0, slots := 0, locals := 0 } [.ref (z + b)] uu0 n (fun r v => uu0 = v ∧ ∃ x : Int32, r = some (.int x) ∧ 0 ≤ x.toInt ∧ x.toInt ≤ 1) := by
  refine mp_of (by decide +kernel) (Nat.le_of_ble_eq_true rfl) ?_
  intro p e s m below meth c C hr hlk hnm
  have hbb_b : b = 112 ∨ b = 119 := hb
  have hTy0 : TC G z ln uu0 uu0 := TC.rf hTz0
  refine x_aload_n C 0 dX1_isThere_0 rfl rfl ?_
  obtain ⟨c1_0, c1_1, c1_2, c1_3, hc1, qc1_0, qc1_1, qc1_2, qc1_3⟩ := ty_br hTy0 hb
  refine gfX1_9 C dX1_isThere_1 hc1 rfl ?_
  have l_0 : (0 : Int32).toInt = 0 := by decide
  refine x_if_le C 11 dX1_isThere_4 (by decide) (fun q2 => ?_) (fun q2 => ?_)
  · have rq2 : c1_0.toInt ≤ (0 : Int32).toInt := by rw [Int32.le_iff_toInt_le] at q2; omega
    refine x_iconst (v := (0 : Int32)) C dX1_isThere_11 (by decide) ?_
    exact x_zretP C hr hlk (Nat.le_refl _) (Nat.le_refl _) dX1_isThere_12 (i_bool (by omega)) ⟨rfl, (0 : Int32), rfl, by omega⟩
  · have rq2 : c1_0.toInt > (0 : Int32).toInt := by rw [Int32.le_iff_toInt_le] at q2; omega
    refine x_iconst (v := (1 : Int32)) C dX1_isThere_7 (by decide) ?_
    refine x_goto C 12 dX1_isThere_8 (by decide) ?_
    have l_1 : (1 : Int32).toInt = 1 := by decide
    exact x_zretP C hr hlk (Nat.le_refl _) (Nat.le_refl _) dX1_isThere_12 (i_bool (by omega)) ⟨rfl, (1 : Int32), rfl, by omega⟩
set_option maxRecDepth 20000 in
set_option maxHeartbeats 2000000 in
theorem tc_X1_hasMatter {G : GT} {l : Launch} {z n : Nat} {ln : Int} (uu0 : HpT) (hTz0 : TyC G z ln uu0) (b : Nat) (hb : BrO b) (a1 : Int32) : Mp G l z yX1_hasMatter cX1_hasMatter 2 (some .boolean) { frames := 0, cells := 0, slots := 0, locals := 0 } [.ref (z + b), .int a1] uu0 n (fun r v => uu0 = v ∧ ∃ x : Int32, r = some (.int x) ∧ 0 ≤ x.toInt ∧ x.toInt ≤ 1 ∧ (x.toInt = 0 ∨ (0 ≤ a1.toInt ∧ a1.toInt ≤ 7))) := by
  refine mp_of (by decide +kernel) (Nat.le_of_ble_eq_true rfl) ?_
  intro p e s m below meth c C hr hlk hnm
  have hbb_b : b = 112 ∨ b = 119 := hb
  have hTy0 : TC G z ln uu0 uu0 := TC.rf hTz0
  have J22 : Xw p l e ({ frames := 0, cells := 0, slots := 0, locals := 0 } : Room) s m ([.ref (z + b), .int a1] : List Value).toArray below meth c G z 2 (MQ below (Qp G z n (fun r v => uu0 = v ∧ ∃ x : Int32, r = some (.int x) ∧ 0 ≤ x.toInt ∧ x.toInt ≤ 1 ∧ (x.toInt = 0 ∨ (0 ≤ a1.toInt ∧ a1.toInt ≤ 7)))) ([.ref (z + b), .int a1] : List Value).toArray s 0 0 (zA z)) 22 [(0, .ref (z + b)), (1, .int a1)] [] uu0 n 0 0 := by
    refine x_iconst (v := (0 : Int32)) C dX1_hasMatter_22 (by decide) ?_
    have l_0 : (0 : Int32).toInt = 0 := by decide
    exact x_zretP C hr hlk (Nat.le_refl _) (Nat.le_refl _) dX1_hasMatter_23 (i_bool (by omega)) ⟨rfl, (0 : Int32), rfl, by omega⟩
  refine x_iload_n C 1 dX1_hasMatter_0 rfl rfl ?_
  have l_0 : (0 : Int32).toInt = 0 := by decide
  refine x_if_lt C 22 dX1_hasMatter_1 (by decide) (fun q1 => ?_) (fun q1 => ?_)
  · have rq1 : a1.toInt < (0 : Int32).toInt := by rw [Int32.lt_iff_toInt_lt] at q1; omega
    exact J22  
  · have rq1 : a1.toInt ≥ (0 : Int32).toInt := by rw [Int32.lt_iff_toInt_lt] at q1; omega
    refine x_iload_n C 1 dX1_hasMatter_4 rfl rfl ?_
    refine x_aload_n C 0 dX1_hasMatter_5 rfl rfl ?_
    obtain ⟨c2_0, c2_1, c2_2, c2_3, hc2, qc2_0, qc2_1, qc2_2, qc2_3⟩ := ty_br hTy0 hb
    refine gfX1_18 C dX1_hasMatter_6 hc2 rfl ?_
    refine x_icmp_ge C 22 dX1_hasMatter_9 (by decide) (fun q3 => ?_) (fun q3 => ?_)
    · have rq3 : a1.toInt ≥ c2_2.toInt := by rw [Int32.le_iff_toInt_le] at q3; omega
      exact J22  
    · have rq3 : a1.toInt < c2_2.toInt := by rw [Int32.le_iff_toInt_le] at q3; omega
      refine x_iload_n C 1 dX1_hasMatter_12 rfl rfl ?_
      refine x_bipush (v := (8 : Int32)) C dX1_hasMatter_13 (by decide) ?_
      have l_8 : (8 : Int32).toInt = 8 := by decide
      refine x_icmp_ge C 22 dX1_hasMatter_15 (by decide) (fun q4 => ?_) (fun q4 => ?_)
      · have rq4 : a1.toInt ≥ (8 : Int32).toInt := by rw [Int32.le_iff_toInt_le] at q4; omega
        exfalso; omega
      · have rq4 : a1.toInt < (8 : Int32).toInt := by rw [Int32.le_iff_toInt_le] at q4; omega
        refine x_iconst (v := (1 : Int32)) C dX1_hasMatter_18 (by decide) ?_
        refine x_goto C 23 dX1_hasMatter_19 (by decide) ?_
        have l_1 : (1 : Int32).toInt = 1 := by decide
        exact x_zretP C hr hlk (Nat.le_refl _) (Nat.le_refl _) dX1_hasMatter_23 (i_bool (by omega)) ⟨rfl, (1 : Int32), rfl, by omega⟩
set_option maxRecDepth 20000 in
set_option maxHeartbeats 2000000 in
theorem tc_X1_hasTraveller {G : GT} {l : Launch} {z n : Nat} {ln : Int} (uu0 : HpT) (hTz0 : TyC G z ln uu0) (b : Nat) (hb : BrO b) (a1 : Int32) : Mp G l z yX1_hasTraveller cX1_hasTraveller 2 (some .boolean) { frames := 0, cells := 0, slots := 0, locals := 0 } [.ref (z + b), .int a1] uu0 n (fun r v => uu0 = v ∧ ∃ x : Int32, r = some (.int x) ∧ 0 ≤ x.toInt ∧ x.toInt ≤ 1 ∧ (x.toInt = 0 ∨ (0 ≤ a1.toInt ∧ a1.toInt ≤ 5))) := by
  refine mp_of (by decide +kernel) (Nat.le_of_ble_eq_true rfl) ?_
  intro p e s m below meth c C hr hlk hnm
  have hbb_b : b = 112 ∨ b = 119 := hb
  have hTy0 : TC G z ln uu0 uu0 := TC.rf hTz0
  have J22 : Xw p l e ({ frames := 0, cells := 0, slots := 0, locals := 0 } : Room) s m ([.ref (z + b), .int a1] : List Value).toArray below meth c G z 2 (MQ below (Qp G z n (fun r v => uu0 = v ∧ ∃ x : Int32, r = some (.int x) ∧ 0 ≤ x.toInt ∧ x.toInt ≤ 1 ∧ (x.toInt = 0 ∨ (0 ≤ a1.toInt ∧ a1.toInt ≤ 5)))) ([.ref (z + b), .int a1] : List Value).toArray s 0 0 (zA z)) 22 [(0, .ref (z + b)), (1, .int a1)] [] uu0 n 0 0 := by
    refine x_iconst (v := (0 : Int32)) C dX1_hasTraveller_22 (by decide) ?_
    have l_0 : (0 : Int32).toInt = 0 := by decide
    exact x_zretP C hr hlk (Nat.le_refl _) (Nat.le_refl _) dX1_hasTraveller_23 (i_bool (by omega)) ⟨rfl, (0 : Int32), rfl, by omega⟩
  refine x_iload_n C 1 dX1_hasTraveller_0 rfl rfl ?_
  have l_0 : (0 : Int32).toInt = 0 := by decide
  refine x_if_lt C 22 dX1_hasTraveller_1 (by decide) (fun q1 => ?_) (fun q1 => ?_)
  · have rq1 : a1.toInt < (0 : Int32).toInt := by rw [Int32.lt_iff_toInt_lt] at q1; omega
    exact J22  
  · have rq1 : a1.toInt ≥ (0 : Int32).toInt := by rw [Int32.lt_iff_toInt_lt] at q1; omega
    refine x_iload_n C 1 dX1_hasTraveller_4 rfl rfl ?_
    refine x_aload_n C 0 dX1_hasTraveller_5 rfl rfl ?_
    obtain ⟨c2_0, c2_1, c2_2, c2_3, hc2, qc2_0, qc2_1, qc2_2, qc2_3⟩ := ty_br hTy0 hb
    refine gfX1_21 C dX1_hasTraveller_6 hc2 rfl ?_
    refine x_icmp_ge C 22 dX1_hasTraveller_9 (by decide) (fun q3 => ?_) (fun q3 => ?_)
    · have rq3 : a1.toInt ≥ c2_3.toInt := by rw [Int32.le_iff_toInt_le] at q3; omega
      exact J22  
    · have rq3 : a1.toInt < c2_3.toInt := by rw [Int32.le_iff_toInt_le] at q3; omega
      refine x_iload_n C 1 dX1_hasTraveller_12 rfl rfl ?_
      refine x_bipush (v := (6 : Int32)) C dX1_hasTraveller_13 (by decide) ?_
      have l_6 : (6 : Int32).toInt = 6 := by decide
      refine x_icmp_ge C 22 dX1_hasTraveller_15 (by decide) (fun q4 => ?_) (fun q4 => ?_)
      · have rq4 : a1.toInt ≥ (6 : Int32).toInt := by rw [Int32.le_iff_toInt_le] at q4; omega
        exfalso; omega
      · have rq4 : a1.toInt < (6 : Int32).toInt := by rw [Int32.le_iff_toInt_le] at q4; omega
        refine x_iconst (v := (1 : Int32)) C dX1_hasTraveller_18 (by decide) ?_
        refine x_goto C 23 dX1_hasTraveller_19 (by decide) ?_
        have l_1 : (1 : Int32).toInt = 1 := by decide
        exact x_zretP C hr hlk (Nat.le_refl _) (Nat.le_refl _) dX1_hasTraveller_23 (i_bool (by omega)) ⟨rfl, (1 : Int32), rfl, by omega⟩
set_option maxRecDepth 20000 in
set_option maxHeartbeats 2000000 in
theorem tc_X1_payFor {G : GT} {l : Launch} {z n : Nat} {ln : Int} (uu0 : HpT) (hTz0 : TyC G z ln uu0) (b : Nat) (hb : BrO b) (a1 : Int32) : Mp G l z yX1_payFor cX1_payFor 2 (some .int) { frames := 0, cells := 0, slots := 0, locals := 0 } [.ref (z + b), .int a1] uu0 n (fun r v => uu0 = v ∧ ∃ x : Int32, r = some (.int x) ∧ True) := by
  refine mp_of (by decide +kernel) (Nat.le_of_ble_eq_true rfl) ?_
  intro p e s m below meth c C hr hlk hnm
  have hbb_b : b = 112 ∨ b = 119 := hb
  have hTy0 : TC G z ln uu0 uu0 := TC.rf hTz0
  refine x_aload_n C 0 dX1_payFor_0 rfl rfl ?_
  obtain ⟨c1_0, c1_1, c1_2, c1_3, hc1, qc1_0, qc1_1, qc1_2, qc1_3⟩ := ty_br hTy0 hb
  refine gfX1_9 C dX1_payFor_1 hc1 rfl ?_
  refine x_iconst (v := (1 : Int32)) C dX1_payFor_4 (by decide) ?_
  have l_1 : (1 : Int32).toInt = 1 := by decide
  refine x_icmp_ge C 12 dX1_payFor_5 (by decide) (fun q2 => ?_) (fun q2 => ?_)
  · have rq2 : c1_0.toInt ≥ (1 : Int32).toInt := by rw [Int32.le_iff_toInt_le] at q2; omega
    refine x_iload_n C 1 dX1_payFor_12 rfl rfl ?_
    refine x_aload_n C 0 dX1_payFor_13 rfl rfl ?_
    refine gfX1_9 C dX1_payFor_14 hc1 rfl ?_
    refine x_idiv C dX1_payFor_17 (by rw [i_eq_iff]; have l0 : (0 : Int32).toInt = 0 := (by decide); omega) ?_
    refine x_top (fun w3 ew3 => ?_)
    refine x_aload_n C 0 dX1_payFor_18 rfl rfl ?_
    refine gfX1_15 C dX1_payFor_19 hc1 rfl ?_
    refine x_imul C dX1_payFor_22 ?_
    refine x_top (fun w4 ew4 => ?_)
    exact x_iretP C hr hlk (Nat.le_refl _) (Nat.le_refl _) dX1_payFor_23 ⟨rfl, w4, rfl, trivial⟩
  · have rq2 : c1_0.toInt < (1 : Int32).toInt := by rw [Int32.le_iff_toInt_le] at q2; omega
    refine x_iconst (v := (0 : Int32)) C dX1_payFor_8 (by decide) ?_
    refine x_goto C 23 dX1_payFor_9 (by decide) ?_
    have l_0 : (0 : Int32).toInt = 0 := by decide
    exact x_iretP C hr hlk (Nat.le_refl _) (Nat.le_refl _) dX1_payFor_23 ⟨rfl, (0 : Int32), rfl, trivial⟩
set_option maxRecDepth 20000 in
set_option maxHeartbeats 2000000 in
theorem tc_X1_mostWaiting {G : GT} {l : Launch} {z n : Nat} {ln : Int} (uu0 : HpT) (hTz0 : TyC G z ln uu0) (b : Nat) (hb : BrO b) (a1 : Int32) : Mp G l z yX1_mostWaiting cX1_mostWaiting 2 (some .int) { frames := 1, cells := 0, slots := 0, locals := 21 } [.ref (z + b), .int a1] uu0 n (fun r v => uu0 = v ∧ ∃ x : Int32, r = some (.int x) ∧ True) := by
  refine mp_of (by decide +kernel) (Nat.le_of_ble_eq_true rfl) ?_
  intro p e s m below meth c C hr hlk hnm
  have hbb_b : b = 112 ∨ b = 119 := hb
  have hTy0 : TC G z ln uu0 uu0 := TC.rf hTz0
  refine x_aload_n C 0 dX1_mostWaiting_0 rfl rfl ?_
  refine x_iload_n C 1 dX1_mostWaiting_1 rfl rfl ?_
  obtain ⟨c2_0, c2_1, c2_2, c2_3, hc2, qc2_0, qc2_1, qc2_2, qc2_3⟩ := ty_br hTy0 hb
  refine x_callVP C cl_X1_hasTraveller kmX1_54 (ci := 0) (b := b) (As := [.int a1]) (rest := []) rfl hc2 (tc_X1_hasTraveller uu0 hTy0.1 b hb a1) rfl rfl (Nat.le_of_ble_eq_true rfl) ⟨Nat.le_of_ble_eq_true rfl, Nat.le_of_ble_eq_true rfl⟩ ⟨Nat.le_of_ble_eq_true rfl, Nat.le_of_ble_eq_true rfl⟩ dX1_mostWaiting_2 ?_
  rintro _ _ ⟨rfl, r1, rfl, gr1⟩
  refine x_norm (st2 := [.int r1]) rfl rfl rfl rfl rfl ?_
  have l_0 : (0 : Int32).toInt = 0 := by decide
  refine x_if_eq C 22 dX1_mostWaiting_5 (by decide) (fun q4 => ?_) (fun q4 => ?_)
  · have rq4 : r1.toInt = (0 : Int32).toInt := by rw [i_eq_iff] at q4; omega
    refine x_iconst (v := (0 : Int32)) C dX1_mostWaiting_22 (by decide) ?_
    exact x_iretP C hr hlk (Nat.le_refl _) (Nat.le_refl _) dX1_mostWaiting_23 ⟨rfl, (0 : Int32), rfl, trivial⟩
  · have rq4 : ¬ r1.toInt = (0 : Int32).toInt := by rw [i_eq_iff] at q4; omega
    refine x_bipush (v := (60 : Int32)) C dX1_mostWaiting_8 (by decide) ?_
    refine x_iconst (v := (5 : Int32)) C dX1_mostWaiting_10 (by decide) ?_
    refine x_aload_n C 0 dX1_mostWaiting_11 rfl rfl ?_
    refine gfX1_34 C dX1_mostWaiting_12 hc2 rfl ?_
    refine x_iload_n C 1 dX1_mostWaiting_15 rfl rfl ?_
    obtain ⟨f5, hf5⟩ := ty_brA hTy0 hb 4 6 (by omega)
    refine x_iald C hf5 (i_in (by omega) (by omega)) dX1_mostWaiting_16 ?_
    refine x_top (fun w6 ew6 => ?_)
    refine x_imul C dX1_mostWaiting_17 ?_
    have l_5 : (5 : Int32).toInt = 5 := by decide
    refine x_top (fun w7 ew7 => ?_)
    refine x_isub C dX1_mostWaiting_18 ?_
    have l_60 : (60 : Int32).toInt = 60 := by decide
    refine x_top (fun w8 ew8 => ?_)
    refine x_goto C 23 dX1_mostWaiting_19 (by decide) ?_
    exact x_iretP C hr hlk (Nat.le_refl _) (Nat.le_refl _) dX1_mostWaiting_23 ⟨rfl, w8, rfl, trivial⟩
set_option maxRecDepth 20000 in
set_option maxHeartbeats 2000000 in
theorem tc_X1_isProfessor {G : GT} {l : Launch} {z n : Nat} {ln : Int} (uu0 : HpT) (hTz0 : TyC G z ln uu0) (b : Nat) (hb : BrO b) (a1 : Int32) : Mp G l z yX1_isProfessor cX1_isProfessor 2 (some .boolean) { frames := 1, cells := 0, slots := 0, locals := 21 } [.ref (z + b), .int a1] uu0 n (fun r v => uu0 = v ∧ ∃ x : Int32, r = some (.int x) ∧ 0 ≤ x.toInt ∧ x.toInt ≤ 1) := by
  refine mp_of (by decide +kernel) (Nat.le_of_ble_eq_true rfl) ?_
  intro p e s m below meth c C hr hlk hnm
  have hbb_b : b = 112 ∨ b = 119 := hb
  have hTy0 : TC G z ln uu0 uu0 := TC.rf hTz0
  have J22 : Xw p l e ({ frames := 1, cells := 0, slots := 0, locals := 21 } : Room) s m ([.ref (z + b), .int a1] : List Value).toArray below meth c G z 2 (MQ below (Qp G z n (fun r v => uu0 = v ∧ ∃ x : Int32, r = some (.int x) ∧ 0 ≤ x.toInt ∧ x.toInt ≤ 1)) ([.ref (z + b), .int a1] : List Value).toArray s 0 0 (zA z)) 22 [(0, .ref (z + b)), (1, .int a1)] [] uu0 n 0 0 := by
    refine x_iconst (v := (0 : Int32)) C dX1_isProfessor_22 (by decide) ?_
    have l_0 : (0 : Int32).toInt = 0 := by decide
    exact x_zretP C hr hlk (Nat.le_refl _) (Nat.le_refl _) dX1_isProfessor_23 (i_bool (by omega)) ⟨rfl, (0 : Int32), rfl, by omega⟩
  refine x_aload_n C 0 dX1_isProfessor_0 rfl rfl ?_
  refine x_iload_n C 1 dX1_isProfessor_1 rfl rfl ?_
  obtain ⟨c2_0, c2_1, c2_2, c2_3, hc2, qc2_0, qc2_1, qc2_2, qc2_3⟩ := ty_br hTy0 hb
  refine x_callVP C cl_X1_hasTraveller kmX1_54 (ci := 0) (b := b) (As := [.int a1]) (rest := []) rfl hc2 (tc_X1_hasTraveller uu0 hTy0.1 b hb a1) rfl rfl (Nat.le_of_ble_eq_true rfl) ⟨Nat.le_of_ble_eq_true rfl, Nat.le_of_ble_eq_true rfl⟩ ⟨Nat.le_of_ble_eq_true rfl, Nat.le_of_ble_eq_true rfl⟩ dX1_isProfessor_2 ?_
  rintro _ _ ⟨rfl, r1, rfl, gr1⟩
  refine x_norm (st2 := [.int r1]) rfl rfl rfl rfl rfl ?_
  have l_0 : (0 : Int32).toInt = 0 := by decide
  refine x_if_eq C 22 dX1_isProfessor_5 (by decide) (fun q4 => ?_) (fun q4 => ?_)
  · have rq4 : r1.toInt = (0 : Int32).toInt := by rw [i_eq_iff] at q4; omega
    exact J22  
  · have rq4 : ¬ r1.toInt = (0 : Int32).toInt := by rw [i_eq_iff] at q4; omega
    refine x_aload_n C 0 dX1_isProfessor_8 rfl rfl ?_
    refine gfX1_31 C dX1_isProfessor_9 hc2 rfl ?_
    refine x_iload_n C 1 dX1_isProfessor_12 rfl rfl ?_
    obtain ⟨f5, hf5⟩ := ty_brA hTy0 hb 3 6 (by omega)
    refine x_iald C hf5 (i_in (by omega) (by omega)) dX1_isProfessor_13 ?_
    refine x_top (fun w6 ew6 => ?_)
    refine x_iconst (v := (3 : Int32)) C dX1_isProfessor_14 (by decide) ?_
    have l_3 : (3 : Int32).toInt = 3 := by decide
    refine x_icmp_ne C 22 dX1_isProfessor_15 (by decide) (fun q7 => ?_) (fun q7 => ?_)
    · have rq7 : ¬ w6.toInt = (3 : Int32).toInt := by rw [i_eq_iff] at q7; omega
      exact J22  
    · have rq7 : w6.toInt = (3 : Int32).toInt := by rw [i_eq_iff] at q7; omega
      refine x_iconst (v := (1 : Int32)) C dX1_isProfessor_18 (by decide) ?_
      refine x_goto C 23 dX1_isProfessor_19 (by decide) ?_
      have l_1 : (1 : Int32).toInt = 1 := by decide
      exact x_zretP C hr hlk (Nat.le_refl _) (Nat.le_refl _) dX1_isProfessor_23 (i_bool (by omega)) ⟨rfl, (1 : Int32), rfl, by omega⟩
set_option maxRecDepth 20000 in
set_option maxHeartbeats 2000000 in
theorem tc_X1_stayOf {G : GT} {l : Launch} {z n : Nat} {ln : Int} (uu0 : HpT) (hTz0 : TyC G z ln uu0) (b : Nat) (hb : BrO b) (a1 : Int32) (a2 : Int32) : Mp G l z yX1_stayOf cX1_stayOf 3 (some .int) { frames := 1, cells := 0, slots := 0, locals := 21 } [.ref (z + b), .int a1, .int a2] uu0 n (fun r v => uu0 = v ∧ ∃ x : Int32, r = some (.int x) ∧ True) := by
  refine mp_of (by decide +kernel) (Nat.le_of_ble_eq_true rfl) ?_
  intro p e s m below meth c C hr hlk hnm
  have hbb_b : b = 112 ∨ b = 119 := hb
  have hTy0 : TC G z ln uu0 uu0 := TC.rf hTz0
  have J29 : Xw p l e ({ frames := 1, cells := 0, slots := 0, locals := 21 } : Room) s m ([.ref (z + b), .int a1, .int a2] : List Value).toArray below meth c G z 3 (MQ below (Qp G z n (fun r v => uu0 = v ∧ ∃ x : Int32, r = some (.int x) ∧ True)) ([.ref (z + b), .int a1, .int a2] : List Value).toArray s 0 0 (zA z)) 29 [(0, .ref (z + b)), (1, .int a1), (2, .int a2)] [] uu0 n 0 0 := by
    refine x_iconst (v := (0 : Int32)) C dX1_stayOf_29 (by decide) ?_
    have l_0 : (0 : Int32).toInt = 0 := by decide
    exact x_iretP C hr hlk (Nat.le_refl _) (Nat.le_refl _) dX1_stayOf_30 ⟨rfl, (0 : Int32), rfl, trivial⟩
  refine x_aload_n C 0 dX1_stayOf_0 rfl rfl ?_
  refine x_iload_n C 1 dX1_stayOf_1 rfl rfl ?_
  obtain ⟨c2_0, c2_1, c2_2, c2_3, hc2, qc2_0, qc2_1, qc2_2, qc2_3⟩ := ty_br hTy0 hb
  refine x_callVP C cl_X1_hasTraveller kmX1_54 (ci := 0) (b := b) (As := [.int a1]) (rest := []) rfl hc2 (tc_X1_hasTraveller uu0 hTy0.1 b hb a1) rfl rfl (Nat.le_of_ble_eq_true rfl) ⟨Nat.le_of_ble_eq_true rfl, Nat.le_of_ble_eq_true rfl⟩ ⟨Nat.le_of_ble_eq_true rfl, Nat.le_of_ble_eq_true rfl⟩ dX1_stayOf_2 ?_
  rintro _ _ ⟨rfl, r1, rfl, gr1⟩
  refine x_norm (st2 := [.int r1]) rfl rfl rfl rfl rfl ?_
  have l_0 : (0 : Int32).toInt = 0 := by decide
  refine x_if_eq C 29 dX1_stayOf_5 (by decide) (fun q4 => ?_) (fun q4 => ?_)
  · have rq4 : r1.toInt = (0 : Int32).toInt := by rw [i_eq_iff] at q4; omega
    exact J29  
  · have rq4 : ¬ r1.toInt = (0 : Int32).toInt := by rw [i_eq_iff] at q4; omega
    refine x_aload_n C 0 dX1_stayOf_8 rfl rfl ?_
    refine x_iload_n C 2 dX1_stayOf_9 rfl rfl ?_
    refine x_callVP C cl_X1_hasMatter kmX1_58 (ci := 0) (b := b) (As := [.int a2]) (rest := []) rfl hc2 (tc_X1_hasMatter uu0 hTy0.1 b hb a2) rfl rfl (Nat.le_of_ble_eq_true rfl) ⟨Nat.le_of_ble_eq_true rfl, Nat.le_of_ble_eq_true rfl⟩ ⟨Nat.le_of_ble_eq_true rfl, Nat.le_of_ble_eq_true rfl⟩ dX1_stayOf_10 ?_
    rintro _ _ ⟨rfl, r5, rfl, gr5⟩
    refine x_norm (st2 := [.int r5]) rfl rfl rfl rfl rfl ?_
    refine x_if_eq C 29 dX1_stayOf_13 (by decide) (fun q7 => ?_) (fun q7 => ?_)
    · have rq7 : r5.toInt = (0 : Int32).toInt := by rw [i_eq_iff] at q7; omega
      exact J29  
    · have rq7 : ¬ r5.toInt = (0 : Int32).toInt := by rw [i_eq_iff] at q7; omega
      refine x_aload_n C 0 dX1_stayOf_16 rfl rfl ?_
      refine gfX1_37 C dX1_stayOf_17 hc2 rfl ?_
      refine x_iload_n C 1 dX1_stayOf_20 rfl rfl ?_
      obtain ⟨f8, hf8⟩ := ty_brA hTy0 hb 5 6 (by omega)
      refine x_iald C hf8 (i_in (by omega) (by omega)) dX1_stayOf_21 ?_
      refine x_top (fun w9 ew9 => ?_)
      refine x_iload_n C 2 dX1_stayOf_22 rfl rfl ?_
      refine x_callSNP C cl_X9_holds knX1_50 (As := [.int w9, .int a2]) (rest := []) (tc_X9_holds uu0 hTy0.1 w9 a2) rfl rfl (Nat.le_of_ble_eq_true rfl) ⟨Nat.le_of_ble_eq_true rfl, Nat.le_of_ble_eq_true rfl⟩ ⟨Nat.le_of_ble_eq_true rfl, Nat.le_of_ble_eq_true rfl⟩ dX1_stayOf_23 ?_
      rintro _ _ ⟨rfl, r10, rfl, gr10⟩
      refine x_norm (st2 := [.int r10]) rfl rfl rfl rfl rfl ?_
      refine x_if_ne C 31 dX1_stayOf_26 (by decide) (fun q12 => ?_) (fun q12 => ?_)
      · have rq12 : ¬ r10.toInt = (0 : Int32).toInt := by rw [i_eq_iff] at q12; omega
        refine x_aload_n C 0 dX1_stayOf_31 rfl rfl ?_
        refine gfX1_31 C dX1_stayOf_32 hc2 rfl ?_
        refine x_iload_n C 1 dX1_stayOf_35 rfl rfl ?_
        obtain ⟨f13, hf13⟩ := ty_brA hTy0 hb 3 6 (by omega)
        refine x_iald C hf13 (i_in (by omega) (by omega)) dX1_stayOf_36 ?_
        refine x_top (fun w14 ew14 => ?_)
        by_cases sw37 : w14.toInt < 0 ∨ 3 < w14.toInt
        · refine x_tableOut C 132 dX1_stayOf_37 sw37 (by decide) ?_
          refine x_iconst (v := (0 : Int32)) C dX1_stayOf_132 (by decide) ?_
          exact x_iretP C hr hlk (Nat.le_refl _) (Nat.le_refl _) dX1_stayOf_133 ⟨rfl, (0 : Int32), rfl, trivial⟩
        · rcases (by omega : w14.toInt = 0 ∨ w14.toInt = 1 ∨ w14.toInt = 2 ∨ w14.toInt = 3) with sx | sx | sx | sx
          · refine x_tableIn C 68 dX1_stayOf_37 (by omega) (by omega) (by rw [sx]; rfl) (by decide) ?_
            refine x_iconst (v := (1 : Int32)) C dX1_stayOf_68 (by decide) ?_
            refine x_aload_n C 0 dX1_stayOf_69 rfl rfl ?_
            refine gfX1_24 C dX1_stayOf_70 hc2 rfl ?_
            refine x_iload_n C 2 dX1_stayOf_73 rfl rfl ?_
            obtain ⟨f15, hf15⟩ := ty_brA hTy0 hb 1 8 (by omega)
            refine x_iald C hf15 (i_in (by omega) (by omega)) dX1_stayOf_74 ?_
            refine x_top (fun w16 ew16 => ?_)
            refine x_aload_n C 0 dX1_stayOf_75 rfl rfl ?_
            refine gfX1_34 C dX1_stayOf_76 hc2 rfl ?_
            refine x_iload_n C 1 dX1_stayOf_79 rfl rfl ?_
            obtain ⟨f17, hf17⟩ := ty_brA hTy0 hb 4 6 (by omega)
            refine x_iald C hf17 (i_in (by omega) (by omega)) dX1_stayOf_80 ?_
            refine x_top (fun w18 ew18 => ?_)
            refine x_isub C dX1_stayOf_81 ?_
            refine x_top (fun w19 ew19 => ?_)
            have l_1 : (1 : Int32).toInt = 1 := by decide
            refine x_max C kmX1_61 kMs_max kzMath kMc_max (Nat.le_of_ble_eq_true rfl) (Nat.le_of_ble_eq_true rfl) (Nat.le_of_ble_eq_true rfl) (Nat.le_of_ble_eq_true rfl) dX1_stayOf_82 ?_
            refine x_top (fun w20 ew20 => ?_)
            have fw20_0 : (w20.toInt = (1 : Int32).toInt ∨ w20.toInt = w19.toInt) ∧ w20.toInt ≥ (1 : Int32).toInt ∧ w20.toInt ≥ w19.toInt := by rw [ew20]; exact i_max _ _
            exact x_iretP C hr hlk (Nat.le_refl _) (Nat.le_refl _) dX1_stayOf_85 ⟨rfl, w20, rfl, trivial⟩
          · refine x_tableIn C 86 dX1_stayOf_37 (by omega) (by omega) (by rw [sx]; rfl) (by decide) ?_
            refine x_aload_n C 0 dX1_stayOf_86 rfl rfl ?_
            refine gfX1_24 C dX1_stayOf_87 hc2 rfl ?_
            refine x_iload_n C 2 dX1_stayOf_90 rfl rfl ?_
            obtain ⟨f21, hf21⟩ := ty_brA hTy0 hb 1 8 (by omega)
            refine x_iald C hf21 (i_in (by omega) (by omega)) dX1_stayOf_91 ?_
            refine x_top (fun w22 ew22 => ?_)
            exact x_iretP C hr hlk (Nat.le_refl _) (Nat.le_refl _) dX1_stayOf_92 ⟨rfl, w22, rfl, trivial⟩
          · refine x_tableIn C 93 dX1_stayOf_37 (by omega) (by omega) (by rw [sx]; rfl) (by decide) ?_
            refine x_iconst (v := (0 : Int32)) C dX1_stayOf_93 (by decide) ?_
            refine x_aload_n C 0 dX1_stayOf_94 rfl rfl ?_
            refine gfX1_24 C dX1_stayOf_95 hc2 rfl ?_
            refine x_iload_n C 2 dX1_stayOf_98 rfl rfl ?_
            obtain ⟨f23, hf23⟩ := ty_brA hTy0 hb 1 8 (by omega)
            refine x_iald C hf23 (i_in (by omega) (by omega)) dX1_stayOf_99 ?_
            refine x_top (fun w24 ew24 => ?_)
            refine x_iconst (v := (2 : Int32)) C dX1_stayOf_100 (by decide) ?_
            have l_2 : (2 : Int32).toInt = 2 := by decide
            refine x_idiv C dX1_stayOf_101 (by decide) ?_
            refine x_top (fun w25 ew25 => ?_)
            refine x_aload_n C 0 dX1_stayOf_102 rfl rfl ?_
            refine gfX1_34 C dX1_stayOf_103 hc2 rfl ?_
            refine x_iload_n C 1 dX1_stayOf_106 rfl rfl ?_
            obtain ⟨f26, hf26⟩ := ty_brA hTy0 hb 4 6 (by omega)
            refine x_iald C hf26 (i_in (by omega) (by omega)) dX1_stayOf_107 ?_
            refine x_top (fun w27 ew27 => ?_)
            refine x_isub C dX1_stayOf_108 ?_
            refine x_top (fun w28 ew28 => ?_)
            refine x_max C kmX1_61 kMs_max kzMath kMc_max (Nat.le_of_ble_eq_true rfl) (Nat.le_of_ble_eq_true rfl) (Nat.le_of_ble_eq_true rfl) (Nat.le_of_ble_eq_true rfl) dX1_stayOf_109 ?_
            refine x_top (fun w29 ew29 => ?_)
            have fw29_0 : (w29.toInt = (0 : Int32).toInt ∨ w29.toInt = w28.toInt) ∧ w29.toInt ≥ (0 : Int32).toInt ∧ w29.toInt ≥ w28.toInt := by rw [ew29]; exact i_max _ _
            exact x_iretP C hr hlk (Nat.le_refl _) (Nat.le_refl _) dX1_stayOf_112 ⟨rfl, w29, rfl, trivial⟩
          · refine x_tableIn C 113 dX1_stayOf_37 (by omega) (by omega) (by rw [sx]; rfl) (by decide) ?_
            refine x_aload_n C 0 dX1_stayOf_113 rfl rfl ?_
            refine gfX1_24 C dX1_stayOf_114 hc2 rfl ?_
            refine x_iload_n C 2 dX1_stayOf_117 rfl rfl ?_
            obtain ⟨f30, hf30⟩ := ty_brA hTy0 hb 1 8 (by omega)
            refine x_iald C hf30 (i_in (by omega) (by omega)) dX1_stayOf_118 ?_
            refine x_top (fun w31 ew31 => ?_)
            refine x_iconst (v := (5 : Int32)) C dX1_stayOf_119 (by decide) ?_
            refine x_aload_n C 0 dX1_stayOf_120 rfl rfl ?_
            refine gfX1_28 C dX1_stayOf_121 hc2 rfl ?_
            refine x_iload_n C 2 dX1_stayOf_124 rfl rfl ?_
            obtain ⟨f32, hf32⟩ := ty_brA hTy0 hb 2 8 (by omega)
            refine x_iald C hf32 (i_in (by omega) (by omega)) dX1_stayOf_125 ?_
            refine x_top (fun w33 ew33 => ?_)
            refine x_callSP C cl_J6_bitCount_0f7a4 kmX1_67 (As := [.int w33]) (rest := [.int (5 : Int32), .int w31]) (tc_J6_bitCount_0f7a4 uu0 hTy0.1 w33) rfl rfl (Nat.le_of_ble_eq_true rfl) ⟨Nat.le_of_ble_eq_true rfl, Nat.le_of_ble_eq_true rfl⟩ ⟨Nat.le_of_ble_eq_true rfl, Nat.le_of_ble_eq_true rfl⟩ dX1_stayOf_126 ?_
            rintro _ _ ⟨rfl, r34, rfl, gr34⟩
            refine x_norm (st2 := [.int r34, .int (5 : Int32), .int w31]) rfl rfl rfl rfl rfl ?_
            refine x_imul C dX1_stayOf_129 ?_
            have l_5 : (5 : Int32).toInt = 5 := by decide
            refine x_top (fun w36 ew36 => ?_)
            refine x_iadd C dX1_stayOf_130 ?_
            refine x_top (fun w37 ew37 => ?_)
            exact x_iretP C hr hlk (Nat.le_refl _) (Nat.le_refl _) dX1_stayOf_131 ⟨rfl, w37, rfl, trivial⟩
      · have rq12 : r10.toInt = (0 : Int32).toInt := by rw [i_eq_iff] at q12; omega
        exact J29  
set_option maxRecDepth 20000 in
set_option maxHeartbeats 2000000 in
theorem tc_X1_oneStepFrom {G : GT} {l : Launch} {z n : Nat} {ln : Int} (uu0 : HpT) (hTz0 : TyC G z ln uu0) (b : Nat) (hb : BrO b) (a1 : Int32) : Mp G l z yX1_oneStepFrom cX1_oneStepFrom 4 (some .int) { frames := 1, cells := 0, slots := 0, locals := 21 } [.ref (z + b), .int a1] uu0 n (fun r v => uu0 = v ∧ ∃ x : Int32, r = some (.int x) ∧ True) := by
  refine mp_of (by decide +kernel) (Nat.le_of_ble_eq_true rfl) ?_
  intro p e s m below meth c C hr hlk hnm
  have hbb_b : b = 112 ∨ b = 119 := hb
  have hTy0 : TC G z ln uu0 uu0 := TC.rf hTz0
  have J4 : ∀ (d : Nat) (x3_4 : Int32) (hl_x3_4 : 0 ≤ x3_4.toInt) (hh_x3_4 : x3_4.toInt ≤ 8) (x2_4 : Int32) (hd : d = (9 - x3_4.toInt).toNat), Xw p l e ({ frames := 1, cells := 0, slots := 0, locals := 21 } : Room) s m ([.ref (z + b), .int a1] : List Value).toArray below meth c G z 4 (MQ below (Qp G z n (fun r v => uu0 = v ∧ ∃ x : Int32, r = some (.int x) ∧ True)) ([.ref (z + b), .int a1] : List Value).toArray s 0 0 (zA z)) 4 [(3, .int x3_4), (2, .int x2_4), (0, .ref (z + b)), (1, .int a1)] [] uu0 n 0 0 := by
    intro d
    induction d using Nat.strongRecOn with
    | _ d ih4 =>
      intro  x3_4 hl_x3_4 hh_x3_4 x2_4 hd4
      have J29 : ∀ (x2_29 : Int32) (nl_x3_4_29 : 0 ≤ x3_4.toInt) (nh_x3_4_29 : x3_4.toInt ≤ 7), Xw p l e ({ frames := 1, cells := 0, slots := 0, locals := 21 } : Room) s m ([.ref (z + b), .int a1] : List Value).toArray below meth c G z 4 (MQ below (Qp G z n (fun r v => uu0 = v ∧ ∃ x : Int32, r = some (.int x) ∧ True)) ([.ref (z + b), .int a1] : List Value).toArray s 0 0 (zA z)) 29 [(3, .int x3_4), (2, .int x2_29), (0, .ref (z + b)), (1, .int a1)] [] uu0 n 0 0 := by
        intro  x2_29 nl_x3_4_29 nh_x3_4_29
        have l_1 : (1 : Int32).toInt = 1 := by decide
        obtain ⟨w1, ew1⟩ : ∃ w : Int32, w = x3_4 + Int32.ofInt 1 := ⟨_, rfl⟩
        have fw1 : w1.toInt = x3_4.toInt + (1) := by rw [ew1]; exact i_addk (by decide) (by omega) (by omega)
        refine x_iinc (v := w1) C 0 [(3, .int w1), (2, .int x2_29), (0, .ref (z + b)), (1, .int a1)] dX1_oneStepFrom_29 rfl ew1.symm (by decide) rfl ?_
        refine x_goto C 4 dX1_oneStepFrom_32 (by decide) ?_
        exact ih4 (9 - w1.toInt).toNat (by omega)  w1 (by omega) (by omega) x2_29 rfl
      refine x_iload_n C 0 dX1_oneStepFrom_4 rfl rfl ?_
      refine x_aload_n C 2 dX1_oneStepFrom_5 rfl rfl ?_
      obtain ⟨c2_0, c2_1, c2_2, c2_3, hc2, qc2_0, qc2_1, qc2_2, qc2_3⟩ := ty_br hTy0 hb
      refine gfX1_18 C dX1_oneStepFrom_6 hc2 rfl ?_
      refine x_icmp_ge C 35 dX1_oneStepFrom_9 (by decide) (fun q3 => ?_) (fun q3 => ?_)
      · have rq3 : x3_4.toInt ≥ c2_2.toInt := by rw [Int32.le_iff_toInt_le] at q3; omega
        refine x_iload_n C 1 dX1_oneStepFrom_35 rfl rfl ?_
        exact x_iretP C hr hlk (Nat.le_refl _) (Nat.le_refl _) dX1_oneStepFrom_36 ⟨rfl, x2_4, rfl, trivial⟩
      · have rq3 : x3_4.toInt < c2_2.toInt := by rw [Int32.le_iff_toInt_le] at q3; omega
        refine x_iload_n C 3 dX1_oneStepFrom_12 rfl rfl ?_
        refine x_iload_n C 0 dX1_oneStepFrom_13 rfl rfl ?_
        refine x_callSNP C cl_X9_holds knX1_50 (As := [.int a1, .int x3_4]) (rest := []) (tc_X9_holds uu0 hTy0.1 a1 x3_4) rfl rfl (Nat.le_of_ble_eq_true rfl) ⟨Nat.le_of_ble_eq_true rfl, Nat.le_of_ble_eq_true rfl⟩ ⟨Nat.le_of_ble_eq_true rfl, Nat.le_of_ble_eq_true rfl⟩ dX1_oneStepFrom_14 ?_
        rintro _ _ ⟨rfl, r4, rfl, gr4⟩
        refine x_norm (st2 := [.int r4]) rfl rfl rfl rfl rfl ?_
        have l_0 : (0 : Int32).toInt = 0 := by decide
        refine x_if_eq C 29 dX1_oneStepFrom_17 (by decide) (fun q6 => ?_) (fun q6 => ?_)
        · have rq6 : r4.toInt = (0 : Int32).toInt := by rw [i_eq_iff] at q6; omega
          exact J29  x2_4 (by omega) (by omega)
        · have rq6 : ¬ r4.toInt = (0 : Int32).toInt := by rw [i_eq_iff] at q6; omega
          refine x_iload_n C 1 dX1_oneStepFrom_20 rfl rfl ?_
          refine x_aload_n C 2 dX1_oneStepFrom_21 rfl rfl ?_
          refine gfX1_28 C dX1_oneStepFrom_22 hc2 rfl ?_
          refine x_iload_n C 0 dX1_oneStepFrom_25 rfl rfl ?_
          obtain ⟨f7, hf7⟩ := ty_brA hTy0 hb 2 8 (by omega)
          refine x_iald C hf7 (i_in (by omega) (by omega)) dX1_oneStepFrom_26 ?_
          refine x_top (fun w8 ew8 => ?_)
          refine x_ior C dX1_oneStepFrom_27 ?_
          refine x_top (fun w9 ew9 => ?_)
          refine x_istore_n C [(2, .int w9), (3, .int x3_4), (0, .ref (z + b)), (1, .int a1)] dX1_oneStepFrom_28 rfl (by decide) rfl ?_
          refine x_mv (lo2 := [(3, .int x3_4), (2, .int w9), (0, .ref (z + b)), (1, .int a1)]) [1, 0, 2, 3] rfl ?_
          exact J29  w9 (by omega) (by omega)
  refine x_iconst (v := (0 : Int32)) C dX1_oneStepFrom_0 (by decide) ?_
  refine x_istore_n C [(2, .int (0 : Int32)), (0, .ref (z + b)), (1, .int a1)] dX1_oneStepFrom_1 rfl (by decide) rfl ?_
  refine x_iconst (v := (0 : Int32)) C dX1_oneStepFrom_2 (by decide) ?_
  refine x_istore_n C [(3, .int (0 : Int32)), (2, .int (0 : Int32)), (0, .ref (z + b)), (1, .int a1)] dX1_oneStepFrom_3 rfl (by decide) rfl ?_
  have l_0 : (0 : Int32).toInt = 0 := by decide
  exact J4 (9 - (0 : Int32).toInt).toNat  (0 : Int32) (by omega) (by omega) (0 : Int32) rfl
set_option maxRecDepth 20000 in
set_option maxHeartbeats 2000000 in
theorem tc_X1_leadsFrom {G : GT} {l : Launch} {z n : Nat} {ln : Int} (uu0 : HpT) (hTz0 : TyC G z ln uu0) (b : Nat) (hb : BrO b) (a1 : Int32) : Mp G l z yX1_leadsFrom cX1_leadsFrom 4 (some .int) { frames := 2, cells := 0, slots := 0, locals := 44 } [.ref (z + b), .int a1] uu0 n (fun r v => uu0 = v ∧ ∃ x : Int32, r = some (.int x) ∧ True) := by
  refine mp_of (by decide +kernel) (Nat.le_of_ble_eq_true rfl) ?_
  intro p e s m below meth c C hr hlk hnm
  have hbb_b : b = 112 ∨ b = 119 := hb
  have hTy0 : TC G z ln uu0 uu0 := TC.rf hTz0
  have J21 : ∀ (d : Nat) (x3_21 : Int32) (hl_x3_21 : 1 ≤ x3_21.toInt) (hh_x3_21 : x3_21.toInt ≤ 8) (x2_21 : Int32) (hd : d = (9 - x3_21.toInt).toNat), Xw p l e ({ frames := 2, cells := 0, slots := 0, locals := 44 } : Room) s m ([.ref (z + b), .int a1] : List Value).toArray below meth c G z 4 (MQ below (Qp G z n (fun r v => uu0 = v ∧ ∃ x : Int32, r = some (.int x) ∧ True)) ([.ref (z + b), .int a1] : List Value).toArray s 0 0 (zA z)) 21 [(3, .int x3_21), (2, .int x2_21), (0, .ref (z + b)), (1, .int a1)] [] uu0 n 0 0 := by
    intro d
    induction d using Nat.strongRecOn with
    | _ d ih21 =>
      intro  x3_21 hl_x3_21 hh_x3_21 x2_21 hd21
      refine x_iload_n C 0 dX1_leadsFrom_21 rfl rfl ?_
      refine x_aload_n C 2 dX1_leadsFrom_22 rfl rfl ?_
      obtain ⟨c1_0, c1_1, c1_2, c1_3, hc1, qc1_0, qc1_1, qc1_2, qc1_3⟩ := ty_br hTy0 hb
      refine gfX1_18 C dX1_leadsFrom_23 hc1 rfl ?_
      refine x_icmp_ge C 43 dX1_leadsFrom_26 (by decide) (fun q2 => ?_) (fun q2 => ?_)
      · have rq2 : x3_21.toInt ≥ c1_2.toInt := by rw [Int32.le_iff_toInt_le] at q2; omega
        refine x_iload_n C 1 dX1_leadsFrom_43 rfl rfl ?_
        exact x_iretP C hr hlk (Nat.le_refl _) (Nat.le_refl _) dX1_leadsFrom_44 ⟨rfl, x2_21, rfl, trivial⟩
      · have rq2 : x3_21.toInt < c1_2.toInt := by rw [Int32.le_iff_toInt_le] at q2; omega
        refine x_iload_n C 1 dX1_leadsFrom_29 rfl rfl ?_
        refine x_aload_n C 2 dX1_leadsFrom_30 rfl rfl ?_
        refine x_iload_n C 1 dX1_leadsFrom_31 rfl rfl ?_
        refine x_callVP C cl_X1_oneStepFrom kmX1_72 (ci := 0) (b := b) (As := [.int x2_21]) (rest := [.int x2_21]) rfl hc1 (tc_X1_oneStepFrom uu0 hTy0.1 b hb x2_21) rfl rfl (Nat.le_of_ble_eq_true rfl) ⟨Nat.le_of_ble_eq_true rfl, Nat.le_of_ble_eq_true rfl⟩ ⟨Nat.le_of_ble_eq_true rfl, Nat.le_of_ble_eq_true rfl⟩ dX1_leadsFrom_32 ?_
        rintro _ _ ⟨rfl, r3, rfl, gr3⟩
        refine x_norm (st2 := [.int r3, .int x2_21]) rfl rfl rfl rfl rfl ?_
        refine x_ior C dX1_leadsFrom_35 ?_
        refine x_top (fun w5 ew5 => ?_)
        refine x_istore_n C [(2, .int w5), (3, .int x3_21), (0, .ref (z + b)), (1, .int a1)] dX1_leadsFrom_36 rfl (by decide) rfl ?_
        have l_1 : (1 : Int32).toInt = 1 := by decide
        obtain ⟨w6, ew6⟩ : ∃ w : Int32, w = x3_21 + Int32.ofInt 1 := ⟨_, rfl⟩
        have fw6 : w6.toInt = x3_21.toInt + (1) := by rw [ew6]; exact i_addk (by decide) (by omega) (by omega)
        refine x_iinc (v := w6) C 1 [(3, .int w6), (2, .int w5), (0, .ref (z + b)), (1, .int a1)] dX1_leadsFrom_37 rfl ew6.symm (by decide) rfl ?_
        refine x_goto C 21 dX1_leadsFrom_40 (by decide) ?_
        exact ih21 (9 - w6.toInt).toNat (by omega)  w6 (by omega) (by omega) w5 rfl
  have J18 : ∀ (y0_18 : Int32), Xw p l e ({ frames := 2, cells := 0, slots := 0, locals := 44 } : Room) s m ([.ref (z + b), .int a1] : List Value).toArray below meth c G z 4 (MQ below (Qp G z n (fun r v => uu0 = v ∧ ∃ x : Int32, r = some (.int x) ∧ True)) ([.ref (z + b), .int a1] : List Value).toArray s 0 0 (zA z)) 18 [(0, .ref (z + b)), (1, .int a1)] [.int y0_18] uu0 n 0 0 := by
    intro  y0_18
    refine x_istore_n C [(2, .int y0_18), (0, .ref (z + b)), (1, .int a1)] dX1_leadsFrom_18 rfl (by decide) rfl ?_
    refine x_iconst (v := (1 : Int32)) C dX1_leadsFrom_19 (by decide) ?_
    refine x_istore_n C [(3, .int (1 : Int32)), (2, .int y0_18), (0, .ref (z + b)), (1, .int a1)] dX1_leadsFrom_20 rfl (by decide) rfl ?_
    have l_1 : (1 : Int32).toInt = 1 := by decide
    exact J21 (9 - (1 : Int32).toInt).toNat  (1 : Int32) (by omega) (by omega) y0_18 rfl
  refine x_aload_n C 0 dX1_leadsFrom_0 rfl rfl ?_
  refine x_iload_n C 1 dX1_leadsFrom_1 rfl rfl ?_
  obtain ⟨c8_0, c8_1, c8_2, c8_3, hc8, qc8_0, qc8_1, qc8_2, qc8_3⟩ := ty_br hTy0 hb
  refine x_callVP C cl_X1_hasMatter kmX1_58 (ci := 0) (b := b) (As := [.int a1]) (rest := []) rfl hc8 (tc_X1_hasMatter uu0 hTy0.1 b hb a1) rfl rfl (Nat.le_of_ble_eq_true rfl) ⟨Nat.le_of_ble_eq_true rfl, Nat.le_of_ble_eq_true rfl⟩ ⟨Nat.le_of_ble_eq_true rfl, Nat.le_of_ble_eq_true rfl⟩ dX1_leadsFrom_2 ?_
  rintro _ _ ⟨rfl, r7, rfl, gr7⟩
  refine x_norm (st2 := [.int r7]) rfl rfl rfl rfl rfl ?_
  have l_0 : (0 : Int32).toInt = 0 := by decide
  refine x_if_eq C 17 dX1_leadsFrom_5 (by decide) (fun q10 => ?_) (fun q10 => ?_)
  · have rq10 : r7.toInt = (0 : Int32).toInt := by rw [i_eq_iff] at q10; omega
    refine x_iconst (v := (0 : Int32)) C dX1_leadsFrom_17 (by decide) ?_
    exact J18  (0 : Int32)
  · have rq10 : ¬ r7.toInt = (0 : Int32).toInt := by rw [i_eq_iff] at q10; omega
    refine x_aload_n C 0 dX1_leadsFrom_8 rfl rfl ?_
    refine gfX1_28 C dX1_leadsFrom_9 hc8 rfl ?_
    refine x_iload_n C 1 dX1_leadsFrom_12 rfl rfl ?_
    obtain ⟨f11, hf11⟩ := ty_brA hTy0 hb 2 8 (by omega)
    refine x_iald C hf11 (i_in (by omega) (by omega)) dX1_leadsFrom_13 ?_
    refine x_top (fun w12 ew12 => ?_)
    refine x_goto C 18 dX1_leadsFrom_14 (by decide) ?_
    exact J18  w12
set_option maxRecDepth 20000 in
set_option maxHeartbeats 2000000 in
theorem tc_X1_stepsRound {G : GT} {l : Launch} {z n : Nat} {ln : Int} (uu0 : HpT) (hTz0 : TyC G z ln uu0) (b : Nat) (hb : BrO b) (a1 : Int32) : Mp G l z yX1_stepsRound cX1_stepsRound 4 (some .int) { frames := 2, cells := 0, slots := 0, locals := 44 } [.ref (z + b), .int a1] uu0 n (fun r v => uu0 = v ∧ ∃ x : Int32, r = some (.int x) ∧ True) := by
  refine mp_of (by decide +kernel) (Nat.le_of_ble_eq_true rfl) ?_
  intro p e s m below meth c C hr hlk hnm
  have hbb_b : b = 112 ∨ b = 119 := hb
  have hTy0 : TC G z ln uu0 uu0 := TC.rf hTz0
  have J21 : ∀ (d : Nat) (x3_21 : Int32) (hl_x3_21 : 1 ≤ x3_21.toInt) (hh_x3_21 : x3_21.toInt ≤ 9) (x2_21 : Int32) (hd : d = (10 - x3_21.toInt).toNat), Xw p l e ({ frames := 2, cells := 0, slots := 0, locals := 44 } : Room) s m ([.ref (z + b), .int a1] : List Value).toArray below meth c G z 4 (MQ below (Qp G z n (fun r v => uu0 = v ∧ ∃ x : Int32, r = some (.int x) ∧ True)) ([.ref (z + b), .int a1] : List Value).toArray s 0 0 (zA z)) 21 [(3, .int x3_21), (2, .int x2_21), (0, .ref (z + b)), (1, .int a1)] [] uu0 n 0 0 := by
    intro d
    induction d using Nat.strongRecOn with
    | _ d ih21 =>
      intro  x3_21 hl_x3_21 hh_x3_21 x2_21 hd21
      refine x_iload_n C 0 dX1_stepsRound_21 rfl rfl ?_
      refine x_aload_n C 2 dX1_stepsRound_22 rfl rfl ?_
      obtain ⟨c1_0, c1_1, c1_2, c1_3, hc1, qc1_0, qc1_1, qc1_2, qc1_3⟩ := ty_br hTy0 hb
      refine gfX1_18 C dX1_stepsRound_23 hc1 rfl ?_
      refine x_icmp_gt C 51 dX1_stepsRound_26 (by decide) (fun q2 => ?_) (fun q2 => ?_)
      · have rq2 : x3_21.toInt > c1_2.toInt := by rw [Int32.lt_iff_toInt_lt] at q2; omega
        refine x_iconst (v := (-1 : Int32)) C dX1_stepsRound_51 (by decide) ?_
        have l_m1 : (-1 : Int32).toInt = -1 := by decide
        exact x_iretP C hr hlk (Nat.le_refl _) (Nat.le_refl _) dX1_stepsRound_52 ⟨rfl, (-1 : Int32), rfl, trivial⟩
      · have rq2 : x3_21.toInt ≤ c1_2.toInt := by rw [Int32.lt_iff_toInt_lt] at q2; omega
        refine x_iload_n C 1 dX1_stepsRound_29 rfl rfl ?_
        refine x_iload_n C 3 dX1_stepsRound_30 rfl rfl ?_
        refine x_callSNP C cl_X9_holds knX1_50 (As := [.int x2_21, .int a1]) (rest := []) (tc_X9_holds uu0 hTy0.1 x2_21 a1) rfl rfl (Nat.le_of_ble_eq_true rfl) ⟨Nat.le_of_ble_eq_true rfl, Nat.le_of_ble_eq_true rfl⟩ ⟨Nat.le_of_ble_eq_true rfl, Nat.le_of_ble_eq_true rfl⟩ dX1_stepsRound_31 ?_
        rintro _ _ ⟨rfl, r3, rfl, gr3⟩
        refine x_norm (st2 := [.int r3]) rfl rfl rfl rfl rfl ?_
        have l_0 : (0 : Int32).toInt = 0 := by decide
        refine x_if_eq C 39 dX1_stepsRound_34 (by decide) (fun q5 => ?_) (fun q5 => ?_)
        · have rq5 : r3.toInt = (0 : Int32).toInt := by rw [i_eq_iff] at q5; omega
          refine x_aload_n C 2 dX1_stepsRound_39 rfl rfl ?_
          refine x_iload_n C 1 dX1_stepsRound_40 rfl rfl ?_
          refine x_callVP C cl_X1_oneStepFrom kmX1_72 (ci := 0) (b := b) (As := [.int x2_21]) (rest := []) rfl hc1 (tc_X1_oneStepFrom uu0 hTy0.1 b hb x2_21) rfl rfl (Nat.le_of_ble_eq_true rfl) ⟨Nat.le_of_ble_eq_true rfl, Nat.le_of_ble_eq_true rfl⟩ ⟨Nat.le_of_ble_eq_true rfl, Nat.le_of_ble_eq_true rfl⟩ dX1_stepsRound_41 ?_
          rintro _ _ ⟨rfl, r6, rfl, gr6⟩
          refine x_norm (st2 := [.int r6]) rfl rfl rfl rfl rfl ?_
          refine x_istore_n C [(2, .int r6), (3, .int x3_21), (0, .ref (z + b)), (1, .int a1)] dX1_stepsRound_44 rfl (by decide) rfl ?_
          have l_1 : (1 : Int32).toInt = 1 := by decide
          obtain ⟨w8, ew8⟩ : ∃ w : Int32, w = x3_21 + Int32.ofInt 1 := ⟨_, rfl⟩
          have fw8 : w8.toInt = x3_21.toInt + (1) := by rw [ew8]; exact i_addk (by decide) (by omega) (by omega)
          refine x_iinc (v := w8) C 1 [(3, .int w8), (2, .int r6), (0, .ref (z + b)), (1, .int a1)] dX1_stepsRound_45 rfl ew8.symm (by decide) rfl ?_
          refine x_goto C 21 dX1_stepsRound_48 (by decide) ?_
          exact ih21 (10 - w8.toInt).toNat (by omega)  w8 (by omega) (by omega) r6 rfl
        · have rq5 : ¬ r3.toInt = (0 : Int32).toInt := by rw [i_eq_iff] at q5; omega
          refine x_iload_n C 0 dX1_stepsRound_37 rfl rfl ?_
          exact x_iretP C hr hlk (Nat.le_refl _) (Nat.le_refl _) dX1_stepsRound_38 ⟨rfl, x3_21, rfl, trivial⟩
  have J18 : ∀ (y0_18 : Int32), Xw p l e ({ frames := 2, cells := 0, slots := 0, locals := 44 } : Room) s m ([.ref (z + b), .int a1] : List Value).toArray below meth c G z 4 (MQ below (Qp G z n (fun r v => uu0 = v ∧ ∃ x : Int32, r = some (.int x) ∧ True)) ([.ref (z + b), .int a1] : List Value).toArray s 0 0 (zA z)) 18 [(0, .ref (z + b)), (1, .int a1)] [.int y0_18] uu0 n 0 0 := by
    intro  y0_18
    refine x_istore_n C [(2, .int y0_18), (0, .ref (z + b)), (1, .int a1)] dX1_stepsRound_18 rfl (by decide) rfl ?_
    refine x_iconst (v := (1 : Int32)) C dX1_stepsRound_19 (by decide) ?_
    refine x_istore_n C [(3, .int (1 : Int32)), (2, .int y0_18), (0, .ref (z + b)), (1, .int a1)] dX1_stepsRound_20 rfl (by decide) rfl ?_
    have l_1 : (1 : Int32).toInt = 1 := by decide
    exact J21 (10 - (1 : Int32).toInt).toNat  (1 : Int32) (by omega) (by omega) y0_18 rfl
  refine x_aload_n C 0 dX1_stepsRound_0 rfl rfl ?_
  refine x_iload_n C 1 dX1_stepsRound_1 rfl rfl ?_
  obtain ⟨c10_0, c10_1, c10_2, c10_3, hc10, qc10_0, qc10_1, qc10_2, qc10_3⟩ := ty_br hTy0 hb
  refine x_callVP C cl_X1_hasMatter kmX1_58 (ci := 0) (b := b) (As := [.int a1]) (rest := []) rfl hc10 (tc_X1_hasMatter uu0 hTy0.1 b hb a1) rfl rfl (Nat.le_of_ble_eq_true rfl) ⟨Nat.le_of_ble_eq_true rfl, Nat.le_of_ble_eq_true rfl⟩ ⟨Nat.le_of_ble_eq_true rfl, Nat.le_of_ble_eq_true rfl⟩ dX1_stepsRound_2 ?_
  rintro _ _ ⟨rfl, r9, rfl, gr9⟩
  refine x_norm (st2 := [.int r9]) rfl rfl rfl rfl rfl ?_
  have l_0 : (0 : Int32).toInt = 0 := by decide
  refine x_if_eq C 17 dX1_stepsRound_5 (by decide) (fun q12 => ?_) (fun q12 => ?_)
  · have rq12 : r9.toInt = (0 : Int32).toInt := by rw [i_eq_iff] at q12; omega
    refine x_iconst (v := (0 : Int32)) C dX1_stepsRound_17 (by decide) ?_
    exact J18  (0 : Int32)
  · have rq12 : ¬ r9.toInt = (0 : Int32).toInt := by rw [i_eq_iff] at q12; omega
    refine x_aload_n C 0 dX1_stepsRound_8 rfl rfl ?_
    refine gfX1_28 C dX1_stepsRound_9 hc10 rfl ?_
    refine x_iload_n C 1 dX1_stepsRound_12 rfl rfl ?_
    obtain ⟨f13, hf13⟩ := ty_brA hTy0 hb 2 8 (by omega)
    refine x_iald C hf13 (i_in (by omega) (by omega)) dX1_stepsRound_13 ?_
    refine x_top (fun w14 ew14 => ?_)
    refine x_goto C 18 dX1_stepsRound_14 (by decide) ?_
    exact J18  w14
set_option maxRecDepth 20000 in
set_option maxHeartbeats 2000000 in
theorem tc_X1_nobodys {G : GT} {l : Launch} {z n : Nat} {ln : Int} (uu0 : HpT) (hTz0 : TyC G z ln uu0) (b : Nat) (hb : BrO b) : Mp G l z yX1_nobodys cX1_nobodys 3 (some .int) { frames := 1, cells := 0, slots := 0, locals := 20 } [.ref (z + b)] uu0 n (fun r v => uu0 = v ∧ ∃ x : Int32, r = some (.int x) ∧ True) := by
  refine mp_of (by decide +kernel) (Nat.le_of_ble_eq_true rfl) ?_
  intro p e s m below meth c C hr hlk hnm
  have hbb_b : b = 112 ∨ b = 119 := hb
  have hTy0 : TC G z ln uu0 uu0 := TC.rf hTz0
  have J4 : ∀ (d : Nat) (x2_4 : Int32) (hl_x2_4 : 0 ≤ x2_4.toInt) (hh_x2_4 : x2_4.toInt ≤ 6) (x1_4 : Int32) (hd : d = (7 - x2_4.toInt).toNat), Xw p l e ({ frames := 1, cells := 0, slots := 0, locals := 20 } : Room) s m ([.ref (z + b)] : List Value).toArray below meth c G z 3 (MQ below (Qp G z n (fun r v => uu0 = v ∧ ∃ x : Int32, r = some (.int x) ∧ True)) ([.ref (z + b)] : List Value).toArray s 0 0 (zA z)) 4 [(2, .int x2_4), (1, .int x1_4), (0, .ref (z + b))] [] uu0 n 0 0 := by
    intro d
    induction d using Nat.strongRecOn with
    | _ d ih4 =>
      intro  x2_4 hl_x2_4 hh_x2_4 x1_4 hd4
      refine x_iload_n C 0 dX1_nobodys_4 rfl rfl ?_
      refine x_aload_n C 2 dX1_nobodys_5 rfl rfl ?_
      obtain ⟨c1_0, c1_1, c1_2, c1_3, hc1, qc1_0, qc1_1, qc1_2, qc1_3⟩ := ty_br hTy0 hb
      refine gfX1_21 C dX1_nobodys_6 hc1 rfl ?_
      refine x_icmp_ge C 27 dX1_nobodys_9 (by decide) (fun q2 => ?_) (fun q2 => ?_)
      · have rq2 : x2_4.toInt ≥ c1_3.toInt := by rw [Int32.le_iff_toInt_le] at q2; omega
        refine x_aload_n C 2 dX1_nobodys_27 rfl rfl ?_
        refine gfX1_18 C dX1_nobodys_28 hc1 rfl ?_
        refine x_callSNP C cl_X9_setOfFirst knX1_43 (As := [.int c1_2]) (rest := []) (tc_X9_setOfFirst uu0 hTy0.1 c1_2 (by omega) (by omega)) rfl rfl (Nat.le_of_ble_eq_true rfl) ⟨Nat.le_of_ble_eq_true rfl, Nat.le_of_ble_eq_true rfl⟩ ⟨Nat.le_of_ble_eq_true rfl, Nat.le_of_ble_eq_true rfl⟩ dX1_nobodys_31 ?_
        rintro _ _ ⟨rfl, r3, rfl, gr3⟩
        refine x_norm (st2 := [.int r3]) rfl rfl rfl rfl rfl ?_
        refine x_iload_n C 1 dX1_nobodys_34 rfl rfl ?_
        refine x_iconst (v := (-1 : Int32)) C dX1_nobodys_35 (by decide) ?_
        refine x_ixor C dX1_nobodys_36 ?_
        have l_m1 : (-1 : Int32).toInt = -1 := by decide
        refine x_top (fun w5 ew5 => ?_)
        refine x_iand C dX1_nobodys_37 ?_
        refine x_top (fun w6 ew6 => ?_)
        have fw6_0 : 0 ≤ w6.toInt ∧ w6.toInt ≤ r3.toInt := by rw [ew6]; exact i_and_l (by omega)
        exact x_iretP C hr hlk (Nat.le_refl _) (Nat.le_refl _) dX1_nobodys_38 ⟨rfl, w6, rfl, trivial⟩
      · have rq2 : x2_4.toInt < c1_3.toInt := by rw [Int32.le_iff_toInt_le] at q2; omega
        refine x_iload_n C 1 dX1_nobodys_12 rfl rfl ?_
        refine x_aload_n C 2 dX1_nobodys_13 rfl rfl ?_
        refine gfX1_37 C dX1_nobodys_14 hc1 rfl ?_
        refine x_iload_n C 0 dX1_nobodys_17 rfl rfl ?_
        obtain ⟨f7, hf7⟩ := ty_brA hTy0 hb 5 6 (by omega)
        refine x_iald C hf7 (i_in (by omega) (by omega)) dX1_nobodys_18 ?_
        refine x_top (fun w8 ew8 => ?_)
        refine x_ior C dX1_nobodys_19 ?_
        refine x_top (fun w9 ew9 => ?_)
        refine x_istore_n C [(1, .int w9), (2, .int x2_4), (0, .ref (z + b))] dX1_nobodys_20 rfl (by decide) rfl ?_
        have l_1 : (1 : Int32).toInt = 1 := by decide
        obtain ⟨w10, ew10⟩ : ∃ w : Int32, w = x2_4 + Int32.ofInt 1 := ⟨_, rfl⟩
        have fw10 : w10.toInt = x2_4.toInt + (1) := by rw [ew10]; exact i_addk (by decide) (by omega) (by omega)
        refine x_iinc (v := w10) C 1 [(2, .int w10), (1, .int w9), (0, .ref (z + b))] dX1_nobodys_21 rfl ew10.symm (by decide) rfl ?_
        refine x_goto C 4 dX1_nobodys_24 (by decide) ?_
        exact ih4 (7 - w10.toInt).toNat (by omega)  w10 (by omega) (by omega) w9 rfl
  refine x_iconst (v := (0 : Int32)) C dX1_nobodys_0 (by decide) ?_
  refine x_istore_n C [(1, .int (0 : Int32)), (0, .ref (z + b))] dX1_nobodys_1 rfl (by decide) rfl ?_
  refine x_iconst (v := (0 : Int32)) C dX1_nobodys_2 (by decide) ?_
  refine x_istore_n C [(2, .int (0 : Int32)), (1, .int (0 : Int32)), (0, .ref (z + b))] dX1_nobodys_3 rfl (by decide) rfl ?_
  have l_0 : (0 : Int32).toInt = 0 := by decide
  exact J4 (7 - (0 : Int32).toInt).toNat  (0 : Int32) (by omega) (by omega) (0 : Int32) rfl
set_option maxRecDepth 20000 in
set_option maxHeartbeats 2000000 in
theorem tc_X1_favouriteOf {G : GT} {l : Launch} {z n : Nat} {ln : Int} (uu0 : HpT) (hTz0 : TyC G z ln uu0) (b : Nat) (hb : BrO b) (a1 : Int32) : Mp G l z yX1_favouriteOf cX1_favouriteOf 6 (some .int) { frames := 2, cells := 0, slots := 0, locals := 43 } [.ref (z + b), .int a1] uu0 n (fun r v => uu0 = v ∧ ∃ x : Int32, r = some (.int x) ∧ True) := by
  refine mp_of (by decide +kernel) (Nat.le_of_ble_eq_true rfl) ?_
  intro p e s m below meth c C hr hlk hnm
  have hbb_b : b = 112 ∨ b = 119 := hb
  have hTy0 : TC G z ln uu0 uu0 := TC.rf hTz0
  have J7 : ∀ (d : Nat) (x4_7 : Int32) (hl_x4_7 : 0 ≤ x4_7.toInt) (hh_x4_7 : x4_7.toInt ≤ 8) (x3_7 : Int32) (hl_x3_7 : 0 ≤ x3_7.toInt) (x2_7 : Int32) (hl_x2_7 : -1 ≤ x2_7.toInt) (hh_x2_7 : x2_7.toInt ≤ 7) (hd : d = (9 - x4_7.toInt).toNat), Xw p l e ({ frames := 2, cells := 0, slots := 0, locals := 43 } : Room) s m ([.ref (z + b), .int a1] : List Value).toArray below meth c G z 6 (MQ below (Qp G z n (fun r v => uu0 = v ∧ ∃ x : Int32, r = some (.int x) ∧ True)) ([.ref (z + b), .int a1] : List Value).toArray s 0 0 (zA z)) 7 [(4, .int x4_7), (3, .int x3_7), (2, .int x2_7), (0, .ref (z + b)), (1, .int a1)] [] uu0 n 0 0 := by
    intro d
    induction d using Nat.strongRecOn with
    | _ d ih7 =>
      intro  x4_7 hl_x4_7 hh_x4_7 x3_7 hl_x3_7 x2_7 hl_x2_7 hh_x2_7 hd7
      have J37 : ∀ (x5_37 : Int32) (x3_37 : Int32) (hl_x3_37 : 0 ≤ x3_37.toInt) (x2_37 : Int32) (hl_x2_37 : -1 ≤ x2_37.toInt) (hh_x2_37 : x2_37.toInt ≤ 7) (nl_x4_7_37 : 0 ≤ x4_7.toInt) (nh_x4_7_37 : x4_7.toInt ≤ 7), Xw p l e ({ frames := 2, cells := 0, slots := 0, locals := 43 } : Room) s m ([.ref (z + b), .int a1] : List Value).toArray below meth c G z 6 (MQ below (Qp G z n (fun r v => uu0 = v ∧ ∃ x : Int32, r = some (.int x) ∧ True)) ([.ref (z + b), .int a1] : List Value).toArray s 0 0 (zA z)) 37 [(5, .int x5_37), (4, .int x4_7), (3, .int x3_37), (2, .int x2_37), (0, .ref (z + b)), (1, .int a1)] [] uu0 n 0 0 := by
        intro  x5_37 x3_37 hl_x3_37 x2_37 hl_x2_37 hh_x2_37 nl_x4_7_37 nh_x4_7_37
        have l_1 : (1 : Int32).toInt = 1 := by decide
        obtain ⟨w1, ew1⟩ : ∃ w : Int32, w = x4_7 + Int32.ofInt 1 := ⟨_, rfl⟩
        have fw1 : w1.toInt = x4_7.toInt + (1) := by rw [ew1]; exact i_addk (by decide) (by omega) (by omega)
        refine x_iinc (v := w1) C 1 [(4, .int w1), (5, .int x5_37), (3, .int x3_37), (2, .int x2_37), (0, .ref (z + b)), (1, .int a1)] dX1_favouriteOf_37 rfl ew1.symm (by decide) rfl ?_
        refine x_goto C 7 dX1_favouriteOf_40 (by decide) ?_
        refine x_mv (lo2 := [(4, .int w1), (3, .int x3_37), (2, .int x2_37), (0, .ref (z + b)), (1, .int a1)]) [0, 2, 3, 4, 5] rfl ?_
        exact ih7 (9 - w1.toInt).toNat (by omega)  w1 (by omega) (by omega) x3_37 (by omega) x2_37 (by omega) (by omega) rfl
      refine x_iload C 0 dX1_favouriteOf_7 rfl ?_
      refine x_aload_n C 3 dX1_favouriteOf_9 rfl rfl ?_
      obtain ⟨c2_0, c2_1, c2_2, c2_3, hc2, qc2_0, qc2_1, qc2_2, qc2_3⟩ := ty_br hTy0 hb
      refine gfX1_18 C dX1_favouriteOf_10 hc2 rfl ?_
      refine x_icmp_ge C 43 dX1_favouriteOf_13 (by decide) (fun q3 => ?_) (fun q3 => ?_)
      · have rq3 : x4_7.toInt ≥ c2_2.toInt := by rw [Int32.le_iff_toInt_le] at q3; omega
        refine x_iload_n C 2 dX1_favouriteOf_43 rfl rfl ?_
        exact x_iretP C hr hlk (Nat.le_refl _) (Nat.le_refl _) dX1_favouriteOf_44 ⟨rfl, x2_7, rfl, trivial⟩
      · have rq3 : x4_7.toInt < c2_2.toInt := by rw [Int32.le_iff_toInt_le] at q3; omega
        refine x_aload_n C 3 dX1_favouriteOf_16 rfl rfl ?_
        refine x_iload_n C 4 dX1_favouriteOf_17 rfl rfl ?_
        refine x_iload C 0 dX1_favouriteOf_18 rfl ?_
        refine x_callVP C cl_X1_stayOf kmX1_75 (ci := 0) (b := b) (As := [.int a1, .int x4_7]) (rest := []) rfl hc2 (tc_X1_stayOf uu0 hTy0.1 b hb a1 x4_7) rfl rfl (Nat.le_of_ble_eq_true rfl) ⟨Nat.le_of_ble_eq_true rfl, Nat.le_of_ble_eq_true rfl⟩ ⟨Nat.le_of_ble_eq_true rfl, Nat.le_of_ble_eq_true rfl⟩ dX1_favouriteOf_20 ?_
        rintro _ _ ⟨rfl, r4, rfl, gr4⟩
        refine x_norm (st2 := [.int r4]) rfl rfl rfl rfl rfl ?_
        refine x_istore C [(5, .int r4), (4, .int x4_7), (3, .int x3_7), (2, .int x2_7), (0, .ref (z + b)), (1, .int a1)] dX1_favouriteOf_23 (by decide) rfl ?_
        refine x_iload C 0 dX1_favouriteOf_25 rfl ?_
        refine x_iload_n C 2 dX1_favouriteOf_27 rfl rfl ?_
        refine x_icmp_le C 37 dX1_favouriteOf_28 (by decide) (fun q6 => ?_) (fun q6 => ?_)
        · have rq6 : r4.toInt ≤ x3_7.toInt := by rw [Int32.le_iff_toInt_le] at q6; omega
          exact J37  r4 x3_7 (by omega) x2_7 (by omega) (by omega) (by omega) (by omega)
        · have rq6 : r4.toInt > x3_7.toInt := by rw [Int32.le_iff_toInt_le] at q6; omega
          refine x_iload C 0 dX1_favouriteOf_31 rfl ?_
          refine x_istore_n C [(3, .int r4), (5, .int r4), (4, .int x4_7), (2, .int x2_7), (0, .ref (z + b)), (1, .int a1)] dX1_favouriteOf_33 rfl (by decide) rfl ?_
          refine x_iload C 2 dX1_favouriteOf_34 rfl ?_
          refine x_istore_n C [(2, .int x4_7), (3, .int r4), (5, .int r4), (4, .int x4_7), (0, .ref (z + b)), (1, .int a1)] dX1_favouriteOf_36 rfl (by decide) rfl ?_
          refine x_mv (lo2 := [(5, .int r4), (4, .int x4_7), (3, .int r4), (2, .int x4_7), (0, .ref (z + b)), (1, .int a1)]) [2, 3, 1, 0, 4, 5] rfl ?_
          exact J37  r4 r4 (by omega) x4_7 (by omega) (by omega) (by omega) (by omega)
  refine x_iconst (v := (-1 : Int32)) C dX1_favouriteOf_0 (by decide) ?_
  refine x_istore_n C [(2, .int (-1 : Int32)), (0, .ref (z + b)), (1, .int a1)] dX1_favouriteOf_1 rfl (by decide) rfl ?_
  refine x_iconst (v := (0 : Int32)) C dX1_favouriteOf_2 (by decide) ?_
  refine x_istore_n C [(3, .int (0 : Int32)), (2, .int (-1 : Int32)), (0, .ref (z + b)), (1, .int a1)] dX1_favouriteOf_3 rfl (by decide) rfl ?_
  refine x_iconst (v := (0 : Int32)) C dX1_favouriteOf_4 (by decide) ?_
  refine x_istore C [(4, .int (0 : Int32)), (3, .int (0 : Int32)), (2, .int (-1 : Int32)), (0, .ref (z + b)), (1, .int a1)] dX1_favouriteOf_5 (by decide) rfl ?_
  have l_0 : (0 : Int32).toInt = 0 := by decide
  have l_m1 : (-1 : Int32).toInt = -1 := by decide
  exact J7 (9 - (0 : Int32).toInt).toNat  (0 : Int32) (by omega) (by omega) (0 : Int32) (by omega) (-1 : Int32) (by omega) (by omega) rfl
set_option maxRecDepth 20000 in
set_option maxHeartbeats 2000000 in
theorem tc_X1_clear {G : GT} {l : Launch} {z n : Nat} {ln : Int} (uu0 : HpT) (hTz0 : TyC G z ln uu0) (b : Nat) (hb : BrO b) : Mp G l z yX1_clear cX1_clear 1 none { frames := 0, cells := 0, slots := 0, locals := 0 } [.ref (z + b)] uu0 n (fun r v => TC G z ln uu0 v ∧ r = none) := by
  refine mp_of (by decide +kernel) (Nat.le_of_ble_eq_true rfl) ?_
  intro p e s m below meth c C hr hlk hnm
  have hbb_b : b = 112 ∨ b = 119 := hb
  have hTy0 : TC G z ln uu0 uu0 := TC.rf hTz0
  refine x_aload_n C 0 dX1_clear_0 rfl rfl ?_
  refine x_iconst (v := (0 : Int32)) C dX1_clear_1 (by decide) ?_
  obtain ⟨c1_0, c1_1, c1_2, c1_3, hc1, qc1_0, qc1_1, qc1_2, qc1_3⟩ := ty_br hTy0 hb
  have l_0 : (0 : Int32).toInt = 0 := by decide
  obtain ⟨u2, eu2⟩ : ∃ w : HpT, w = hup uu0 b (.inr (0, [.int (0 : Int32), .int c1_1, .int c1_2, .int c1_3, .ref (z + (b + 1)), .ref (z + (b + 2)), .ref (z + (b + 3)), .ref (z + (b + 4)), .ref (z + (b + 5)), .ref (z + (b + 6))])) := ⟨_, rfl⟩
  refine pfX1_9 C dX1_clear_2 hc1 (Nat.le_of_ble_eq_true rfl) rfl eu2.symm ?_
  have hTu2 : TC G z ln uu0 u2 := by rw [eu2]; exact hTy0.upBr hb (by omega)
  have hn3 := (congrFun eu2 b).trans (hup_s _ _ _)
  refine x_aload_n C 0 dX1_clear_5 rfl rfl ?_
  refine x_iconst (v := (0 : Int32)) C dX1_clear_6 (by decide) ?_
  obtain ⟨u4, eu4⟩ : ∃ w : HpT, w = hup u2 b (.inr (0, [.int (0 : Int32), .int (0 : Int32), .int c1_2, .int c1_3, .ref (z + (b + 1)), .ref (z + (b + 2)), .ref (z + (b + 3)), .ref (z + (b + 4)), .ref (z + (b + 5)), .ref (z + (b + 6))])) := ⟨_, rfl⟩
  refine pfX1_15 C dX1_clear_7 hn3 (Nat.le_of_ble_eq_true rfl) rfl eu4.symm ?_
  have hTu4 : TC G z ln uu0 u4 := by rw [eu4]; exact hTu2.upBr hb (by omega)
  have hn5 := (congrFun eu4 b).trans (hup_s _ _ _)
  refine x_aload_n C 0 dX1_clear_10 rfl rfl ?_
  refine x_iconst (v := (0 : Int32)) C dX1_clear_11 (by decide) ?_
  obtain ⟨u6, eu6⟩ : ∃ w : HpT, w = hup u4 b (.inr (0, [.int (0 : Int32), .int (0 : Int32), .int (0 : Int32), .int c1_3, .ref (z + (b + 1)), .ref (z + (b + 2)), .ref (z + (b + 3)), .ref (z + (b + 4)), .ref (z + (b + 5)), .ref (z + (b + 6))])) := ⟨_, rfl⟩
  refine pfX1_18 C dX1_clear_12 hn5 (Nat.le_of_ble_eq_true rfl) rfl eu6.symm ?_
  have hTu6 : TC G z ln uu0 u6 := by rw [eu6]; exact hTu4.upBr hb (by omega)
  have hn7 := (congrFun eu6 b).trans (hup_s _ _ _)
  refine x_aload_n C 0 dX1_clear_15 rfl rfl ?_
  refine x_iconst (v := (0 : Int32)) C dX1_clear_16 (by decide) ?_
  obtain ⟨u8, eu8⟩ : ∃ w : HpT, w = hup u6 b (.inr (0, [.int (0 : Int32), .int (0 : Int32), .int (0 : Int32), .int (0 : Int32), .ref (z + (b + 1)), .ref (z + (b + 2)), .ref (z + (b + 3)), .ref (z + (b + 4)), .ref (z + (b + 5)), .ref (z + (b + 6))])) := ⟨_, rfl⟩
  refine pfX1_21 C dX1_clear_17 hn7 (Nat.le_of_ble_eq_true rfl) rfl eu8.symm ?_
  have hTu8 : TC G z ln uu0 u8 := by rw [eu8]; exact hTu6.upBr hb (by omega)
  have hn9 := (congrFun eu8 b).trans (hup_s _ _ _)
  exact x_vretP C hr hlk (Nat.le_refl _) (Nat.le_refl _) dX1_clear_20 ⟨hTu8, rfl⟩
set_option maxRecDepth 20000 in
set_option maxHeartbeats 2000000 in
theorem tc_X1_addMatter {G : GT} {l : Launch} {z n : Nat} {ln : Int} (uu0 : HpT) (hTz0 : TyC G z ln uu0) (b : Nat) (hb : BrO b) (a1 : Int32) (a2 : Int32) : Mp G l z yX1_addMatter cX1_addMatter 3 none { frames := 0, cells := 0, slots := 0, locals := 0 } [.ref (z + b), .int a1, .int a2] uu0 n (fun r v => TC G z ln uu0 v ∧ r = none) := by
  refine mp_of (by decide +kernel) (Nat.le_of_ble_eq_true rfl) ?_
  intro p e s m below meth c C hr hlk hnm
  have hbb_b : b = 112 ∨ b = 119 := hb
  have hTy0 : TC G z ln uu0 uu0 := TC.rf hTz0
  refine x_aload_n C 0 dX1_addMatter_0 rfl rfl ?_
  obtain ⟨c1_0, c1_1, c1_2, c1_3, hc1, qc1_0, qc1_1, qc1_2, qc1_3⟩ := ty_br hTy0 hb
  refine gfX1_18 C dX1_addMatter_1 hc1 rfl ?_
  refine x_bipush (v := (8 : Int32)) C dX1_addMatter_4 (by decide) ?_
  have l_8 : (8 : Int32).toInt = 8 := by decide
  refine x_icmp_ge C 39 dX1_addMatter_6 (by decide) (fun q2 => ?_) (fun q2 => ?_)
  · have rq2 : c1_2.toInt ≥ (8 : Int32).toInt := by rw [Int32.le_iff_toInt_le] at q2; omega
    exact x_vretP C hr hlk (Nat.le_refl _) (Nat.le_refl _) dX1_addMatter_39 ⟨hTy0, rfl⟩
  · have rq2 : c1_2.toInt < (8 : Int32).toInt := by rw [Int32.le_iff_toInt_le] at q2; omega
    refine x_aload_n C 0 dX1_addMatter_9 rfl rfl ?_
    refine gfX1_24 C dX1_addMatter_10 hc1 rfl ?_
    refine x_aload_n C 0 dX1_addMatter_13 rfl rfl ?_
    refine gfX1_18 C dX1_addMatter_14 hc1 rfl ?_
    refine x_iload_n C 1 dX1_addMatter_17 rfl rfl ?_
    obtain ⟨f3, hf3⟩ := ty_brA hTy0 hb 1 8 (by omega)
    refine x_iast C hf3 (i_in (by omega) (by omega)) dX1_addMatter_18 ?_
    obtain ⟨u4, eu4⟩ : ∃ w : HpT, w = hup uu0 (b + 1) (aI G 8 (upd f3 c1_2.toNatClampNeg a1)) := ⟨_, rfl⟩
    refine x_heap (u2 := u4) eu4.symm ?_
    have hTu4 : TC G z ln uu0 u4 := by rw [eu4]; exact hTy0.upBrA hb 1 8 (by omega)
    have hn6 := (congrFun eu4 (b + 1)).trans (hup_s _ _ _)
    generalize (upd f3 c1_2.toNatClampNeg a1) = f7 at *
    refine x_aload_n C 0 dX1_addMatter_19 rfl rfl ?_
    have k8 := (congrFun eu4 b).trans (hup_n' (by omega) hc1)
    refine gfX1_28 C dX1_addMatter_20 k8 rfl ?_
    refine x_aload_n C 0 dX1_addMatter_23 rfl rfl ?_
    refine gfX1_18 C dX1_addMatter_24 k8 rfl ?_
    refine x_iload_n C 2 dX1_addMatter_27 rfl rfl ?_
    obtain ⟨f9, hf9⟩ := ty_brA hTu4 hb 2 8 (by omega)
    refine x_iast C hf9 (i_in (by omega) (by omega)) dX1_addMatter_28 ?_
    obtain ⟨u10, eu10⟩ : ∃ w : HpT, w = hup u4 (b + 2) (aI G 8 (upd f9 c1_2.toNatClampNeg a2)) := ⟨_, rfl⟩
    refine x_heap (u2 := u10) eu10.symm ?_
    have hTu10 : TC G z ln uu0 u10 := by rw [eu10]; exact hTu4.upBrA hb 2 8 (by omega)
    have hn13 := (congrFun eu10 (b + 2)).trans (hup_s _ _ _)
    generalize (upd f9 c1_2.toNatClampNeg a2) = f14 at *
    refine x_aload_n C 0 dX1_addMatter_29 rfl rfl ?_
    refine x_dup C dX1_addMatter_30 rfl ?_
    have k15 := (congrFun eu10 b).trans (hup_n' (by omega) k8)
    refine gfX1_18 C dX1_addMatter_31 k15 rfl ?_
    refine x_iconst (v := (1 : Int32)) C dX1_addMatter_34 (by decide) ?_
    refine x_iadd C dX1_addMatter_35 ?_
    have l_1 : (1 : Int32).toInt = 1 := by decide
    refine x_top (fun w16 ew16 => ?_)
    have fw16_0 : w16.toInt = c1_2.toInt + (1 : Int32).toInt := by rw [ew16]; exact i_add (by omega) (by omega)
    obtain ⟨u17, eu17⟩ : ∃ w : HpT, w = hup u10 b (.inr (0, [.int c1_0, .int c1_1, .int w16, .int c1_3, .ref (z + (b + 1)), .ref (z + (b + 2)), .ref (z + (b + 3)), .ref (z + (b + 4)), .ref (z + (b + 5)), .ref (z + (b + 6))])) := ⟨_, rfl⟩
    refine pfX1_18 C dX1_addMatter_36 k15 (Nat.le_of_ble_eq_true rfl) rfl eu17.symm ?_
    have hTu17 : TC G z ln uu0 u17 := by rw [eu17]; exact hTu10.upBr hb (by omega)
    have hn20 := (congrFun eu17 b).trans (hup_s _ _ _)
    exact x_vretP C hr hlk (Nat.le_refl _) (Nat.le_refl _) dX1_addMatter_39 ⟨hTu17, rfl⟩
set_option maxRecDepth 20000 in
set_option maxHeartbeats 2000000 in
theorem tc_X1_addTraveller {G : GT} {l : Launch} {z n : Nat} {ln : Int} (uu0 : HpT) (hTz0 : TyC G z ln uu0) (b : Nat) (hb : BrO b) (a1 : Int32) (a2 : Int32) (a3 : Int32) : Mp G l z yX1_addTraveller cX1_addTraveller 4 none { frames := 0, cells := 0, slots := 0, locals := 0 } [.ref (z + b), .int a1, .int a2, .int a3] uu0 n (fun r v => TC G z ln uu0 v ∧ r = none) := by
  refine mp_of (by decide +kernel) (Nat.le_of_ble_eq_true rfl) ?_
  intro p e s m below meth c C hr hlk hnm
  have hbb_b : b = 112 ∨ b = 119 := hb
  have hTy0 : TC G z ln uu0 uu0 := TC.rf hTz0
  refine x_aload_n C 0 dX1_addTraveller_0 rfl rfl ?_
  obtain ⟨c1_0, c1_1, c1_2, c1_3, hc1, qc1_0, qc1_1, qc1_2, qc1_3⟩ := ty_br hTy0 hb
  refine gfX1_21 C dX1_addTraveller_1 hc1 rfl ?_
  refine x_bipush (v := (6 : Int32)) C dX1_addTraveller_4 (by decide) ?_
  have l_6 : (6 : Int32).toInt = 6 := by decide
  refine x_icmp_ge C 49 dX1_addTraveller_6 (by decide) (fun q2 => ?_) (fun q2 => ?_)
  · have rq2 : c1_3.toInt ≥ (6 : Int32).toInt := by rw [Int32.le_iff_toInt_le] at q2; omega
    exact x_vretP C hr hlk (Nat.le_refl _) (Nat.le_refl _) dX1_addTraveller_49 ⟨hTy0, rfl⟩
  · have rq2 : c1_3.toInt < (6 : Int32).toInt := by rw [Int32.le_iff_toInt_le] at q2; omega
    refine x_aload_n C 0 dX1_addTraveller_9 rfl rfl ?_
    refine gfX1_31 C dX1_addTraveller_10 hc1 rfl ?_
    refine x_aload_n C 0 dX1_addTraveller_13 rfl rfl ?_
    refine gfX1_21 C dX1_addTraveller_14 hc1 rfl ?_
    refine x_iload_n C 1 dX1_addTraveller_17 rfl rfl ?_
    obtain ⟨f3, hf3⟩ := ty_brA hTy0 hb 3 6 (by omega)
    refine x_iast C hf3 (i_in (by omega) (by omega)) dX1_addTraveller_18 ?_
    obtain ⟨u4, eu4⟩ : ∃ w : HpT, w = hup uu0 (b + 3) (aI G 6 (upd f3 c1_3.toNatClampNeg a1)) := ⟨_, rfl⟩
    refine x_heap (u2 := u4) eu4.symm ?_
    have hTu4 : TC G z ln uu0 u4 := by rw [eu4]; exact hTy0.upBrA hb 3 6 (by omega)
    have hn6 := (congrFun eu4 (b + 3)).trans (hup_s _ _ _)
    generalize (upd f3 c1_3.toNatClampNeg a1) = f7 at *
    refine x_aload_n C 0 dX1_addTraveller_19 rfl rfl ?_
    have k8 := (congrFun eu4 b).trans (hup_n' (by omega) hc1)
    refine gfX1_34 C dX1_addTraveller_20 k8 rfl ?_
    refine x_aload_n C 0 dX1_addTraveller_23 rfl rfl ?_
    refine gfX1_21 C dX1_addTraveller_24 k8 rfl ?_
    refine x_iload_n C 2 dX1_addTraveller_27 rfl rfl ?_
    obtain ⟨f9, hf9⟩ := ty_brA hTu4 hb 4 6 (by omega)
    refine x_iast C hf9 (i_in (by omega) (by omega)) dX1_addTraveller_28 ?_
    obtain ⟨u10, eu10⟩ : ∃ w : HpT, w = hup u4 (b + 4) (aI G 6 (upd f9 c1_3.toNatClampNeg a2)) := ⟨_, rfl⟩
    refine x_heap (u2 := u10) eu10.symm ?_
    have hTu10 : TC G z ln uu0 u10 := by rw [eu10]; exact hTu4.upBrA hb 4 6 (by omega)
    have hn13 := (congrFun eu10 (b + 4)).trans (hup_s _ _ _)
    generalize (upd f9 c1_3.toNatClampNeg a2) = f14 at *
    refine x_aload_n C 0 dX1_addTraveller_29 rfl rfl ?_
    have k15 := (congrFun eu10 b).trans (hup_n' (by omega) k8)
    refine gfX1_37 C dX1_addTraveller_30 k15 rfl ?_
    refine x_aload_n C 0 dX1_addTraveller_33 rfl rfl ?_
    refine gfX1_21 C dX1_addTraveller_34 k15 rfl ?_
    refine x_iload_n C 3 dX1_addTraveller_37 rfl rfl ?_
    obtain ⟨f16, hf16⟩ := ty_brA hTu10 hb 5 6 (by omega)
    refine x_iast C hf16 (i_in (by omega) (by omega)) dX1_addTraveller_38 ?_
    obtain ⟨u17, eu17⟩ : ∃ w : HpT, w = hup u10 (b + 5) (aI G 6 (upd f16 c1_3.toNatClampNeg a3)) := ⟨_, rfl⟩
    refine x_heap (u2 := u17) eu17.symm ?_
    have hTu17 : TC G z ln uu0 u17 := by rw [eu17]; exact hTu10.upBrA hb 5 6 (by omega)
    have hn21 := (congrFun eu17 (b + 5)).trans (hup_s _ _ _)
    generalize (upd f16 c1_3.toNatClampNeg a3) = f22 at *
    refine x_aload_n C 0 dX1_addTraveller_39 rfl rfl ?_
    refine x_dup C dX1_addTraveller_40 rfl ?_
    have k23 := (congrFun eu17 b).trans (hup_n' (by omega) k15)
    refine gfX1_21 C dX1_addTraveller_41 k23 rfl ?_
    refine x_iconst (v := (1 : Int32)) C dX1_addTraveller_44 (by decide) ?_
    refine x_iadd C dX1_addTraveller_45 ?_
    have l_1 : (1 : Int32).toInt = 1 := by decide
    refine x_top (fun w24 ew24 => ?_)
    have fw24_0 : w24.toInt = c1_3.toInt + (1 : Int32).toInt := by rw [ew24]; exact i_add (by omega) (by omega)
    obtain ⟨u25, eu25⟩ : ∃ w : HpT, w = hup u17 b (.inr (0, [.int c1_0, .int c1_1, .int c1_2, .int w24, .ref (z + (b + 1)), .ref (z + (b + 2)), .ref (z + (b + 3)), .ref (z + (b + 4)), .ref (z + (b + 5)), .ref (z + (b + 6))])) := ⟨_, rfl⟩
    refine pfX1_21 C dX1_addTraveller_46 k23 (Nat.le_of_ble_eq_true rfl) rfl eu25.symm ?_
    have hTu25 : TC G z ln uu0 u25 := by rw [eu25]; exact hTu17.upBr hb (by omega)
    have hn29 := (congrFun eu25 b).trans (hup_s _ _ _)
    exact x_vretP C hr hlk (Nat.le_refl _) (Nat.le_refl _) dX1_addTraveller_49 ⟨hTu25, rfl⟩
set_option maxRecDepth 20000 in
set_option maxHeartbeats 2000000 in
theorem tc_X1_beginnersOf {G : GT} {l : Launch} {z n : Nat} {ln : Int} (uu0 : HpT) (hTz0 : TyC G z ln uu0) (b : Nat) (hb : BrO b) (a1 : Int32) (pre0 : 1 ≤ a1.toInt) (pre1 : a1.toInt ≤ 255) : Mp G l z yX1_beginnersOf cX1_beginnersOf 5 (some .int) { frames := 1, cells := 0, slots := 0, locals := 21 } [.ref (z + b), .int a1] uu0 n (fun r v => uu0 = v ∧ ∃ x : Int32, r = some (.int x) ∧ True) := by
  refine mp_of (by decide +kernel) (Nat.le_of_ble_eq_true rfl) ?_
  intro p e s m below meth c C hr hlk hnm
  have hbb_b : b = 112 ∨ b = 119 := hb
  have hTy0 : TC G z ln uu0 uu0 := TC.rf hTz0
  have J4 : ∀ (d : Nat) (x3_4 : Int32) (hl_x3_4 : 0 ≤ x3_4.toInt) (hh_x3_4 : x3_4.toInt ≤ 8) (x2_4 : Int32) (hd : d = (9 - x3_4.toInt).toNat), Xw p l e ({ frames := 1, cells := 0, slots := 0, locals := 21 } : Room) s m ([.ref (z + b), .int a1] : List Value).toArray below meth c G z 5 (MQ below (Qp G z n (fun r v => uu0 = v ∧ ∃ x : Int32, r = some (.int x) ∧ True)) ([.ref (z + b), .int a1] : List Value).toArray s 0 0 (zA z)) 4 [(3, .int x3_4), (2, .int x2_4), (0, .ref (z + b)), (1, .int a1)] [] uu0 n 0 0 := by
    intro d
    induction d using Nat.strongRecOn with
    | _ d ih4 =>
      intro  x3_4 hl_x3_4 hh_x3_4 x2_4 hd4
      have J57 : ∀ (x4_57 : Int32) (hl_x4_57 : 0 ≤ x4_57.toInt) (hh_x4_57 : x4_57.toInt ≤ 255) (x2_57 : Int32) (nl_x3_4_57 : 0 ≤ x3_4.toInt) (nh_x3_4_57 : x3_4.toInt ≤ 7), Xw p l e ({ frames := 1, cells := 0, slots := 0, locals := 21 } : Room) s m ([.ref (z + b), .int a1] : List Value).toArray below meth c G z 5 (MQ below (Qp G z n (fun r v => uu0 = v ∧ ∃ x : Int32, r = some (.int x) ∧ True)) ([.ref (z + b), .int a1] : List Value).toArray s 0 0 (zA z)) 57 [(4, .int x4_57), (3, .int x3_4), (2, .int x2_57), (0, .ref (z + b)), (1, .int a1)] [] uu0 n 0 0 := by
        intro  x4_57 hl_x4_57 hh_x4_57 x2_57 nl_x3_4_57 nh_x3_4_57
        have l_1 : (1 : Int32).toInt = 1 := by decide
        obtain ⟨w1, ew1⟩ : ∃ w : Int32, w = x3_4 + Int32.ofInt 1 := ⟨_, rfl⟩
        have fw1 : w1.toInt = x3_4.toInt + (1) := by rw [ew1]; exact i_addk (by decide) (by omega) (by omega)
        refine x_iinc (v := w1) C 1 [(3, .int w1), (4, .int x4_57), (2, .int x2_57), (0, .ref (z + b)), (1, .int a1)] dX1_beginnersOf_57 rfl ew1.symm (by decide) rfl ?_
        refine x_goto C 4 dX1_beginnersOf_60 (by decide) ?_
        refine x_mv (lo2 := [(3, .int w1), (2, .int x2_57), (0, .ref (z + b)), (1, .int a1)]) [0, 2, 3, 4] rfl ?_
        exact ih4 (9 - w1.toInt).toNat (by omega)  w1 (by omega) (by omega) x2_57 rfl
      have J51 : ∀ (x4_51 : Int32) (hl_x4_51 : 0 ≤ x4_51.toInt) (hh_x4_51 : x4_51.toInt ≤ 255) (nl_x3_4_51 : 0 ≤ x3_4.toInt) (nh_x3_4_51 : x3_4.toInt ≤ 7), Xw p l e ({ frames := 1, cells := 0, slots := 0, locals := 21 } : Room) s m ([.ref (z + b), .int a1] : List Value).toArray below meth c G z 5 (MQ below (Qp G z n (fun r v => uu0 = v ∧ ∃ x : Int32, r = some (.int x) ∧ True)) ([.ref (z + b), .int a1] : List Value).toArray s 0 0 (zA z)) 51 [(4, .int x4_51), (3, .int x3_4), (2, .int x2_4), (0, .ref (z + b)), (1, .int a1)] [] uu0 n 0 0 := by
        intro  x4_51 hl_x4_51 hh_x4_51 nl_x3_4_51 nh_x3_4_51
        refine x_iload_n C 2 dX1_beginnersOf_51 rfl rfl ?_
        refine x_iconst (v := (1 : Int32)) C dX1_beginnersOf_52 (by decide) ?_
        refine x_iload_n C 1 dX1_beginnersOf_53 rfl rfl ?_
        refine x_ishl C dX1_beginnersOf_54 ?_
        have l_1 : (1 : Int32).toInt = 1 := by decide
        refine x_top (fun w2 ew2 => ?_)
        refine x_ior C dX1_beginnersOf_55 ?_
        refine x_top (fun w3 ew3 => ?_)
        refine x_istore_n C [(2, .int w3), (4, .int x4_51), (3, .int x3_4), (0, .ref (z + b)), (1, .int a1)] dX1_beginnersOf_56 rfl (by decide) rfl ?_
        refine x_mv (lo2 := [(4, .int x4_51), (3, .int x3_4), (2, .int w3), (0, .ref (z + b)), (1, .int a1)]) [1, 2, 0, 3, 4] rfl ?_
        exact J57  x4_51 (by omega) (by omega) w3 (by omega) (by omega)
      refine x_iload_n C 0 dX1_beginnersOf_4 rfl rfl ?_
      refine x_aload_n C 2 dX1_beginnersOf_5 rfl rfl ?_
      obtain ⟨c4_0, c4_1, c4_2, c4_3, hc4, qc4_0, qc4_1, qc4_2, qc4_3⟩ := ty_br hTy0 hb
      refine gfX1_18 C dX1_beginnersOf_6 hc4 rfl ?_
      refine x_icmp_ge C 63 dX1_beginnersOf_9 (by decide) (fun q5 => ?_) (fun q5 => ?_)
      · have rq5 : x3_4.toInt ≥ c4_2.toInt := by rw [Int32.le_iff_toInt_le] at q5; omega
        refine x_iload_n C 1 dX1_beginnersOf_63 rfl rfl ?_
        exact x_iretP C hr hlk (Nat.le_refl _) (Nat.le_refl _) dX1_beginnersOf_64 ⟨rfl, x2_4, rfl, trivial⟩
      · have rq5 : x3_4.toInt < c4_2.toInt := by rw [Int32.le_iff_toInt_le] at q5; omega
        refine x_iload_n C 3 dX1_beginnersOf_12 rfl rfl ?_
        refine x_iconst (v := (1 : Int32)) C dX1_beginnersOf_13 (by decide) ?_
        refine x_iload_n C 0 dX1_beginnersOf_14 rfl rfl ?_
        refine x_ishl C dX1_beginnersOf_15 ?_
        have l_1 : (1 : Int32).toInt = 1 := by decide
        refine x_top (fun w6 ew6 => ?_)
        refine x_iconst (v := (-1 : Int32)) C dX1_beginnersOf_16 (by decide) ?_
        refine x_ixor C dX1_beginnersOf_17 ?_
        have l_m1 : (-1 : Int32).toInt = -1 := by decide
        refine x_top (fun w7 ew7 => ?_)
        refine x_iand C dX1_beginnersOf_18 ?_
        refine x_top (fun w8 ew8 => ?_)
        have fw8_0 : 0 ≤ w8.toInt ∧ w8.toInt ≤ a1.toInt := by rw [ew8]; exact i_and_l (by omega)
        refine x_istore C [(4, .int w8), (3, .int x3_4), (2, .int x2_4), (0, .ref (z + b)), (1, .int a1)] dX1_beginnersOf_19 (by decide) rfl ?_
        refine x_iload_n C 4 dX1_beginnersOf_21 rfl rfl ?_
        refine x_iload_n C 1 dX1_beginnersOf_22 rfl rfl ?_
        refine x_callSNP C cl_X9_holds knX1_50 (As := [.int a1, .int x3_4]) (rest := []) (tc_X9_holds uu0 hTy0.1 a1 x3_4) rfl rfl (Nat.le_of_ble_eq_true rfl) ⟨Nat.le_of_ble_eq_true rfl, Nat.le_of_ble_eq_true rfl⟩ ⟨Nat.le_of_ble_eq_true rfl, Nat.le_of_ble_eq_true rfl⟩ dX1_beginnersOf_23 ?_
        rintro _ _ ⟨rfl, r9, rfl, gr9⟩
        refine x_norm (st2 := [.int r9]) rfl rfl rfl rfl rfl ?_
        have l_0 : (0 : Int32).toInt = 0 := by decide
        refine x_if_eq C 57 dX1_beginnersOf_26 (by decide) (fun q11 => ?_) (fun q11 => ?_)
        · have rq11 : r9.toInt = (0 : Int32).toInt := by rw [i_eq_iff] at q11; omega
          exact J57  w8 (by omega) (by omega) x2_4 (by omega) (by omega)
        · have rq11 : ¬ r9.toInt = (0 : Int32).toInt := by rw [i_eq_iff] at q11; omega
          refine x_iload C 0 dX1_beginnersOf_29 rfl ?_
          refine x_if_eq C 51 dX1_beginnersOf_31 (by decide) (fun q12 => ?_) (fun q12 => ?_)
          · have rq12 : w8.toInt = (0 : Int32).toInt := by rw [i_eq_iff] at q12; omega
            exact J51  w8 (by omega) (by omega) (by omega) (by omega)
          · have rq12 : ¬ w8.toInt = (0 : Int32).toInt := by rw [i_eq_iff] at q12; omega
            refine x_aload_n C 3 dX1_beginnersOf_34 rfl rfl ?_
            refine gfX1_28 C dX1_beginnersOf_35 hc4 rfl ?_
            refine x_iload_n C 1 dX1_beginnersOf_38 rfl rfl ?_
            obtain ⟨f13, hf13⟩ := ty_brA hTy0 hb 2 8 (by omega)
            refine x_iald C hf13 (i_in (by omega) (by omega)) dX1_beginnersOf_39 ?_
            refine x_top (fun w14 ew14 => ?_)
            refine x_aload_n C 3 dX1_beginnersOf_40 rfl rfl ?_
            refine gfX1_40 C dX1_beginnersOf_41 hc4 rfl ?_
            refine x_iload C 0 dX1_beginnersOf_44 rfl ?_
            obtain ⟨f15, hf15⟩ := ty_brA hTy0 hb 6 256 (by omega)
            refine x_iald C hf15 (i_in (by omega) (by omega)) dX1_beginnersOf_46 ?_
            refine x_top (fun w16 ew16 => ?_)
            refine x_iand C dX1_beginnersOf_47 ?_
            refine x_top (fun w17 ew17 => ?_)
            refine x_if_eq C 57 dX1_beginnersOf_48 (by decide) (fun q18 => ?_) (fun q18 => ?_)
            · have rq18 : w17.toInt = (0 : Int32).toInt := by rw [i_eq_iff] at q18; omega
              exact J57  w8 (by omega) (by omega) x2_4 (by omega) (by omega)
            · have rq18 : ¬ w17.toInt = (0 : Int32).toInt := by rw [i_eq_iff] at q18; omega
              exact J51  w8 (by omega) (by omega) (by omega) (by omega)
  refine x_iconst (v := (0 : Int32)) C dX1_beginnersOf_0 (by decide) ?_
  refine x_istore_n C [(2, .int (0 : Int32)), (0, .ref (z + b)), (1, .int a1)] dX1_beginnersOf_1 rfl (by decide) rfl ?_
  refine x_iconst (v := (0 : Int32)) C dX1_beginnersOf_2 (by decide) ?_
  refine x_istore_n C [(3, .int (0 : Int32)), (2, .int (0 : Int32)), (0, .ref (z + b)), (1, .int a1)] dX1_beginnersOf_3 rfl (by decide) rfl ?_
  have l_0 : (0 : Int32).toInt = 0 := by decide
  exact J4 (9 - (0 : Int32).toInt).toNat  (0 : Int32) (by omega) (by omega) (0 : Int32) rfl
set_option maxRecDepth 20000 in
set_option maxHeartbeats 2000000 in
theorem tc_X1_settle {G : GT} {l : Launch} {z n : Nat} {ln : Int} (uu0 : HpT) (hTz0 : TyC G z ln uu0) (b : Nat) (hb : BrO b) : Mp G l z yX1_settle cX1_settle 3 none { frames := 2, cells := 0, slots := 0, locals := 45 } [.ref (z + b)] uu0 n (fun r v => TC G z ln uu0 v ∧ r = none) := by
  refine mp_of (by decide +kernel) (Nat.le_of_ble_eq_true rfl) ?_
  intro p e s m below meth c C hr hlk hnm
  have hbb_b : b = 112 ∨ b = 119 := hb
  have hTy0 : TC G z ln uu0 uu0 := TC.rf hTz0
  have J62 : ∀ (d : Nat) (u_62 : HpT) (hT_62 : TC G z ln uu0 u_62) (x2_62 : Int32) (hl_x2_62 : 1 ≤ x2_62.toInt) (hh_x2_62 : x2_62.toInt ≤ 256) (x1_62 : Int32) (hl_x1_62 : 0 ≤ x1_62.toInt) (hh_x1_62 : x1_62.toInt ≤ 255) (hd : d = (257 - x2_62.toInt).toNat), Xw p l e ({ frames := 2, cells := 0, slots := 0, locals := 45 } : Room) s m ([.ref (z + b)] : List Value).toArray below meth c G z 3 (MQ below (Qp G z n (fun r v => TC G z ln uu0 v ∧ r = none)) ([.ref (z + b)] : List Value).toArray s 0 0 (zA z)) 62 [(2, .int x2_62), (1, .int x1_62), (0, .ref (z + b))] [] u_62 n 0 0 := by
    intro d
    induction d using Nat.strongRecOn with
    | _ d ih62 =>
      intro u_62 hT_62 x2_62 hl_x2_62 hh_x2_62 x1_62 hl_x1_62 hh_x1_62 hd62
      refine x_iload_n C 0 dX1_settle_62 rfl rfl ?_
      refine x_iload_n C 1 dX1_settle_63 rfl rfl ?_
      refine x_icmp_gt C 84 dX1_settle_64 (by decide) (fun q1 => ?_) (fun q1 => ?_)
      · have rq1 : x2_62.toInt > x1_62.toInt := by rw [Int32.lt_iff_toInt_lt] at q1; omega
        exact x_vretP C hr hlk (Nat.le_refl _) (Nat.le_refl _) dX1_settle_84 ⟨hT_62, rfl⟩
      · have rq1 : x2_62.toInt ≤ x1_62.toInt := by rw [Int32.lt_iff_toInt_lt] at q1; omega
        refine x_aload_n C 2 dX1_settle_67 rfl rfl ?_
        obtain ⟨c2_0, c2_1, c2_2, c2_3, hc2, qc2_0, qc2_1, qc2_2, qc2_3⟩ := ty_br hT_62 hb
        refine gfX1_40 C dX1_settle_68 hc2 rfl ?_
        refine x_iload_n C 0 dX1_settle_71 rfl rfl ?_
        refine x_aload_n C 2 dX1_settle_72 rfl rfl ?_
        refine x_iload_n C 0 dX1_settle_73 rfl rfl ?_
        refine x_callVP C cl_X1_beginnersOf kmX1_47 (ci := 0) (b := b) (As := [.int x2_62]) (rest := [.int x2_62, .ref (z + (b + 6))]) rfl hc2 (tc_X1_beginnersOf u_62 hT_62.1 b hb x2_62 (by omega) (by omega)) rfl rfl (Nat.le_of_ble_eq_true rfl) ⟨Nat.le_of_ble_eq_true rfl, Nat.le_of_ble_eq_true rfl⟩ ⟨Nat.le_of_ble_eq_true rfl, Nat.le_of_ble_eq_true rfl⟩ dX1_settle_74 ?_
        rintro _ _ ⟨rfl, r3, rfl, gr3⟩
        refine x_norm (st2 := [.int r3, .int x2_62, .ref (z + (b + 6))]) rfl rfl rfl rfl rfl ?_
        obtain ⟨f5, hf5⟩ := ty_brA hT_62 hb 6 256 (by omega)
        refine x_iast C hf5 (i_in (by omega) (by omega)) dX1_settle_77 ?_
        obtain ⟨u6, eu6⟩ : ∃ w : HpT, w = hup u_62 (b + 6) (aI G 256 (upd f5 x2_62.toNatClampNeg r3)) := ⟨_, rfl⟩
        refine x_heap (u2 := u6) eu6.symm ?_
        have hTu6 : TC G z ln uu0 u6 := by rw [eu6]; exact hT_62.upBrA hb 6 256 (by omega)
        have hn8 := (congrFun eu6 (b + 6)).trans (hup_s _ _ _)
        generalize (upd f5 x2_62.toNatClampNeg r3) = f9 at *
        have l_1 : (1 : Int32).toInt = 1 := by decide
        obtain ⟨w10, ew10⟩ : ∃ w : Int32, w = x2_62 + Int32.ofInt 1 := ⟨_, rfl⟩
        have fw10 : w10.toInt = x2_62.toInt + (1) := by rw [ew10]; exact i_addk (by decide) (by omega) (by omega)
        refine x_iinc (v := w10) C 0 [(2, .int w10), (1, .int x1_62), (0, .ref (z + b))] dX1_settle_78 rfl ew10.symm (by decide) rfl ?_
        refine x_goto C 62 dX1_settle_81 (by decide) ?_
        exact ih62 (257 - w10.toInt).toNat (by omega) u6 hTu6 w10 (by omega) (by omega) x1_62 (by omega) (by omega) rfl
  have J36 : ∀ (d : Nat) (u_36 : HpT) (hT_36 : TC G z ln uu0 u_36) (x2_36 : Int32) (hl_x2_36 : 0 ≤ x2_36.toInt) (hh_x2_36 : x2_36.toInt ≤ 6) (x1_36 : Int32) (hl_x1_36 : 0 ≤ x1_36.toInt) (hh_x1_36 : x1_36.toInt ≤ 255) (hd : d = (7 - x2_36.toInt).toNat), Xw p l e ({ frames := 2, cells := 0, slots := 0, locals := 45 } : Room) s m ([.ref (z + b)] : List Value).toArray below meth c G z 3 (MQ below (Qp G z n (fun r v => TC G z ln uu0 v ∧ r = none)) ([.ref (z + b)] : List Value).toArray s 0 0 (zA z)) 36 [(2, .int x2_36), (1, .int x1_36), (0, .ref (z + b))] [] u_36 n 0 0 := by
    intro d
    induction d using Nat.strongRecOn with
    | _ d ih36 =>
      intro u_36 hT_36 x2_36 hl_x2_36 hh_x2_36 x1_36 hl_x1_36 hh_x1_36 hd36
      refine x_iload_n C 0 dX1_settle_36 rfl rfl ?_
      refine x_aload_n C 2 dX1_settle_37 rfl rfl ?_
      obtain ⟨c11_0, c11_1, c11_2, c11_3, hc11, qc11_0, qc11_1, qc11_2, qc11_3⟩ := ty_br hT_36 hb
      refine gfX1_21 C dX1_settle_38 hc11 rfl ?_
      refine x_icmp_ge C 60 dX1_settle_41 (by decide) (fun q12 => ?_) (fun q12 => ?_)
      · have rq12 : x2_36.toInt ≥ c11_3.toInt := by rw [Int32.le_iff_toInt_le] at q12; omega
        refine x_iconst (v := (1 : Int32)) C dX1_settle_60 (by decide) ?_
        refine x_istore_n C [(2, .int (1 : Int32)), (1, .int x1_36), (0, .ref (z + b))] dX1_settle_61 rfl (by decide) rfl ?_
        have l_1 : (1 : Int32).toInt = 1 := by decide
        exact J62 (257 - (1 : Int32).toInt).toNat u_36 hT_36 (1 : Int32) (by omega) (by omega) x1_36 (by omega) (by omega) rfl
      · have rq12 : x2_36.toInt < c11_3.toInt := by rw [Int32.le_iff_toInt_le] at q12; omega
        refine x_aload_n C 2 dX1_settle_44 rfl rfl ?_
        refine gfX1_37 C dX1_settle_45 hc11 rfl ?_
        refine x_iload_n C 0 dX1_settle_48 rfl rfl ?_
        refine x_dup2 C dX1_settle_49 rfl rfl ?_
        obtain ⟨f13, hf13⟩ := ty_brA hT_36 hb 5 6 (by omega)
        refine x_iald C hf13 (i_in (by omega) (by omega)) dX1_settle_50 ?_
        refine x_top (fun w14 ew14 => ?_)
        refine x_iload_n C 1 dX1_settle_51 rfl rfl ?_
        refine x_iand C dX1_settle_52 ?_
        refine x_top (fun w15 ew15 => ?_)
        have fw15_0 : 0 ≤ w15.toInt ∧ w15.toInt ≤ x1_36.toInt := by rw [ew15]; exact i_and_r (by omega)
        refine x_iast C hf13 (i_in (by omega) (by omega)) dX1_settle_53 ?_
        obtain ⟨u16, eu16⟩ : ∃ w : HpT, w = hup u_36 (b + 5) (aI G 6 (upd f13 x2_36.toNatClampNeg w15)) := ⟨_, rfl⟩
        refine x_heap (u2 := u16) eu16.symm ?_
        have hTu16 : TC G z ln uu0 u16 := by rw [eu16]; exact hT_36.upBrA hb 5 6 (by omega)
        have hn18 := (congrFun eu16 (b + 5)).trans (hup_s _ _ _)
        generalize (upd f13 x2_36.toNatClampNeg w15) = f19 at *
        have l_1 : (1 : Int32).toInt = 1 := by decide
        obtain ⟨w20, ew20⟩ : ∃ w : Int32, w = x2_36 + Int32.ofInt 1 := ⟨_, rfl⟩
        have fw20 : w20.toInt = x2_36.toInt + (1) := by rw [ew20]; exact i_addk (by decide) (by omega) (by omega)
        refine x_iinc (v := w20) C 0 [(2, .int w20), (1, .int x1_36), (0, .ref (z + b))] dX1_settle_54 rfl ew20.symm (by decide) rfl ?_
        refine x_goto C 36 dX1_settle_57 (by decide) ?_
        exact ih36 (7 - w20.toInt).toNat (by omega) u16 hTu16 w20 (by omega) (by omega) x1_36 (by omega) (by omega) rfl
  have J10 : ∀ (d : Nat) (u_10 : HpT) (hT_10 : TC G z ln uu0 u_10) (x2_10 : Int32) (hl_x2_10 : 0 ≤ x2_10.toInt) (hh_x2_10 : x2_10.toInt ≤ 8) (x1_10 : Int32) (hl_x1_10 : 0 ≤ x1_10.toInt) (hh_x1_10 : x1_10.toInt ≤ 255) (hd : d = (9 - x2_10.toInt).toNat), Xw p l e ({ frames := 2, cells := 0, slots := 0, locals := 45 } : Room) s m ([.ref (z + b)] : List Value).toArray below meth c G z 3 (MQ below (Qp G z n (fun r v => TC G z ln uu0 v ∧ r = none)) ([.ref (z + b)] : List Value).toArray s 0 0 (zA z)) 10 [(2, .int x2_10), (1, .int x1_10), (0, .ref (z + b))] [] u_10 n 0 0 := by
    intro d
    induction d using Nat.strongRecOn with
    | _ d ih10 =>
      intro u_10 hT_10 x2_10 hl_x2_10 hh_x2_10 x1_10 hl_x1_10 hh_x1_10 hd10
      refine x_iload_n C 0 dX1_settle_10 rfl rfl ?_
      refine x_aload_n C 2 dX1_settle_11 rfl rfl ?_
      obtain ⟨c21_0, c21_1, c21_2, c21_3, hc21, qc21_0, qc21_1, qc21_2, qc21_3⟩ := ty_br hT_10 hb
      refine gfX1_18 C dX1_settle_12 hc21 rfl ?_
      refine x_icmp_ge C 34 dX1_settle_15 (by decide) (fun q22 => ?_) (fun q22 => ?_)
      · have rq22 : x2_10.toInt ≥ c21_2.toInt := by rw [Int32.le_iff_toInt_le] at q22; omega
        refine x_iconst (v := (0 : Int32)) C dX1_settle_34 (by decide) ?_
        refine x_istore_n C [(2, .int (0 : Int32)), (1, .int x1_10), (0, .ref (z + b))] dX1_settle_35 rfl (by decide) rfl ?_
        have l_0 : (0 : Int32).toInt = 0 := by decide
        exact J36 (7 - (0 : Int32).toInt).toNat u_10 hT_10 (0 : Int32) (by omega) (by omega) x1_10 (by omega) (by omega) rfl
      · have rq22 : x2_10.toInt < c21_2.toInt := by rw [Int32.le_iff_toInt_le] at q22; omega
        refine x_aload_n C 2 dX1_settle_18 rfl rfl ?_
        refine gfX1_28 C dX1_settle_19 hc21 rfl ?_
        refine x_iload_n C 0 dX1_settle_22 rfl rfl ?_
        refine x_dup2 C dX1_settle_23 rfl rfl ?_
        obtain ⟨f23, hf23⟩ := ty_brA hT_10 hb 2 8 (by omega)
        refine x_iald C hf23 (i_in (by omega) (by omega)) dX1_settle_24 ?_
        refine x_top (fun w24 ew24 => ?_)
        refine x_iload_n C 1 dX1_settle_25 rfl rfl ?_
        refine x_iand C dX1_settle_26 ?_
        refine x_top (fun w25 ew25 => ?_)
        have fw25_0 : 0 ≤ w25.toInt ∧ w25.toInt ≤ x1_10.toInt := by rw [ew25]; exact i_and_r (by omega)
        refine x_iast C hf23 (i_in (by omega) (by omega)) dX1_settle_27 ?_
        obtain ⟨u26, eu26⟩ : ∃ w : HpT, w = hup u_10 (b + 2) (aI G 8 (upd f23 x2_10.toNatClampNeg w25)) := ⟨_, rfl⟩
        refine x_heap (u2 := u26) eu26.symm ?_
        have hTu26 : TC G z ln uu0 u26 := by rw [eu26]; exact hT_10.upBrA hb 2 8 (by omega)
        have hn28 := (congrFun eu26 (b + 2)).trans (hup_s _ _ _)
        generalize (upd f23 x2_10.toNatClampNeg w25) = f29 at *
        have l_1 : (1 : Int32).toInt = 1 := by decide
        obtain ⟨w30, ew30⟩ : ∃ w : Int32, w = x2_10 + Int32.ofInt 1 := ⟨_, rfl⟩
        have fw30 : w30.toInt = x2_10.toInt + (1) := by rw [ew30]; exact i_addk (by decide) (by omega) (by omega)
        refine x_iinc (v := w30) C 0 [(2, .int w30), (1, .int x1_10), (0, .ref (z + b))] dX1_settle_28 rfl ew30.symm (by decide) rfl ?_
        refine x_goto C 10 dX1_settle_31 (by decide) ?_
        exact ih10 (9 - w30.toInt).toNat (by omega) u26 hTu26 w30 (by omega) (by omega) x1_10 (by omega) (by omega) rfl
  refine x_aload_n C 0 dX1_settle_0 rfl rfl ?_
  obtain ⟨c31_0, c31_1, c31_2, c31_3, hc31, qc31_0, qc31_1, qc31_2, qc31_3⟩ := ty_br hTy0 hb
  refine gfX1_18 C dX1_settle_1 hc31 rfl ?_
  refine x_callSNP C cl_X9_setOfFirst knX1_43 (As := [.int c31_2]) (rest := []) (tc_X9_setOfFirst uu0 hTy0.1 c31_2 (by omega) (by omega)) rfl rfl (Nat.le_of_ble_eq_true rfl) ⟨Nat.le_of_ble_eq_true rfl, Nat.le_of_ble_eq_true rfl⟩ ⟨Nat.le_of_ble_eq_true rfl, Nat.le_of_ble_eq_true rfl⟩ dX1_settle_4 ?_
  rintro _ _ ⟨rfl, r32, rfl, gr32⟩
  refine x_norm (st2 := [.int r32]) rfl rfl rfl rfl rfl ?_
  refine x_istore_n C [(1, .int r32), (0, .ref (z + b))] dX1_settle_7 rfl (by decide) rfl ?_
  refine x_iconst (v := (0 : Int32)) C dX1_settle_8 (by decide) ?_
  refine x_istore_n C [(2, .int (0 : Int32)), (1, .int r32), (0, .ref (z + b))] dX1_settle_9 rfl (by decide) rfl ?_
  have l_0 : (0 : Int32).toInt = 0 := by decide
  exact J10 (9 - (0 : Int32).toInt).toNat uu0 hTy0 (0 : Int32) (by omega) (by omega) r32 (by omega) (by omega) rfl
