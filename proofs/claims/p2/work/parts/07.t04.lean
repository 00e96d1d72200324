set_option maxRecDepth 20000 in
set_option maxHeartbeats 2000000 in
theorem tc_X8_weigh {G : GT} {l : Launch} {z n : Nat} {ln : Int} (uu0 : HpT) (hTz0 : TyC G z ln uu0) (a1 : Int32) (a2 : Int32) (pre0 : 0 ≤ a1.toInt) (pre1 : a1.toInt ≤ 255) : Mp G l z yX8_weigh cX8_weigh 5 none { frames := 2, cells := 0, slots := 0, locals := 42 } [.ref (z + 99), .int a1, .int a2] uu0 n (fun r v => TCK G z ln uu0 v ∧ r = none) := by
  refine mp_of (by decide +kernel) (Nat.le_of_ble_eq_true rfl) ?_
  intro p e s m below meth c C hr hlk hnm
  have hTy0 : TCK G z ln uu0 uu0 := TCK.rf hTz0
  have J76 : ∀ (u_76 : HpT) (hT_76 : TCK G z ln uu0 u_76) (x4_76 : Int32) (x3_76 : Int32), Xw p l e ({ frames := 2, cells := 0, slots := 0, locals := 42 } : Room) s m ([.ref (z + 99), .int a1, .int a2] : List Value).toArray below meth c G z 5 (MQ below (Qp G z n (fun r v => TCK G z ln uu0 v ∧ r = none)) ([.ref (z + 99), .int a1, .int a2] : List Value).toArray s 0 0 (zA z)) 76 [(4, .int x4_76), (3, .int x3_76), (0, .ref (z + 99)), (1, .int a1), (2, .int a2)] [] u_76 n 0 0 := by
    intro u_76 hT_76 x4_76 x3_76
    refine x_aload_n C 2 dX8_weigh_76 rfl rfl ?_
    refine x_aload_n C 2 dX8_weigh_77 rfl rfl ?_
    obtain ⟨c1_1, c1_2, c1_3, hc1⟩ := ty_99 hT_76.1
    refine gfX8_9 C dX8_weigh_78 hc1 rfl ?_
    refine x_iload_n C 3 dX8_weigh_81 rfl rfl ?_
    obtain ⟨f2, hf2⟩ := ty_100 hT_76.1
    refine x_iald C hf2 (i_in (by omega) (by omega)) dX8_weigh_82 ?_
    refine x_top (fun w3 ew3 => ?_)
    obtain ⟨u4, eu4⟩ : ∃ w : HpT, w = hup u_76 99 (.inr (7, [.ref (z + 100), .int w3, .int c1_2, .int c1_3])) := ⟨_, rfl⟩
    refine pfX8_15 C dX8_weigh_83 hc1 (Nat.le_of_ble_eq_true rfl) rfl eu4.symm ?_
    have hTu4 : TCK G z ln uu0 u4 := by rw [eu4]; exact hT_76.up_99
    have hn6 := (congrFun eu4 99).trans (hup_s _ _ _)
    refine x_aload_n C 2 dX8_weigh_86 rfl rfl ?_
    refine x_iload C 0 dX8_weigh_87 rfl ?_
    obtain ⟨u7, eu7⟩ : ∃ w : HpT, w = hup u4 99 (.inr (7, [.ref (z + 100), .int w3, .int x4_76, .int c1_3])) := ⟨_, rfl⟩
    refine pfX8_19 C dX8_weigh_89 hn6 (Nat.le_of_ble_eq_true rfl) rfl eu7.symm ?_
    have hTu7 : TCK G z ln uu0 u7 := by rw [eu7]; exact hTu4.up_99
    have hn9 := (congrFun eu7 99).trans (hup_s _ _ _)
    refine x_aload_n C 2 dX8_weigh_92 rfl rfl ?_
    refine x_iload_n C 1 dX8_weigh_93 rfl rfl ?_
    obtain ⟨u10, eu10⟩ : ∃ w : HpT, w = hup u7 99 (.inr (7, [.ref (z + 100), .int w3, .int x4_76, .int x3_76])) := ⟨_, rfl⟩
    refine pfX8_22 C dX8_weigh_94 hn9 (Nat.le_of_ble_eq_true rfl) rfl eu10.symm ?_
    have hTu10 : TCK G z ln uu0 u10 := by rw [eu10]; exact hTu7.up_99
    have hn12 := (congrFun eu10 99).trans (hup_s _ _ _)
    exact x_vretP C hr hlk (Nat.le_refl _) (Nat.le_refl _) dX8_weigh_97 ⟨hTu10, rfl⟩
  refine x_iload_n C 2 dX8_weigh_0 rfl rfl ?_
  have l_0 : (0 : Int32).toInt = 0 := by decide
  refine x_if_eq C 26 dX8_weigh_1 (by decide) (fun q13 => ?_) (fun q13 => ?_)
  · have rq13 : a2.toInt = (0 : Int32).toInt := by rw [i_eq_iff] at q13; omega
    exact x_vretP C hr hlk (Nat.le_refl _) (Nat.le_refl _) dX8_weigh_26 ⟨hTy0, rfl⟩
  · have rq13 : ¬ a2.toInt = (0 : Int32).toInt := by rw [i_eq_iff] at q13; omega
    refine x_aload_n C 0 dX8_weigh_4 rfl rfl ?_
    obtain ⟨c14_1, c14_2, c14_3, hc14⟩ := ty_99 hTy0.1
    refine gfX8_9 C dX8_weigh_5 hc14 rfl ?_
    refine x_iload_n C 1 dX8_weigh_8 rfl rfl ?_
    obtain ⟨f15, hf15⟩ := ty_100 hTy0.1
    refine x_iald C hf15 (i_in (by omega) (by omega)) dX8_weigh_9 ?_
    refine x_top (fun w16 ew16 => ?_)
    refine x_if_eq C 26 dX8_weigh_10 (by decide) (fun q17 => ?_) (fun q17 => ?_)
    · have rq17 : w16.toInt = (0 : Int32).toInt := by rw [i_eq_iff] at q17; omega
      exact x_vretP C hr hlk (Nat.le_refl _) (Nat.le_refl _) dX8_weigh_26 ⟨hTy0, rfl⟩
    · have rq17 : ¬ w16.toInt = (0 : Int32).toInt := by rw [i_eq_iff] at q17; omega
      refine x_aload_n C 0 dX8_weigh_13 rfl rfl ?_
      refine gfX8_9 C dX8_weigh_14 hc14 rfl ?_
      refine x_iload_n C 1 dX8_weigh_17 rfl rfl ?_
      refine x_iald C hf15 (i_in (by omega) (by omega)) dX8_weigh_18 ?_
      refine x_top (fun w18 ew18 => ?_)
      refine x_aload_n C 0 dX8_weigh_19 rfl rfl ?_
      refine gfX8_15 C dX8_weigh_20 hc14 rfl ?_
      refine x_icmp_ge C 27 dX8_weigh_23 (by decide) (fun q19 => ?_) (fun q19 => ?_)
      · have rq19 : w18.toInt ≥ c14_1.toInt := by rw [Int32.le_iff_toInt_le] at q19; omega
        refine x_iload_n C 1 dX8_weigh_27 rfl rfl ?_
        refine x_callSP C cl_J6_bitCount_0f7a4 kmX8_48 (As := [.int a1]) (rest := []) (tc_J6_bitCount_0f7a4 uu0 hTy0.1.1 a1) rfl rfl (Nat.le_of_ble_eq_true rfl) ⟨Nat.le_of_ble_eq_true rfl, Nat.le_of_ble_eq_true rfl⟩ ⟨Nat.le_of_ble_eq_true rfl, Nat.le_of_ble_eq_true rfl⟩ dX8_weigh_28 ?_
        rintro _ _ ⟨rfl, r20, rfl, gr20⟩
        refine x_norm (st2 := [.int r20]) rfl rfl rfl rfl rfl ?_
        refine x_istore_n C [(3, .int r20), (0, .ref (z + 99)), (1, .int a1), (2, .int a2)] dX8_weigh_31 rfl (by decide) rfl ?_
        refine x_iload_n C 3 dX8_weigh_32 rfl rfl ?_
        refine x_callSNP C cl_X9_leastOf knX8_34 (As := [.int a2]) (rest := []) (tc_X9_leastOf uu0 hTy0.1.1 a2) rfl rfl (Nat.le_of_ble_eq_true rfl) ⟨Nat.le_of_ble_eq_true rfl, Nat.le_of_ble_eq_true rfl⟩ ⟨Nat.le_of_ble_eq_true rfl, Nat.le_of_ble_eq_true rfl⟩ dX8_weigh_33 ?_
        rintro _ _ ⟨rfl, r22, rfl, gr22⟩
        refine x_norm (st2 := [.int r22]) rfl rfl rfl rfl rfl ?_
        refine x_istore C [(4, .int r22), (3, .int r20), (0, .ref (z + 99)), (1, .int a1), (2, .int a2)] dX8_weigh_36 (by decide) rfl ?_
        refine x_aload_n C 2 dX8_weigh_38 rfl rfl ?_
        refine gfX8_9 C dX8_weigh_39 hc14 rfl ?_
        refine x_iload_n C 3 dX8_weigh_42 rfl rfl ?_
        refine x_iald C hf15 (i_in (by omega) (by omega)) dX8_weigh_43 ?_
        refine x_top (fun w24 ew24 => ?_)
        refine x_aload_n C 2 dX8_weigh_44 rfl rfl ?_
        refine gfX8_15 C dX8_weigh_45 hc14 rfl ?_
        refine x_icmp_gt C 76 dX8_weigh_48 (by decide) (fun q25 => ?_) (fun q25 => ?_)
        · have rq25 : w24.toInt > c14_1.toInt := by rw [Int32.lt_iff_toInt_lt] at q25; omega
          exact J76 uu0 hTy0 r22 r20
        · have rq25 : w24.toInt ≤ c14_1.toInt := by rw [Int32.lt_iff_toInt_lt] at q25; omega
          refine x_iload_n C 1 dX8_weigh_51 rfl rfl ?_
          refine x_aload_n C 2 dX8_weigh_52 rfl rfl ?_
          refine gfX8_22 C dX8_weigh_53 hc14 rfl ?_
          refine x_icmp_lt C 76 dX8_weigh_56 (by decide) (fun q26 => ?_) (fun q26 => ?_)
          · have rq26 : r20.toInt < c14_3.toInt := by rw [Int32.lt_iff_toInt_lt] at q26; omega
            exact J76 uu0 hTy0 r22 r20
          · have rq26 : r20.toInt ≥ c14_3.toInt := by rw [Int32.lt_iff_toInt_lt] at q26; omega
            refine x_iload_n C 1 dX8_weigh_59 rfl rfl ?_
            refine x_aload_n C 2 dX8_weigh_60 rfl rfl ?_
            refine gfX8_22 C dX8_weigh_61 hc14 rfl ?_
            refine x_icmp_ne C 97 dX8_weigh_64 (by decide) (fun q27 => ?_) (fun q27 => ?_)
            · have rq27 : ¬ r20.toInt = c14_3.toInt := by rw [i_eq_iff] at q27; omega
              exact x_vretP C hr hlk (Nat.le_refl _) (Nat.le_refl _) dX8_weigh_97 ⟨hTy0, rfl⟩
            · have rq27 : r20.toInt = c14_3.toInt := by rw [i_eq_iff] at q27; omega
              refine x_iload C 0 dX8_weigh_67 rfl ?_
              refine x_aload_n C 2 dX8_weigh_69 rfl rfl ?_
              refine gfX8_19 C dX8_weigh_70 hc14 rfl ?_
              refine x_icmp_ge C 97 dX8_weigh_73 (by decide) (fun q28 => ?_) (fun q28 => ?_)
              · have rq28 : r22.toInt ≥ c14_2.toInt := by rw [Int32.le_iff_toInt_le] at q28; omega
                exact x_vretP C hr hlk (Nat.le_refl _) (Nat.le_refl _) dX8_weigh_97 ⟨hTy0, rfl⟩
              · have rq28 : r22.toInt < c14_2.toInt := by rw [Int32.le_iff_toInt_le] at q28; omega
                exact J76 uu0 hTy0 r22 r20
      · have rq19 : w18.toInt < c14_1.toInt := by rw [Int32.le_iff_toInt_le] at q19; omega
        exact x_vretP C hr hlk (Nat.le_refl _) (Nat.le_refl _) dX8_weigh_26 ⟨hTy0, rfl⟩
set_option maxRecDepth 20000 in
set_option maxHeartbeats 2000000 in
theorem tc_X8_tryWith {G : GT} {l : Launch} {z n : Nat} {ln : Int} (uu0 : HpT) (hTz0 : TyC G z ln uu0) (b : Nat) (hb : BrO b) (a2 : Int32) (a3 : Int32) : Mp G l z yX8_tryWith cX8_tryWith 6 none { frames := 3, cells := 0, slots := 0, locals := 66 } [.ref (z + 99), .ref (z + b), .int a2, .int a3] uu0 n (fun r v => TCK G z ln uu0 v ∧ r = none) := by
  refine mp_of (by decide +kernel) (Nat.le_of_ble_eq_true rfl) ?_
  intro p e s m below meth c C hr hlk hnm
  have hbb_b : b = 112 ∨ b = 119 := hb
  have hTy0 : TCK G z ln uu0 uu0 := TCK.rf hTz0
  have J27 : ∀ (d : Nat) (u_27 : HpT) (hT_27 : TCK G z ln uu0 u_27) (x5_27 : Int32) (hl_x5_27 : 1 ≤ x5_27.toInt) (hh_x5_27 : x5_27.toInt ≤ 256) (x4_27 : Int32) (hl_x4_27 : 0 ≤ x4_27.toInt) (hh_x4_27 : x4_27.toInt ≤ 255) (hd : d = (257 - x5_27.toInt).toNat), Xw p l e ({ frames := 3, cells := 0, slots := 0, locals := 66 } : Room) s m ([.ref (z + 99), .ref (z + b), .int a2, .int a3] : List Value).toArray below meth c G z 6 (MQ below (Qp G z n (fun r v => TCK G z ln uu0 v ∧ r = none)) ([.ref (z + 99), .ref (z + b), .int a2, .int a3] : List Value).toArray s 0 0 (zA z)) 27 [(5, .int x5_27), (4, .int x4_27), (0, .ref (z + 99)), (1, .ref (z + b)), (2, .int a2), (3, .int a3)] [] u_27 n 0 0 := by
    intro d
    induction d using Nat.strongRecOn with
    | _ d ih27 =>
      intro u_27 hT_27 x5_27 hl_x5_27 hh_x5_27 x4_27 hl_x4_27 hh_x4_27 hd27
      have J86 : ∀ (u_86 : HpT) (hT_86 : TCK G z ln uu0 u_86) (nl_x4_27_86 : 1 ≤ x4_27.toInt) (nh_x4_27_86 : x4_27.toInt ≤ 255) (nl_x5_27_86 : 1 ≤ x5_27.toInt) (nh_x5_27_86 : x5_27.toInt ≤ 255), Xw p l e ({ frames := 3, cells := 0, slots := 0, locals := 66 } : Room) s m ([.ref (z + 99), .ref (z + b), .int a2, .int a3] : List Value).toArray below meth c G z 6 (MQ below (Qp G z n (fun r v => TCK G z ln uu0 v ∧ r = none)) ([.ref (z + 99), .ref (z + b), .int a2, .int a3] : List Value).toArray s 0 0 (zA z)) 86 [(5, .int x5_27), (4, .int x4_27), (0, .ref (z + 99)), (1, .ref (z + b)), (2, .int a2), (3, .int a3)] [] u_86 n 0 0 := by
        intro u_86 hT_86 nl_x4_27_86 nh_x4_27_86 nl_x5_27_86 nh_x5_27_86
        have l_1 : (1 : Int32).toInt = 1 := by decide
        obtain ⟨w1, ew1⟩ : ∃ w : Int32, w = x5_27 + Int32.ofInt 1 := ⟨_, rfl⟩
        have fw1 : w1.toInt = x5_27.toInt + (1) := by rw [ew1]; exact i_addk (by decide) (by omega) (by omega)
        refine x_iinc (v := w1) C 0 [(5, .int w1), (4, .int x4_27), (0, .ref (z + 99)), (1, .ref (z + b)), (2, .int a2), (3, .int a3)] dX8_tryWith_86 rfl ew1.symm (by decide) rfl ?_
        refine x_goto C 27 dX8_tryWith_89 (by decide) ?_
        exact ih27 (257 - w1.toInt).toNat (by omega) u_86 hT_86 w1 (by omega) (by omega) x4_27 (by omega) (by omega) rfl
      refine x_iload C 0 dX8_tryWith_27 rfl ?_
      refine x_iload C 1 dX8_tryWith_29 rfl ?_
      refine x_icmp_gt C 92 dX8_tryWith_31 (by decide) (fun q2 => ?_) (fun q2 => ?_)
      · have rq2 : x5_27.toInt > x4_27.toInt := by rw [Int32.lt_iff_toInt_lt] at q2; omega
        exact x_vretP C hr hlk (Nat.le_refl _) (Nat.le_refl _) dX8_tryWith_92 ⟨hT_27, rfl⟩
      · have rq2 : x5_27.toInt ≤ x4_27.toInt := by rw [Int32.lt_iff_toInt_lt] at q2; omega
        refine x_iload C 0 dX8_tryWith_34 rfl ?_
        refine x_iload_n C 5 dX8_tryWith_36 rfl rfl ?_
        refine x_iconst (v := (-1 : Int32)) C dX8_tryWith_37 (by decide) ?_
        refine x_ixor C dX8_tryWith_38 ?_
        have l_m1 : (-1 : Int32).toInt = -1 := by decide
        refine x_top (fun w3 ew3 => ?_)
        refine x_iand C dX8_tryWith_39 ?_
        refine x_top (fun w4 ew4 => ?_)
        have fw4_0 : 0 ≤ w4.toInt ∧ w4.toInt ≤ x5_27.toInt := by rw [ew4]; exact i_and_l (by omega)
        have l_0 : (0 : Int32).toInt = 0 := by decide
        refine x_if_ne C 86 dX8_tryWith_40 (by decide) (fun q5 => ?_) (fun q5 => ?_)
        · have rq5 : ¬ w4.toInt = (0 : Int32).toInt := by rw [i_eq_iff] at q5; omega
          exact J86 u_27 hT_27 (by omega) (by omega) (by omega) (by omega)
        · have rq5 : w4.toInt = (0 : Int32).toInt := by rw [i_eq_iff] at q5; omega
          refine x_aload_n C 2 dX8_tryWith_43 rfl rfl ?_
          obtain ⟨c6_1, c6_2, c6_3, hc6⟩ := ty_99 hT_27.1
          refine gfX8_9 C dX8_tryWith_44 hc6 rfl ?_
          refine x_iload C 0 dX8_tryWith_47 rfl ?_
          refine x_aload_n C 2 dX8_tryWith_49 rfl rfl ?_
          refine gfX8_9 C dX8_tryWith_50 hc6 rfl ?_
          refine x_iload C 0 dX8_tryWith_53 rfl ?_
          refine x_iload C 0 dX8_tryWith_55 rfl ?_
          refine x_iconst (v := (1 : Int32)) C dX8_tryWith_57 (by decide) ?_
          refine x_isub C dX8_tryWith_58 ?_
          have l_1 : (1 : Int32).toInt = 1 := by decide
          refine x_top (fun w7 ew7 => ?_)
          have fw7_0 : w7.toInt = x5_27.toInt - (1 : Int32).toInt := by rw [ew7]; exact i_sub (by omega) (by omega)
          refine x_iand C dX8_tryWith_59 ?_
          refine x_top (fun w8 ew8 => ?_)
          have fw8_0 : 0 ≤ w8.toInt ∧ w8.toInt ≤ x5_27.toInt := by rw [ew8]; exact i_and_l (by omega)
          obtain ⟨f9, hf9⟩ := ty_100 hT_27.1
          refine x_iald C hf9 (i_in (by omega) (by omega)) dX8_tryWith_60 ?_
          refine x_top (fun w10 ew10 => ?_)
          refine x_aload_n C 3 dX8_tryWith_61 rfl rfl ?_
          refine x_iload_n C 4 dX8_tryWith_62 rfl rfl ?_
          refine x_iload C 0 dX8_tryWith_63 rfl ?_
          refine x_callSNP C cl_X9_leastOf knX8_34 (As := [.int x5_27]) (rest := [.int a2, .ref (z + b), .int w10, .int x5_27, .ref (z + 100)]) (tc_X9_leastOf u_27 hT_27.1.1 x5_27) rfl rfl (Nat.le_of_ble_eq_true rfl) ⟨Nat.le_of_ble_eq_true rfl, Nat.le_of_ble_eq_true rfl⟩ ⟨Nat.le_of_ble_eq_true rfl, Nat.le_of_ble_eq_true rfl⟩ dX8_tryWith_65 ?_
          rintro _ _ ⟨rfl, r11, rfl, gr11⟩
          refine x_norm (st2 := [.int r11, .int a2, .ref (z + b), .int w10, .int x5_27, .ref (z + 100)]) rfl rfl rfl rfl rfl ?_
          obtain ⟨c14_0, c14_1, c14_2, c14_3, hc14, qc14_0, qc14_1, qc14_2, qc14_3⟩ := ty_br hT_27.1 hb
          refine x_callVP C cl_X1_stayOf kmX8_37 (ci := 0) (b := b) (As := [.int a2, .int r11]) (rest := [.int w10, .int x5_27, .ref (z + 100)]) rfl hc14 (tc_X1_stayOf u_27 hT_27.1.1 b hb a2 r11) rfl rfl (Nat.le_of_ble_eq_true rfl) ⟨Nat.le_of_ble_eq_true rfl, Nat.le_of_ble_eq_true rfl⟩ ⟨Nat.le_of_ble_eq_true rfl, Nat.le_of_ble_eq_true rfl⟩ dX8_tryWith_68 ?_
          rintro _ _ ⟨rfl, r13, rfl, gr13⟩
          refine x_norm (st2 := [.int r13, .int w10, .int x5_27, .ref (z + 100)]) rfl rfl rfl rfl rfl ?_
          refine x_iadd C dX8_tryWith_71 ?_
          refine x_top (fun w16 ew16 => ?_)
          refine x_iast C hf9 (i_in (by omega) (by omega)) dX8_tryWith_72 ?_
          obtain ⟨u17, eu17⟩ : ∃ w : HpT, w = hup u_27 100 (aI G 256 (upd f9 x5_27.toNatClampNeg w16)) := ⟨_, rfl⟩
          refine x_heap (u2 := u17) eu17.symm ?_
          have hTu17 : TCK G z ln uu0 u17 := by rw [eu17]; exact hT_27.up_100
          have hn20 := (congrFun eu17 100).trans (hup_s _ _ _)
          generalize (upd f9 x5_27.toNatClampNeg w16) = f21 at *
          refine x_aload_n C 2 dX8_tryWith_73 rfl rfl ?_
          refine x_iload C 0 dX8_tryWith_74 rfl ?_
          refine x_aload_n C 3 dX8_tryWith_76 rfl rfl ?_
          have k22 := (congrFun eu17 b).trans (hup_n' (by omega) hc14)
          refine gfX8_41 C dX8_tryWith_77 k22 rfl ?_
          refine x_iload C 0 dX8_tryWith_80 rfl ?_
          obtain ⟨f23, hf23⟩ := ty_brA hTu17.1 hb 6 256 (by omega)
          refine x_iald C hf23 (i_in (by omega) (by omega)) dX8_tryWith_82 ?_
          refine x_top (fun w24 ew24 => ?_)
          have k25 := (congrFun eu17 99).trans (hup_n' (by omega) hc6)
          refine x_callVP C cl_X8_weigh kmX8_44 (ci := 7) (b := 99) (As := [.int x5_27, .int w24]) (rest := []) rfl k25 (tc_X8_weigh u17 hTu17.1.1 x5_27 w24 (by omega) (by omega)) rfl rfl (Nat.le_of_ble_eq_true rfl) ⟨Nat.le_of_ble_eq_true rfl, Nat.le_of_ble_eq_true rfl⟩ ⟨Nat.le_of_ble_eq_true rfl, Nat.le_of_ble_eq_true rfl⟩ dX8_tryWith_83 ?_
          rintro _ u26 ⟨ju26, rfl⟩
          have hTu26 := hTu17.tr ju26
          refine x_norm (st2 := []) rfl rfl rfl rfl rfl ?_
          exact J86 u26 hTu26 (by omega) (by omega) (by omega) (by omega)
  refine x_aload_n C 0 dX8_tryWith_0 rfl rfl ?_
  refine x_iconst (v := (0 : Int32)) C dX8_tryWith_1 (by decide) ?_
  obtain ⟨c27_1, c27_2, c27_3, hc27⟩ := ty_99 hTy0.1
  have l_0 : (0 : Int32).toInt = 0 := by decide
  obtain ⟨u28, eu28⟩ : ∃ w : HpT, w = hup uu0 99 (.inr (7, [.ref (z + 100), .int (0 : Int32), .int c27_2, .int c27_3])) := ⟨_, rfl⟩
  refine pfX8_15 C dX8_tryWith_2 hc27 (Nat.le_of_ble_eq_true rfl) rfl eu28.symm ?_
  have hTu28 : TCK G z ln uu0 u28 := by rw [eu28]; exact hTy0.up_99
  have hn29 := (congrFun eu28 99).trans (hup_s _ _ _)
  refine x_aload_n C 0 dX8_tryWith_5 rfl rfl ?_
  refine x_iconst (v := (-1 : Int32)) C dX8_tryWith_6 (by decide) ?_
  have l_m1 : (-1 : Int32).toInt = -1 := by decide
  obtain ⟨u30, eu30⟩ : ∃ w : HpT, w = hup u28 99 (.inr (7, [.ref (z + 100), .int (0 : Int32), .int (-1 : Int32), .int c27_3])) := ⟨_, rfl⟩
  refine pfX8_19 C dX8_tryWith_7 hn29 (Nat.le_of_ble_eq_true rfl) rfl eu30.symm ?_
  have hTu30 : TCK G z ln uu0 u30 := by rw [eu30]; exact hTu28.up_99
  have hn31 := (congrFun eu30 99).trans (hup_s _ _ _)
  refine x_aload_n C 0 dX8_tryWith_10 rfl rfl ?_
  refine x_iconst (v := (0 : Int32)) C dX8_tryWith_11 (by decide) ?_
  obtain ⟨u32, eu32⟩ : ∃ w : HpT, w = hup u30 99 (.inr (7, [.ref (z + 100), .int (0 : Int32), .int (-1 : Int32), .int (0 : Int32)])) := ⟨_, rfl⟩
  refine pfX8_22 C dX8_tryWith_12 hn31 (Nat.le_of_ble_eq_true rfl) rfl eu32.symm ?_
  have hTu32 : TCK G z ln uu0 u32 := by rw [eu32]; exact hTu30.up_99
  have hn33 := (congrFun eu32 99).trans (hup_s _ _ _)
  refine x_aload_n C 1 dX8_tryWith_15 rfl rfl ?_
  obtain ⟨c34_0, c34_1, c34_2, c34_3, hc34, qc34_0, qc34_1, qc34_2, qc34_3⟩ := ty_br hTu32.1 hb
  refine gfX8_25 C dX8_tryWith_16 hc34 rfl ?_
  refine x_callSNP C cl_X9_setOfFirst knX8_30 (As := [.int c34_2]) (rest := []) (tc_X9_setOfFirst u32 hTu32.1.1 c34_2 (by omega) (by omega)) rfl rfl (Nat.le_of_ble_eq_true rfl) ⟨Nat.le_of_ble_eq_true rfl, Nat.le_of_ble_eq_true rfl⟩ ⟨Nat.le_of_ble_eq_true rfl, Nat.le_of_ble_eq_true rfl⟩ dX8_tryWith_19 ?_
  rintro _ _ ⟨rfl, r35, rfl, gr35⟩
  refine x_norm (st2 := [.int r35]) rfl rfl rfl rfl rfl ?_
  refine x_istore C [(4, .int r35), (0, .ref (z + 99)), (1, .ref (z + b)), (2, .int a2), (3, .int a3)] dX8_tryWith_22 (by decide) rfl ?_
  refine x_iconst (v := (1 : Int32)) C dX8_tryWith_24 (by decide) ?_
  refine x_istore C [(5, .int (1 : Int32)), (4, .int r35), (0, .ref (z + 99)), (1, .ref (z + b)), (2, .int a2), (3, .int a3)] dX8_tryWith_25 (by decide) rfl ?_
  have l_1 : (1 : Int32).toInt = 1 := by decide
  exact J27 (257 - (1 : Int32).toInt).toNat u32 hTu32 (1 : Int32) (by omega) (by omega) r35 (by omega) (by omega) rfl
set_option maxRecDepth 20000 in
set_option maxHeartbeats 2000000 in
theorem tc_X8_worthOfAll {G : GT} {l : Launch} {z n : Nat} {ln : Int} (uu0 : HpT) (hTz0 : TyC G z ln uu0) (b : Nat) (hb : BrO b) (a2 : Int32) : Mp G l z yX8_worthOfAll cX8_worthOfAll 5 (some .int) { frames := 4, cells := 0, slots := 0, locals := 91 } [.ref (z + 99), .ref (z + b), .int a2] uu0 n (fun r v => TC G z ln uu0 v ∧ ∃ x : Int32, r = some (.int x) ∧ True) := by
  refine mp_of (by decide +kernel) (Nat.le_of_ble_eq_true rfl) ?_
  intro p e s m below meth c C hr hlk hnm
  have hbb_b : b = 112 ∨ b = 119 := hb
  have hTy0 : TC G z ln uu0 uu0 := TC.rf hTz0
  have J5 : ∀ (d : Nat) (u_5 : HpT) (hT_5 : TC G z ln uu0 u_5) (x4_5 : Int32) (hl_x4_5 : 0 ≤ x4_5.toInt) (hh_x4_5 : x4_5.toInt ≤ 6) (x3_5 : Int32) (hd : d = (7 - x4_5.toInt).toNat), Xw p l e ({ frames := 4, cells := 0, slots := 0, locals := 91 } : Room) s m ([.ref (z + 99), .ref (z + b), .int a2] : List Value).toArray below meth c G z 5 (MQ below (Qp G z n (fun r v => TC G z ln uu0 v ∧ ∃ x : Int32, r = some (.int x) ∧ True)) ([.ref (z + 99), .ref (z + b), .int a2] : List Value).toArray s 0 0 (zA z)) 5 [(4, .int x4_5), (3, .int x3_5), (0, .ref (z + 99)), (1, .ref (z + b)), (2, .int a2)] [] u_5 n 0 0 := by
    intro d
    induction d using Nat.strongRecOn with
    | _ d ih5 =>
      intro u_5 hT_5 x4_5 hl_x4_5 hh_x4_5 x3_5 hd5
      refine x_iload C 0 dX8_worthOfAll_5 rfl ?_
      refine x_aload_n C 3 dX8_worthOfAll_7 rfl rfl ?_
      obtain ⟨c1_0, c1_1, c1_2, c1_3, hc1, qc1_0, qc1_1, qc1_2, qc1_3⟩ := ty_br hT_5 hb
      refine gfX8_53 C dX8_worthOfAll_8 hc1 rfl ?_
      refine x_icmp_ge C 39 dX8_worthOfAll_11 (by decide) (fun q2 => ?_) (fun q2 => ?_)
      · have rq2 : x4_5.toInt ≥ c1_3.toInt := by rw [Int32.le_iff_toInt_le] at q2; omega
        refine x_iload_n C 1 dX8_worthOfAll_39 rfl rfl ?_
        exact x_iretP C hr hlk (Nat.le_refl _) (Nat.le_refl _) dX8_worthOfAll_40 ⟨hT_5, x3_5, rfl, trivial⟩
      · have rq2 : x4_5.toInt < c1_3.toInt := by rw [Int32.le_iff_toInt_le] at q2; omega
        refine x_aload_n C 2 dX8_worthOfAll_14 rfl rfl ?_
        refine x_aload_n C 3 dX8_worthOfAll_15 rfl rfl ?_
        refine x_iload C 0 dX8_worthOfAll_16 rfl ?_
        refine x_iload_n C 4 dX8_worthOfAll_18 rfl rfl ?_
        obtain ⟨c3_1, c3_2, c3_3, hc3⟩ := ty_99 hT_5
        refine x_callVP C cl_X8_tryWith kmX8_56 (ci := 7) (b := 99) (As := [.ref (z + b), .int x4_5, .int a2]) (rest := []) rfl hc3 (tc_X8_tryWith u_5 hT_5.1 b hb x4_5 a2) rfl rfl (Nat.le_of_ble_eq_true rfl) ⟨Nat.le_of_ble_eq_true rfl, Nat.le_of_ble_eq_true rfl⟩ ⟨Nat.le_of_ble_eq_true rfl, Nat.le_of_ble_eq_true rfl⟩ dX8_worthOfAll_19 ?_
        rintro _ u4 ⟨ju4, rfl⟩
        have hTu4 := hT_5.tr ju4.1
        refine x_norm (st2 := []) rfl rfl rfl rfl rfl ?_
        refine x_iload_n C 1 dX8_worthOfAll_22 rfl rfl ?_
        refine x_aload_n C 3 dX8_worthOfAll_23 rfl rfl ?_
        refine x_aload_n C 2 dX8_worthOfAll_24 rfl rfl ?_
        obtain ⟨c5_1, c5_2, c5_3, hc5⟩ := ty_99 hTu4
        refine gfX8_15 C dX8_worthOfAll_25 hc5 rfl ?_
        have k7 := (ju4.2 b (by omega) (by omega)).trans hc1
        refine x_callVP C cl_X1_payFor kmX8_60 (ci := 0) (b := b) (As := [.int c5_1]) (rest := [.int x3_5]) rfl k7 (tc_X1_payFor u4 hTu4.1 b hb c5_1) rfl rfl (Nat.le_of_ble_eq_true rfl) ⟨Nat.le_of_ble_eq_true rfl, Nat.le_of_ble_eq_true rfl⟩ ⟨Nat.le_of_ble_eq_true rfl, Nat.le_of_ble_eq_true rfl⟩ dX8_worthOfAll_28 ?_
        rintro _ _ ⟨rfl, r6, rfl, gr6⟩
        refine x_norm (st2 := [.int r6, .int x3_5]) rfl rfl rfl rfl rfl ?_
        refine x_iadd C dX8_worthOfAll_31 ?_
        refine x_top (fun w9 ew9 => ?_)
        refine x_istore_n C [(3, .int w9), (4, .int x4_5), (0, .ref (z + 99)), (1, .ref (z + b)), (2, .int a2)] dX8_worthOfAll_32 rfl (by decide) rfl ?_
        have l_1 : (1 : Int32).toInt = 1 := by decide
        obtain ⟨w10, ew10⟩ : ∃ w : Int32, w = x4_5 + Int32.ofInt 1 := ⟨_, rfl⟩
        have fw10 : w10.toInt = x4_5.toInt + (1) := by rw [ew10]; exact i_addk (by decide) (by omega) (by omega)
        refine x_iinc (v := w10) C 1 [(4, .int w10), (3, .int w9), (0, .ref (z + 99)), (1, .ref (z + b)), (2, .int a2)] dX8_worthOfAll_33 rfl ew10.symm (by decide) rfl ?_
        refine x_goto C 5 dX8_worthOfAll_36 (by decide) ?_
        exact ih5 (7 - w10.toInt).toNat (by omega) u4 hTu4 w10 (by omega) (by omega) w9 rfl
  refine x_iconst (v := (0 : Int32)) C dX8_worthOfAll_0 (by decide) ?_
  refine x_istore_n C [(3, .int (0 : Int32)), (0, .ref (z + 99)), (1, .ref (z + b)), (2, .int a2)] dX8_worthOfAll_1 rfl (by decide) rfl ?_
  refine x_iconst (v := (0 : Int32)) C dX8_worthOfAll_2 (by decide) ?_
  refine x_istore C [(4, .int (0 : Int32)), (3, .int (0 : Int32)), (0, .ref (z + 99)), (1, .ref (z + b)), (2, .int a2)] dX8_worthOfAll_3 (by decide) rfl ?_
  have l_0 : (0 : Int32).toInt = 0 := by decide
  exact J5 (7 - (0 : Int32).toInt).toNat uu0 hTy0 (0 : Int32) (by omega) (by omega) (0 : Int32) rfl
set_option maxRecDepth 20000 in
set_option maxHeartbeats 2000000 in
theorem tc_X8_bestToLearn {G : GT} {l : Launch} {z n : Nat} {ln : Int} (uu0 : HpT) (hTz0 : TyC G z ln uu0) (b : Nat) (hb : BrO b) (a2 : Int32) : Mp G l z yX8_bestToLearn cX8_bestToLearn 7 (some .int) { frames := 5, cells := 0, slots := 0, locals := 115 } [.ref (z + 99), .ref (z + b), .int a2] uu0 n (fun r v => TC G z ln uu0 v ∧ ∃ x : Int32, r = some (.int x) ∧ True) := by
  refine mp_of (by decide +kernel) (Nat.le_of_ble_eq_true rfl) ?_
  intro p e s m below meth c C hr hlk hnm
  have hbb_b : b = 112 ∨ b = 119 := hb
  have hTy0 : TC G z ln uu0 uu0 := TC.rf hTz0
  have J8 : ∀ (d : Nat) (u_8 : HpT) (hT_8 : TC G z ln uu0 u_8) (x5_8 : Int32) (hl_x5_8 : 0 ≤ x5_8.toInt) (hh_x5_8 : x5_8.toInt ≤ 8) (x4_8 : Int32) (hl_x4_8 : -1 ≤ x4_8.toInt) (x3_8 : Int32) (hl_x3_8 : -1 ≤ x3_8.toInt) (hh_x3_8 : x3_8.toInt ≤ 7) (hd : d = (9 - x5_8.toInt).toNat), Xw p l e ({ frames := 5, cells := 0, slots := 0, locals := 115 } : Room) s m ([.ref (z + 99), .ref (z + b), .int a2] : List Value).toArray below meth c G z 7 (MQ below (Qp G z n (fun r v => TC G z ln uu0 v ∧ ∃ x : Int32, r = some (.int x) ∧ True)) ([.ref (z + 99), .ref (z + b), .int a2] : List Value).toArray s 0 0 (zA z)) 8 [(5, .int x5_8), (4, .int x4_8), (3, .int x3_8), (0, .ref (z + 99)), (1, .ref (z + b)), (2, .int a2)] [] u_8 n 0 0 := by
    intro d
    induction d using Nat.strongRecOn with
    | _ d ih8 =>
      intro u_8 hT_8 x5_8 hl_x5_8 hh_x5_8 x4_8 hl_x4_8 x3_8 hl_x3_8 hh_x3_8 hd8
      have J57 : ∀ (u_57 : HpT) (hT_57 : TC G z ln uu0 u_57) (x6_57 : Int32) (x4_57 : Int32) (hl_x4_57 : -1 ≤ x4_57.toInt) (x3_57 : Int32) (hl_x3_57 : -1 ≤ x3_57.toInt) (hh_x3_57 : x3_57.toInt ≤ 7) (nl_x5_8_57 : 0 ≤ x5_8.toInt) (nh_x5_8_57 : x5_8.toInt ≤ 7), Xw p l e ({ frames := 5, cells := 0, slots := 0, locals := 115 } : Room) s m ([.ref (z + 99), .ref (z + b), .int a2] : List Value).toArray below meth c G z 7 (MQ below (Qp G z n (fun r v => TC G z ln uu0 v ∧ ∃ x : Int32, r = some (.int x) ∧ True)) ([.ref (z + 99), .ref (z + b), .int a2] : List Value).toArray s 0 0 (zA z)) 57 [(6, .int x6_57), (5, .int x5_8), (4, .int x4_57), (3, .int x3_57), (0, .ref (z + 99)), (1, .ref (z + b)), (2, .int a2)] [] u_57 n 0 0 := by
        intro u_57 hT_57 x6_57 x4_57 hl_x4_57 x3_57 hl_x3_57 hh_x3_57 nl_x5_8_57 nh_x5_8_57
        have l_1 : (1 : Int32).toInt = 1 := by decide
        obtain ⟨w1, ew1⟩ : ∃ w : Int32, w = x5_8 + Int32.ofInt 1 := ⟨_, rfl⟩
        have fw1 : w1.toInt = x5_8.toInt + (1) := by rw [ew1]; exact i_addk (by decide) (by omega) (by omega)
        refine x_iinc (v := w1) C 1 [(5, .int w1), (6, .int x6_57), (4, .int x4_57), (3, .int x3_57), (0, .ref (z + 99)), (1, .ref (z + b)), (2, .int a2)] dX8_bestToLearn_57 rfl ew1.symm (by decide) rfl ?_
        refine x_goto C 8 dX8_bestToLearn_60 (by decide) ?_
        refine x_mv (lo2 := [(5, .int w1), (4, .int x4_57), (3, .int x3_57), (0, .ref (z + 99)), (1, .ref (z + b)), (2, .int a2)]) [0, 2, 3, 4, 5, 6] rfl ?_
        exact ih8 (9 - w1.toInt).toNat (by omega) u_57 hT_57 w1 (by omega) (by omega) x4_57 (by omega) x3_57 (by omega) (by omega) rfl
      have J41 : ∀ (u_41 : HpT) (hT_41 : TC G z ln uu0 u_41) (y0_41 : Int32) (nl_x5_8_41 : 0 ≤ x5_8.toInt) (nh_x5_8_41 : x5_8.toInt ≤ 7), Xw p l e ({ frames := 5, cells := 0, slots := 0, locals := 115 } : Room) s m ([.ref (z + 99), .ref (z + b), .int a2] : List Value).toArray below meth c G z 7 (MQ below (Qp G z n (fun r v => TC G z ln uu0 v ∧ ∃ x : Int32, r = some (.int x) ∧ True)) ([.ref (z + 99), .ref (z + b), .int a2] : List Value).toArray s 0 0 (zA z)) 41 [(5, .int x5_8), (4, .int x4_8), (3, .int x3_8), (0, .ref (z + 99)), (1, .ref (z + b)), (2, .int a2)] [.int y0_41] u_41 n 0 0 := by
        intro u_41 hT_41 y0_41 nl_x5_8_41 nh_x5_8_41
        refine x_istore C [(6, .int y0_41), (5, .int x5_8), (4, .int x4_8), (3, .int x3_8), (0, .ref (z + 99)), (1, .ref (z + b)), (2, .int a2)] dX8_bestToLearn_41 (by decide) rfl ?_
        refine x_iload C 0 dX8_bestToLearn_43 rfl ?_
        refine x_iload C 2 dX8_bestToLearn_45 rfl ?_
        refine x_icmp_le C 57 dX8_bestToLearn_47 (by decide) (fun q2 => ?_) (fun q2 => ?_)
        · have rq2 : y0_41.toInt ≤ x4_8.toInt := by rw [Int32.le_iff_toInt_le] at q2; omega
          exact J57 u_41 hT_41 y0_41 x4_8 (by omega) x3_8 (by omega) (by omega) (by omega) (by omega)
        · have rq2 : y0_41.toInt > x4_8.toInt := by rw [Int32.le_iff_toInt_le] at q2; omega
          refine x_iload C 0 dX8_bestToLearn_50 rfl ?_
          refine x_istore C [(4, .int y0_41), (6, .int y0_41), (5, .int x5_8), (3, .int x3_8), (0, .ref (z + 99)), (1, .ref (z + b)), (2, .int a2)] dX8_bestToLearn_52 (by decide) rfl ?_
          refine x_iload C 2 dX8_bestToLearn_54 rfl ?_
          refine x_istore_n C [(3, .int x5_8), (4, .int y0_41), (6, .int y0_41), (5, .int x5_8), (0, .ref (z + 99)), (1, .ref (z + b)), (2, .int a2)] dX8_bestToLearn_56 rfl (by decide) rfl ?_
          refine x_mv (lo2 := [(6, .int y0_41), (5, .int x5_8), (4, .int y0_41), (3, .int x5_8), (0, .ref (z + 99)), (1, .ref (z + b)), (2, .int a2)]) [2, 3, 1, 0, 4, 5, 6] rfl ?_
          exact J57 u_41 hT_41 y0_41 y0_41 (by omega) x5_8 (by omega) (by omega) (by omega) (by omega)
      refine x_iload C 0 dX8_bestToLearn_8 rfl ?_
      refine x_aload_n C 4 dX8_bestToLearn_10 rfl rfl ?_
      obtain ⟨c3_0, c3_1, c3_2, c3_3, hc3, qc3_0, qc3_1, qc3_2, qc3_3⟩ := ty_br hT_8 hb
      refine gfX8_25 C dX8_bestToLearn_11 hc3 rfl ?_
      refine x_icmp_ge C 63 dX8_bestToLearn_14 (by decide) (fun q4 => ?_) (fun q4 => ?_)
      · have rq4 : x5_8.toInt ≥ c3_2.toInt := by rw [Int32.le_iff_toInt_le] at q4; omega
        refine x_iload_n C 2 dX8_bestToLearn_63 rfl rfl ?_
        exact x_iretP C hr hlk (Nat.le_refl _) (Nat.le_refl _) dX8_bestToLearn_64 ⟨hT_8, x3_8, rfl, trivial⟩
      · have rq4 : x5_8.toInt < c3_2.toInt := by rw [Int32.le_iff_toInt_le] at q4; omega
        refine x_iload_n C 5 dX8_bestToLearn_17 rfl rfl ?_
        refine x_iload C 0 dX8_bestToLearn_18 rfl ?_
        refine x_callSNP C cl_X9_holds knX8_63 (As := [.int a2, .int x5_8]) (rest := []) (tc_X9_holds u_8 hT_8.1 a2 x5_8) rfl rfl (Nat.le_of_ble_eq_true rfl) ⟨Nat.le_of_ble_eq_true rfl, Nat.le_of_ble_eq_true rfl⟩ ⟨Nat.le_of_ble_eq_true rfl, Nat.le_of_ble_eq_true rfl⟩ dX8_bestToLearn_20 ?_
        rintro _ _ ⟨rfl, r5, rfl, gr5⟩
        refine x_norm (st2 := [.int r5]) rfl rfl rfl rfl rfl ?_
        have l_0 : (0 : Int32).toInt = 0 := by decide
        refine x_if_eq C 30 dX8_bestToLearn_23 (by decide) (fun q7 => ?_) (fun q7 => ?_)
        · have rq7 : r5.toInt = (0 : Int32).toInt := by rw [i_eq_iff] at q7; omega
          refine x_aload_n C 3 dX8_bestToLearn_30 rfl rfl ?_
          refine x_aload_n C 4 dX8_bestToLearn_31 rfl rfl ?_
          refine x_iload_n C 5 dX8_bestToLearn_32 rfl rfl ?_
          refine x_iconst (v := (1 : Int32)) C dX8_bestToLearn_33 (by decide) ?_
          refine x_iload C 0 dX8_bestToLearn_34 rfl ?_
          refine x_ishl C dX8_bestToLearn_36 ?_
          have l_1 : (1 : Int32).toInt = 1 := by decide
          refine x_top (fun w8 ew8 => ?_)
          refine x_ior C dX8_bestToLearn_37 ?_
          refine x_top (fun w9 ew9 => ?_)
          obtain ⟨c11_1, c11_2, c11_3, hc11⟩ := ty_99 hT_8
          refine x_callVP C cl_X8_worthOfAll kmX8_67 (ci := 7) (b := 99) (As := [.ref (z + b), .int w9]) (rest := []) rfl hc11 (tc_X8_worthOfAll u_8 hT_8.1 b hb w9) rfl rfl (Nat.le_of_ble_eq_true rfl) ⟨Nat.le_of_ble_eq_true rfl, Nat.le_of_ble_eq_true rfl⟩ ⟨Nat.le_of_ble_eq_true rfl, Nat.le_of_ble_eq_true rfl⟩ dX8_bestToLearn_38 ?_
          rintro _ u12 ⟨ju12, r10, rfl, gr10⟩
          have hTu12 := hT_8.tr ju12
          refine x_norm (st2 := [.int r10]) rfl rfl rfl rfl rfl ?_
          exact J41 u12 hTu12 r10 (by omega) (by omega)
        · have rq7 : ¬ r5.toInt = (0 : Int32).toInt := by rw [i_eq_iff] at q7; omega
          refine x_iconst (v := (-1 : Int32)) C dX8_bestToLearn_26 (by decide) ?_
          refine x_goto C 41 dX8_bestToLearn_27 (by decide) ?_
          have l_m1 : (-1 : Int32).toInt = -1 := by decide
          exact J41 u_8 hT_8 (-1 : Int32) (by omega) (by omega)
  refine x_iconst (v := (-1 : Int32)) C dX8_bestToLearn_0 (by decide) ?_
  refine x_istore_n C [(3, .int (-1 : Int32)), (0, .ref (z + 99)), (1, .ref (z + b)), (2, .int a2)] dX8_bestToLearn_1 rfl (by decide) rfl ?_
  refine x_iconst (v := (-1 : Int32)) C dX8_bestToLearn_2 (by decide) ?_
  refine x_istore C [(4, .int (-1 : Int32)), (3, .int (-1 : Int32)), (0, .ref (z + 99)), (1, .ref (z + b)), (2, .int a2)] dX8_bestToLearn_3 (by decide) rfl ?_
  refine x_iconst (v := (0 : Int32)) C dX8_bestToLearn_5 (by decide) ?_
  refine x_istore C [(5, .int (0 : Int32)), (4, .int (-1 : Int32)), (3, .int (-1 : Int32)), (0, .ref (z + 99)), (1, .ref (z + b)), (2, .int a2)] dX8_bestToLearn_6 (by decide) rfl ?_
  have l_0 : (0 : Int32).toInt = 0 := by decide
  have l_m1 : (-1 : Int32).toInt = -1 := by decide
  exact J8 (9 - (0 : Int32).toInt).toNat uu0 hTy0 (0 : Int32) (by omega) (by omega) (-1 : Int32) (by omega) (-1 : Int32) (by omega) (by omega) rfl
set_option maxRecDepth 20000 in
set_option maxHeartbeats 2000000 in
theorem tc_X5_fill {G : GT} {l : Launch} {z n : Nat} {ln : Int} (uu0 : HpT) (hTz0 : TyC G z ln uu0) (b : Nat) (hb : BrO b) : Mp G l z yX5_fill cX5_fill 5 none { frames := 4, cells := 0, slots := 0, locals := 91 } [.ref (z + 101), .ref (z + b), .ref (z + 3), .ref (z + 99)] uu0 n (fun r v => TC G z ln uu0 v ∧ r = none) := by
  refine mp_of (by decide +kernel) (Nat.le_of_ble_eq_true rfl) ?_
  intro p e s m below meth c C hr hlk hnm
  have hbb_b : b = 112 ∨ b = 119 := hb
  have hTy0 : TC G z ln uu0 uu0 := TC.rf hTz0
  have J8 : ∀ (d : Nat) (u_8 : HpT) (hT_8 : TC G z ln uu0 u_8) (x4_8 : Int32) (hl_x4_8 : 0 ≤ x4_8.toInt) (hh_x4_8 : x4_8.toInt ≤ 6) (i0_8 : (szOf u_8).toInt ≤ x4_8.toInt) (hd : d = (7 - x4_8.toInt).toNat), Xw p l e ({ frames := 4, cells := 0, slots := 0, locals := 91 } : Room) s m ([.ref (z + 101), .ref (z + b), .ref (z + 3), .ref (z + 99)] : List Value).toArray below meth c G z 5 (MQ below (Qp G z n (fun r v => TC G z ln uu0 v ∧ r = none)) ([.ref (z + 101), .ref (z + b), .ref (z + 3), .ref (z + 99)] : List Value).toArray s 0 0 (zA z)) 8 [(4, .int x4_8), (0, .ref (z + 101)), (1, .ref (z + b)), (2, .ref (z + 3)), (3, .ref (z + 99))] [] u_8 n 0 0 := by
    intro d
    induction d using Nat.strongRecOn with
    | _ d ih8 =>
      intro u_8 hT_8 x4_8 hl_x4_8 hh_x4_8 i0_8 hd8
      obtain ⟨c1_4, c1_5, c1_6, hc1, qc1_0, qc1_1⟩ := ty_101 hT_8
      have gh2 : (szOf u_8).toInt = c1_4.toInt := by rw [szOf_eq hc1]
      have J101 : ∀ (u_101 : HpT) (hT_101 : TC G z ln uu0 u_101) (nl_x4_8_101 : 0 ≤ x4_8.toInt) (nh_x4_8_101 : x4_8.toInt ≤ 5) (i0_101 : (szOf u_101).toInt ≤ x4_8.toInt + 1), Xw p l e ({ frames := 4, cells := 0, slots := 0, locals := 91 } : Room) s m ([.ref (z + 101), .ref (z + b), .ref (z + 3), .ref (z + 99)] : List Value).toArray below meth c G z 5 (MQ below (Qp G z n (fun r v => TC G z ln uu0 v ∧ r = none)) ([.ref (z + 101), .ref (z + b), .ref (z + 3), .ref (z + 99)] : List Value).toArray s 0 0 (zA z)) 101 [(4, .int x4_8), (0, .ref (z + 101)), (1, .ref (z + b)), (2, .ref (z + 3)), (3, .ref (z + 99))] [] u_101 n 0 0 := by
        intro u_101 hT_101 nl_x4_8_101 nh_x4_8_101 i0_101
        obtain ⟨c3_4, c3_5, c3_6, hc3, qc3_0, qc3_1⟩ := ty_101 hT_101
        have gh4 : (szOf u_101).toInt = c3_4.toInt := by rw [szOf_eq hc3]
        have l_1 : (1 : Int32).toInt = 1 := by decide
        obtain ⟨w5, ew5⟩ : ∃ w : Int32, w = x4_8 + Int32.ofInt 1 := ⟨_, rfl⟩
        have fw5 : w5.toInt = x4_8.toInt + (1) := by rw [ew5]; exact i_addk (by decide) (by omega) (by omega)
        refine x_iinc (v := w5) C 0 [(4, .int w5), (0, .ref (z + 101)), (1, .ref (z + b)), (2, .ref (z + 3)), (3, .ref (z + 99))] dX5_fill_101 rfl ew5.symm (by decide) rfl ?_
        refine x_goto C 8 dX5_fill_104 (by decide) ?_
        have gh6 : (szOf u_101).toInt = c3_4.toInt := by rw [szOf_eq hc3]
        exact ih8 (7 - w5.toInt).toNat (by omega) u_101 hT_101 w5 (by omega) (by omega) (by omega) rfl
      refine x_iload C 0 dX5_fill_8 rfl ?_
      refine x_aload_n C 2 dX5_fill_10 rfl rfl ?_
      obtain ⟨c7_0, c7_1, c7_2, c7_3, hc7, qc7_0, qc7_1, qc7_2, qc7_3⟩ := ty_br hT_8 hb
      refine gfX5_34 C dX5_fill_11 hc7 rfl ?_
      refine x_icmp_ge C 107 dX5_fill_14 (by decide) (fun q8 => ?_) (fun q8 => ?_)
      · have rq8 : x4_8.toInt ≥ c7_3.toInt := by rw [Int32.le_iff_toInt_le] at q8; omega
        exact x_vretP C hr hlk (Nat.le_refl _) (Nat.le_refl _) dX5_fill_107 ⟨hT_8, rfl⟩
      · have rq8 : x4_8.toInt < c7_3.toInt := by rw [Int32.le_iff_toInt_le] at q8; omega
        refine x_aload_n C 3 dX5_fill_17 rfl rfl ?_
        obtain ⟨c9_0, c9_1, c9_2, c9_3, c9_4, c9_5, c9_6, c9_7, c9_8, c9_9, hc9⟩ := ty_ev hT_8 (Or.inl rfl)
        refine gfX5_39 C dX5_fill_18 hc9 rfl ?_
        refine x_iload C 0 dX5_fill_21 rfl ?_
        refine x_callSNP C cl_X9_holds knX5_44 (As := [.int c9_7, .int x4_8]) (rest := []) (tc_X9_holds u_8 hT_8.1 c9_7 x4_8) rfl rfl (Nat.le_of_ble_eq_true rfl) ⟨Nat.le_of_ble_eq_true rfl, Nat.le_of_ble_eq_true rfl⟩ ⟨Nat.le_of_ble_eq_true rfl, Nat.le_of_ble_eq_true rfl⟩ dX5_fill_23 ?_
        rintro _ _ ⟨rfl, r10, rfl, gr10⟩
        refine x_norm (st2 := [.int r10]) rfl rfl rfl rfl rfl ?_
        have l_0 : (0 : Int32).toInt = 0 := by decide
        refine x_if_eq C 101 dX5_fill_26 (by decide) (fun q12 => ?_) (fun q12 => ?_)
        · have rq12 : r10.toInt = (0 : Int32).toInt := by rw [i_eq_iff] at q12; omega
          have gh13 : (szOf u_8).toInt = c1_4.toInt := by rw [szOf_eq hc1]
          exact J101 u_8 hT_8 (by omega) (by omega) (by omega)
        · have rq12 : ¬ r10.toInt = (0 : Int32).toInt := by rw [i_eq_iff] at q12; omega
          refine x_aload_n C 4 dX5_fill_29 rfl rfl ?_
          refine x_aload_n C 2 dX5_fill_30 rfl rfl ?_
          refine x_iload C 0 dX5_fill_31 rfl ?_
          refine x_aload_n C 3 dX5_fill_33 rfl rfl ?_
          refine gfX5_48 C dX5_fill_34 hc9 rfl ?_
          obtain ⟨c14_1, c14_2, c14_3, hc14⟩ := ty_99 hT_8
          refine x_callVP C cl_X8_tryWith kmX5_51 (ci := 7) (b := 99) (As := [.ref (z + b), .int x4_8, .int c9_3]) (rest := []) rfl hc14 (tc_X8_tryWith u_8 hT_8.1 b hb x4_8 c9_3) rfl rfl (Nat.le_of_ble_eq_true rfl) ⟨Nat.le_of_ble_eq_true rfl, Nat.le_of_ble_eq_true rfl⟩ ⟨Nat.le_of_ble_eq_true rfl, Nat.le_of_ble_eq_true rfl⟩ dX5_fill_37 ?_
          rintro _ u15 ⟨ju15, rfl⟩
          have hTu15 := hT_8.tr ju15.1
          refine x_norm (st2 := []) rfl rfl rfl rfl rfl ?_
          refine x_aload_n C 1 dX5_fill_40 rfl rfl ?_
          have k16 := (ju15.2 101 (by omega) (by omega)).trans hc1
          refine gfX5_15 C dX5_fill_41 k16 rfl ?_
          refine x_iload C 0 dX5_fill_44 rfl ?_
          refine x_aload_n C 4 dX5_fill_46 rfl rfl ?_
          obtain ⟨c17_1, c17_2, c17_3, hc17⟩ := ty_99 hTu15
          refine gfX5_57 C dX5_fill_47 hc17 rfl ?_
          obtain ⟨f18, hf18⟩ := ty_103 hTu15
          refine x_iast C hf18 (i_in (by omega) (by omega)) dX5_fill_50 ?_
          obtain ⟨u19, eu19⟩ : ∃ w : HpT, w = hup u15 103 (aI G 6 (upd f18 x4_8.toNatClampNeg c17_1)) := ⟨_, rfl⟩
          refine x_heap (u2 := u19) eu19.symm ?_
          have hTu19 : TC G z ln uu0 u19 := by rw [eu19]; exact hTu15.up_103
          have hn24 := (congrFun eu19 103).trans (hup_s _ _ _)
          generalize (upd f18 x4_8.toNatClampNeg c17_1) = f25 at *
          refine x_aload_n C 1 dX5_fill_51 rfl rfl ?_
          have k26 := (congrFun eu19 101).trans (hup_n' (by omega) k16)
          refine gfX5_18 C dX5_fill_52 k26 rfl ?_
          refine x_iload C 0 dX5_fill_55 rfl ?_
          refine x_aload_n C 2 dX5_fill_57 rfl rfl ?_
          refine x_aload_n C 4 dX5_fill_58 rfl rfl ?_
          have k27 := (congrFun eu19 99).trans (hup_n' (by omega) hc17)
          refine gfX5_57 C dX5_fill_59 k27 rfl ?_
          have k29 := (ju15.2 b (by omega) (by omega)).trans hc7
          have k30 := (ju15.2 b (by omega) (by omega)).trans hc7
          have k31 := (congrFun eu19 b).trans (hup_n' (by omega) k30)
          refine x_callVP C cl_X1_payFor kmX5_59 (ci := 0) (b := b) (As := [.int c17_1]) (rest := [.int x4_8, .ref (z + 104)]) rfl k31 (tc_X1_payFor u19 hTu19.1 b hb c17_1) rfl rfl (Nat.le_of_ble_eq_true rfl) ⟨Nat.le_of_ble_eq_true rfl, Nat.le_of_ble_eq_true rfl⟩ ⟨Nat.le_of_ble_eq_true rfl, Nat.le_of_ble_eq_true rfl⟩ dX5_fill_62 ?_
          rintro _ _ ⟨rfl, r28, rfl, gr28⟩
          refine x_norm (st2 := [.int r28, .int x4_8, .ref (z + 104)]) rfl rfl rfl rfl rfl ?_
          obtain ⟨f33, hf33⟩ := ty_104 hTu19
          refine x_iast C hf33 (i_in (by omega) (by omega)) dX5_fill_65 ?_
          obtain ⟨u34, eu34⟩ : ∃ w : HpT, w = hup u19 104 (aI G 6 (upd f33 x4_8.toNatClampNeg r28)) := ⟨_, rfl⟩
          refine x_heap (u2 := u34) eu34.symm ?_
          have hTu34 : TC G z ln uu0 u34 := by rw [eu34]; exact hTu19.up_104
          have hn40 := (congrFun eu34 104).trans (hup_s _ _ _)
          generalize (upd f33 x4_8.toNatClampNeg r28) = f41 at *
          refine x_aload_n C 1 dX5_fill_66 rfl rfl ?_
          have k42 := (congrFun eu34 101).trans (hup_n' (by omega) k26)
          refine gfX5_21 C dX5_fill_67 k42 rfl ?_
          refine x_iload C 0 dX5_fill_70 rfl ?_
          refine x_aload_n C 3 dX5_fill_72 rfl rfl ?_
          refine x_aload_n C 2 dX5_fill_73 rfl rfl ?_
          refine x_iload C 0 dX5_fill_74 rfl ?_
          have k44 := (ju15.2 3 (by omega) (by omega)).trans hc9
          have k45 := (ju15.2 3 (by omega) (by omega)).trans hc9
          have k46 := (ju15.2 3 (by omega) (by omega)).trans hc9
          have k47 := (congrFun eu19 3).trans (hup_n' (by omega) k46)
          have k48 := (congrFun eu34 3).trans (hup_n' (by omega) k47)
          refine x_callVP C cl_X3_patienceOf kmX5_63 (ci := 2) (b := 3) (As := [.ref (z + b), .int x4_8]) (rest := [.int x4_8, .ref (z + 105)]) rfl k48 (tc_X3_patienceOf u34 hTu34.1 b hb x4_8) rfl rfl (Nat.le_of_ble_eq_true rfl) ⟨Nat.le_of_ble_eq_true rfl, Nat.le_of_ble_eq_true rfl⟩ ⟨Nat.le_of_ble_eq_true rfl, Nat.le_of_ble_eq_true rfl⟩ dX5_fill_76 ?_
          rintro _ _ ⟨rfl, r43, rfl, gr43⟩
          refine x_norm (st2 := [.int r43, .int x4_8, .ref (z + 105)]) rfl rfl rfl rfl rfl ?_
          obtain ⟨f50, hf50⟩ := ty_105 hTu34
          refine x_iast C hf50 (i_in (by omega) (by omega)) dX5_fill_79 ?_
          obtain ⟨u51, eu51⟩ : ∃ w : HpT, w = hup u34 105 (aI G 6 (upd f50 x4_8.toNatClampNeg r43)) := ⟨_, rfl⟩
          refine x_heap (u2 := u51) eu51.symm ?_
          have hTu51 : TC G z ln uu0 u51 := by rw [eu51]; exact hTu34.up_105
          have hn58 := (congrFun eu51 105).trans (hup_s _ _ _)
          generalize (upd f50 x4_8.toNatClampNeg r43) = f59 at *
          refine x_aload_n C 1 dX5_fill_80 rfl rfl ?_
          have k60 := (congrFun eu51 101).trans (hup_n' (by omega) k42)
          refine gfX5_9 C dX5_fill_81 k60 rfl ?_
          refine x_aload_n C 1 dX5_fill_84 rfl rfl ?_
          refine gfX5_24 C dX5_fill_85 k60 rfl ?_
          refine x_iload C 0 dX5_fill_88 rfl ?_
          obtain ⟨f61, hf61, qf61_0⟩ := ty_102 hTu51
          refine x_iast C hf61 (i_in (by omega) (by omega)) dX5_fill_90 ?_
          obtain ⟨u62, eu62⟩ : ∃ w : HpT, w = hup u51 102 (aI G 6 (upd f61 c1_4.toNatClampNeg x4_8)) := ⟨_, rfl⟩
          refine x_heap (u2 := u62) eu62.symm ?_
          have hTu62 : TC G z ln uu0 u62 := by rw [eu62]; exact hTu51.up_102 (fun j hj => i_upd (qf61_0) (by omega) j hj)
          have hn70 := (congrFun eu62 102).trans (hup_s _ _ _)
          have qf71_0 : ∀ i, i < 6 → 0 ≤ ((upd f61 c1_4.toNatClampNeg x4_8) i).toInt ∧ ((upd f61 c1_4.toNatClampNeg x4_8) i).toInt ≤ 5 := fun j hj => i_upd (qf61_0) (by omega) j hj
          generalize (upd f61 c1_4.toNatClampNeg x4_8) = f71 at *
          refine x_aload_n C 1 dX5_fill_91 rfl rfl ?_
          refine x_dup C dX5_fill_92 rfl ?_
          have k72 := (congrFun eu62 101).trans (hup_n' (by omega) k60)
          refine gfX5_24 C dX5_fill_93 k72 rfl ?_
          refine x_iconst (v := (1 : Int32)) C dX5_fill_96 (by decide) ?_
          refine x_iadd C dX5_fill_97 ?_
          have l_1 : (1 : Int32).toInt = 1 := by decide
          refine x_top (fun w73 ew73 => ?_)
          have fw73_0 : w73.toInt = c1_4.toInt + (1 : Int32).toInt := by rw [ew73]; exact i_add (by omega) (by omega)
          obtain ⟨u74, eu74⟩ : ∃ w : HpT, w = hup u62 101 (.inr (4, [.ref (z + 102), .ref (z + 103), .ref (z + 104), .ref (z + 105), .int w73, .int c1_5, .int c1_6])) := ⟨_, rfl⟩
          refine pfX5_24 C dX5_fill_98 k72 (Nat.le_of_ble_eq_true rfl) rfl eu74.symm ?_
          have hTu74 : TC G z ln uu0 u74 := by rw [eu74]; exact hTu62.up_101 (by omega)
          have hn82 := (congrFun eu74 101).trans (hup_s _ _ _)
          have gh83 : (szOf u74).toInt = w73.toInt := by rw [szOf_eq hn82]
          exact J101 u74 hTu74 (by omega) (by omega) (by omega)
  refine x_aload_n C 0 dX5_fill_0 rfl rfl ?_
  refine x_iconst (v := (0 : Int32)) C dX5_fill_1 (by decide) ?_
  obtain ⟨c84_4, c84_5, c84_6, hc84, qc84_0, qc84_1⟩ := ty_101 hTy0
  have l_0 : (0 : Int32).toInt = 0 := by decide
  obtain ⟨u85, eu85⟩ : ∃ w : HpT, w = hup uu0 101 (.inr (4, [.ref (z + 102), .ref (z + 103), .ref (z + 104), .ref (z + 105), .int (0 : Int32), .int c84_5, .int c84_6])) := ⟨_, rfl⟩
  refine pfX5_24 C dX5_fill_2 hc84 (Nat.le_of_ble_eq_true rfl) rfl eu85.symm ?_
  have hTu85 : TC G z ln uu0 u85 := by rw [eu85]; exact hTy0.up_101 (by omega)
  have hn86 := (congrFun eu85 101).trans (hup_s _ _ _)
  refine x_iconst (v := (0 : Int32)) C dX5_fill_5 (by decide) ?_
  refine x_istore C [(4, .int (0 : Int32)), (0, .ref (z + 101)), (1, .ref (z + b)), (2, .ref (z + 3)), (3, .ref (z + 99))] dX5_fill_6 (by decide) rfl ?_
  have gh87 : (szOf u85).toInt = (0 : Int32).toInt := by rw [szOf_eq hn86]
  exact J8 (7 - (0 : Int32).toInt).toNat u85 hTu85 (0 : Int32) (by omega) (by omega) (by omega) rfl
set_option maxRecDepth 20000 in
set_option maxHeartbeats 2000000 in
theorem tc_X5_payOfOrder {G : GT} {l : Launch} {z n : Nat} {ln : Int} (uu0 : HpT) (hTz0 : TyC G z ln uu0) : Mp G l z yX5_payOfOrder cX5_payOfOrder 5 (some .int) { frames := 0, cells := 0, slots := 0, locals := 0 } [.ref (z + 101)] uu0 n (fun r v => uu0 = v ∧ ∃ x : Int32, r = some (.int x) ∧ True) := by
  refine mp_of (by decide +kernel) (Nat.le_of_ble_eq_true rfl) ?_
  intro p e s m below meth c C hr hlk hnm
  have hTy0 : TC G z ln uu0 uu0 := TC.rf hTz0
  have J6 : ∀ (d : Nat) (x3_6 : Int32) (hl_x3_6 : 0 ≤ x3_6.toInt) (hh_x3_6 : x3_6.toInt ≤ 6) (x2_6 : Int32) (x1_6 : Int32) (hd : d = (7 - x3_6.toInt).toNat), Xw p l e ({ frames := 0, cells := 0, slots := 0, locals := 0 } : Room) s m ([.ref (z + 101)] : List Value).toArray below meth c G z 5 (MQ below (Qp G z n (fun r v => uu0 = v ∧ ∃ x : Int32, r = some (.int x) ∧ True)) ([.ref (z + 101)] : List Value).toArray s 0 0 (zA z)) 6 [(3, .int x3_6), (2, .int x2_6), (1, .int x1_6), (0, .ref (z + 101))] [] uu0 n 0 0 := by
    intro d
    induction d using Nat.strongRecOn with
    | _ d ih6 =>
      intro  x3_6 hl_x3_6 hh_x3_6 x2_6 x1_6 hd6
      have J53 : ∀ (x4_53 : Int32) (hl_x4_53 : 0 ≤ x4_53.toInt) (hh_x4_53 : x4_53.toInt ≤ 5) (x2_53 : Int32) (x1_53 : Int32) (nl_x3_6_53 : 0 ≤ x3_6.toInt) (nh_x3_6_53 : x3_6.toInt ≤ 5), Xw p l e ({ frames := 0, cells := 0, slots := 0, locals := 0 } : Room) s m ([.ref (z + 101)] : List Value).toArray below meth c G z 5 (MQ below (Qp G z n (fun r v => uu0 = v ∧ ∃ x : Int32, r = some (.int x) ∧ True)) ([.ref (z + 101)] : List Value).toArray s 0 0 (zA z)) 53 [(4, .int x4_53), (3, .int x3_6), (2, .int x2_53), (1, .int x1_53), (0, .ref (z + 101))] [] uu0 n 0 0 := by
        intro  x4_53 hl_x4_53 hh_x4_53 x2_53 x1_53 nl_x3_6_53 nh_x3_6_53
        have l_1 : (1 : Int32).toInt = 1 := by decide
        obtain ⟨w1, ew1⟩ : ∃ w : Int32, w = x3_6 + Int32.ofInt 1 := ⟨_, rfl⟩
        have fw1 : w1.toInt = x3_6.toInt + (1) := by rw [ew1]; exact i_addk (by decide) (by omega) (by omega)
        refine x_iinc (v := w1) C 1 [(3, .int w1), (4, .int x4_53), (2, .int x2_53), (1, .int x1_53), (0, .ref (z + 101))] dX5_payOfOrder_53 rfl ew1.symm (by decide) rfl ?_
        refine x_goto C 6 dX5_payOfOrder_56 (by decide) ?_
        refine x_mv (lo2 := [(3, .int w1), (2, .int x2_53), (1, .int x1_53), (0, .ref (z + 101))]) [0, 2, 3, 4] rfl ?_
        exact ih6 (7 - w1.toInt).toNat (by omega)  w1 (by omega) (by omega) x2_53 x1_53 rfl
      refine x_iload_n C 0 dX5_payOfOrder_6 rfl rfl ?_
      refine x_aload_n C 3 dX5_payOfOrder_7 rfl rfl ?_
      obtain ⟨c2_4, c2_5, c2_6, hc2, qc2_0, qc2_1⟩ := ty_101 hTy0
      refine gfX5_24 C dX5_payOfOrder_8 hc2 rfl ?_
      refine x_icmp_ge C 59 dX5_payOfOrder_11 (by decide) (fun q3 => ?_) (fun q3 => ?_)
      · have rq3 : x3_6.toInt ≥ c2_4.toInt := by rw [Int32.le_iff_toInt_le] at q3; omega
        refine x_iload_n C 1 dX5_payOfOrder_59 rfl rfl ?_
        exact x_iretP C hr hlk (Nat.le_refl _) (Nat.le_refl _) dX5_payOfOrder_60 ⟨rfl, x2_6, rfl, trivial⟩
      · have rq3 : x3_6.toInt < c2_4.toInt := by rw [Int32.le_iff_toInt_le] at q3; omega
        refine x_aload_n C 3 dX5_payOfOrder_14 rfl rfl ?_
        refine gfX5_9 C dX5_payOfOrder_15 hc2 rfl ?_
        refine x_iload_n C 0 dX5_payOfOrder_18 rfl rfl ?_
        obtain ⟨f4, hf4, qf4_0⟩ := ty_102 hTy0
        refine x_iald C hf4 (i_in (by omega) (by omega)) dX5_payOfOrder_19 ?_
        refine x_top (fun w5 ew5 => ?_)
        have fw5_0 : 0 ≤ w5.toInt ∧ w5.toInt ≤ 5 := by rw [ew5]; exact qf4_0 _ (i_cl (by omega) (by omega))
        refine x_istore C [(4, .int w5), (3, .int x3_6), (2, .int x2_6), (1, .int x1_6), (0, .ref (z + 101))] dX5_payOfOrder_20 (by decide) rfl ?_
        refine x_iload_n C 3 dX5_payOfOrder_22 rfl rfl ?_
        refine x_aload_n C 4 dX5_payOfOrder_23 rfl rfl ?_
        refine gfX5_21 C dX5_payOfOrder_24 hc2 rfl ?_
        refine x_iload C 0 dX5_payOfOrder_27 rfl ?_
        obtain ⟨f6, hf6⟩ := ty_105 hTy0
        refine x_iald C hf6 (i_in (by omega) (by omega)) dX5_payOfOrder_29 ?_
        refine x_top (fun w7 ew7 => ?_)
        refine x_icmp_gt C 53 dX5_payOfOrder_30 (by decide) (fun q8 => ?_) (fun q8 => ?_)
        · have rq8 : x1_6.toInt > w7.toInt := by rw [Int32.lt_iff_toInt_lt] at q8; omega
          exact J53  w5 (by omega) (by omega) x2_6 x1_6 (by omega) (by omega)
        · have rq8 : x1_6.toInt ≤ w7.toInt := by rw [Int32.lt_iff_toInt_lt] at q8; omega
          refine x_iload_n C 3 dX5_payOfOrder_33 rfl rfl ?_
          refine x_aload_n C 4 dX5_payOfOrder_34 rfl rfl ?_
          refine gfX5_15 C dX5_payOfOrder_35 hc2 rfl ?_
          refine x_iload C 0 dX5_payOfOrder_38 rfl ?_
          obtain ⟨f9, hf9⟩ := ty_103 hTy0
          refine x_iald C hf9 (i_in (by omega) (by omega)) dX5_payOfOrder_40 ?_
          refine x_top (fun w10 ew10 => ?_)
          refine x_iadd C dX5_payOfOrder_41 ?_
          refine x_top (fun w11 ew11 => ?_)
          refine x_istore_n C [(1, .int w11), (4, .int w5), (3, .int x3_6), (2, .int x2_6), (0, .ref (z + 101))] dX5_payOfOrder_42 rfl (by decide) rfl ?_
          refine x_iload_n C 3 dX5_payOfOrder_43 rfl rfl ?_
          refine x_aload_n C 4 dX5_payOfOrder_44 rfl rfl ?_
          refine gfX5_18 C dX5_payOfOrder_45 hc2 rfl ?_
          refine x_iload C 1 dX5_payOfOrder_48 rfl ?_
          obtain ⟨f12, hf12⟩ := ty_104 hTy0
          refine x_iald C hf12 (i_in (by omega) (by omega)) dX5_payOfOrder_50 ?_
          refine x_top (fun w13 ew13 => ?_)
          refine x_iadd C dX5_payOfOrder_51 ?_
          refine x_top (fun w14 ew14 => ?_)
          refine x_istore_n C [(2, .int w14), (1, .int w11), (4, .int w5), (3, .int x3_6), (0, .ref (z + 101))] dX5_payOfOrder_52 rfl (by decide) rfl ?_
          refine x_mv (lo2 := [(4, .int w5), (3, .int x3_6), (2, .int w14), (1, .int w11), (0, .ref (z + 101))]) [2, 3, 0, 1, 4] rfl ?_
          exact J53  w5 (by omega) (by omega) w14 w11 (by omega) (by omega)
  refine x_iconst (v := (0 : Int32)) C dX5_payOfOrder_0 (by decide) ?_
  refine x_istore_n C [(1, .int (0 : Int32)), (0, .ref (z + 101))] dX5_payOfOrder_1 rfl (by decide) rfl ?_
  refine x_iconst (v := (0 : Int32)) C dX5_payOfOrder_2 (by decide) ?_
  refine x_istore_n C [(2, .int (0 : Int32)), (1, .int (0 : Int32)), (0, .ref (z + 101))] dX5_payOfOrder_3 rfl (by decide) rfl ?_
  refine x_iconst (v := (0 : Int32)) C dX5_payOfOrder_4 (by decide) ?_
  refine x_istore_n C [(3, .int (0 : Int32)), (2, .int (0 : Int32)), (1, .int (0 : Int32)), (0, .ref (z + 101))] dX5_payOfOrder_5 rfl (by decide) rfl ?_
  have l_0 : (0 : Int32).toInt = 0 := by decide
  exact J6 (7 - (0 : Int32).toInt).toNat  (0 : Int32) (by omega) (by omega) (0 : Int32) (0 : Int32) rfl
set_option maxRecDepth 20000 in
set_option maxHeartbeats 2000000 in
theorem tc_X5_figuresOfOrder {G : GT} {l : Launch} {z n : Nat} {ln : Int} (uu0 : HpT) (hTz0 : TyC G z ln uu0) : Mp G l z yX5_figuresOfOrder cX5_figuresOfOrder 3 (some .int) { frames := 0, cells := 0, slots := 0, locals := 0 } [.ref (z + 101)] uu0 n (fun r v => uu0 = v ∧ ∃ x : Int32, r = some (.int x) ∧ True) := by
  refine mp_of (by decide +kernel) (Nat.le_of_ble_eq_true rfl) ?_
  intro p e s m below meth c C hr hlk hnm
  have hTy0 : TC G z ln uu0 uu0 := TC.rf hTz0
  have J4 : ∀ (d : Nat) (x2_4 : Int32) (hl_x2_4 : 0 ≤ x2_4.toInt) (hh_x2_4 : x2_4.toInt ≤ 6) (x1_4 : Int32) (hd : d = (7 - x2_4.toInt).toNat), Xw p l e ({ frames := 0, cells := 0, slots := 0, locals := 0 } : Room) s m ([.ref (z + 101)] : List Value).toArray below meth c G z 3 (MQ below (Qp G z n (fun r v => uu0 = v ∧ ∃ x : Int32, r = some (.int x) ∧ True)) ([.ref (z + 101)] : List Value).toArray s 0 0 (zA z)) 4 [(2, .int x2_4), (1, .int x1_4), (0, .ref (z + 101))] [] uu0 n 0 0 := by
    intro d
    induction d using Nat.strongRecOn with
    | _ d ih4 =>
      intro  x2_4 hl_x2_4 hh_x2_4 x1_4 hd4
      refine x_iload_n C 0 dX5_figuresOfOrder_4 rfl rfl ?_
      refine x_aload_n C 2 dX5_figuresOfOrder_5 rfl rfl ?_
      obtain ⟨c1_4, c1_5, c1_6, hc1, qc1_0, qc1_1⟩ := ty_101 hTy0
      refine gfX5_24 C dX5_figuresOfOrder_6 hc1 rfl ?_
      refine x_icmp_ge C 32 dX5_figuresOfOrder_9 (by decide) (fun q2 => ?_) (fun q2 => ?_)
      · have rq2 : x2_4.toInt ≥ c1_4.toInt := by rw [Int32.le_iff_toInt_le] at q2; omega
        refine x_iload_n C 1 dX5_figuresOfOrder_32 rfl rfl ?_
        exact x_iretP C hr hlk (Nat.le_refl _) (Nat.le_refl _) dX5_figuresOfOrder_33 ⟨rfl, x1_4, rfl, trivial⟩
      · have rq2 : x2_4.toInt < c1_4.toInt := by rw [Int32.le_iff_toInt_le] at q2; omega
        refine x_iload_n C 1 dX5_figuresOfOrder_12 rfl rfl ?_
        refine x_bipush (v := (10 : Int32)) C dX5_figuresOfOrder_13 (by decide) ?_
        refine x_imul C dX5_figuresOfOrder_15 ?_
        have l_10 : (10 : Int32).toInt = 10 := by decide
        refine x_top (fun w3 ew3 => ?_)
        refine x_aload_n C 2 dX5_figuresOfOrder_16 rfl rfl ?_
        refine gfX5_9 C dX5_figuresOfOrder_17 hc1 rfl ?_
        refine x_iload_n C 0 dX5_figuresOfOrder_20 rfl rfl ?_
        obtain ⟨f4, hf4, qf4_0⟩ := ty_102 hTy0
        refine x_iald C hf4 (i_in (by omega) (by omega)) dX5_figuresOfOrder_21 ?_
        refine x_top (fun w5 ew5 => ?_)
        have fw5_0 : 0 ≤ w5.toInt ∧ w5.toInt ≤ 5 := by rw [ew5]; exact qf4_0 _ (i_cl (by omega) (by omega))
        refine x_iadd C dX5_figuresOfOrder_22 ?_
        refine x_top (fun w6 ew6 => ?_)
        refine x_iconst (v := (1 : Int32)) C dX5_figuresOfOrder_23 (by decide) ?_
        refine x_iadd C dX5_figuresOfOrder_24 ?_
        have l_1 : (1 : Int32).toInt = 1 := by decide
        refine x_top (fun w7 ew7 => ?_)
        refine x_istore_n C [(1, .int w7), (2, .int x2_4), (0, .ref (z + 101))] dX5_figuresOfOrder_25 rfl (by decide) rfl ?_
        obtain ⟨w8, ew8⟩ : ∃ w : Int32, w = x2_4 + Int32.ofInt 1 := ⟨_, rfl⟩
        have fw8 : w8.toInt = x2_4.toInt + (1) := by rw [ew8]; exact i_addk (by decide) (by omega) (by omega)
        refine x_iinc (v := w8) C 1 [(2, .int w8), (1, .int w7), (0, .ref (z + 101))] dX5_figuresOfOrder_26 rfl ew8.symm (by decide) rfl ?_
        refine x_goto C 4 dX5_figuresOfOrder_29 (by decide) ?_
        exact ih4 (7 - w8.toInt).toNat (by omega)  w8 (by omega) (by omega) w7 rfl
  refine x_iconst (v := (0 : Int32)) C dX5_figuresOfOrder_0 (by decide) ?_
  refine x_istore_n C [(1, .int (0 : Int32)), (0, .ref (z + 101))] dX5_figuresOfOrder_1 rfl (by decide) rfl ?_
  refine x_iconst (v := (0 : Int32)) C dX5_figuresOfOrder_2 (by decide) ?_
  refine x_istore_n C [(2, .int (0 : Int32)), (1, .int (0 : Int32)), (0, .ref (z + 101))] dX5_figuresOfOrder_3 rfl (by decide) rfl ?_
  have l_0 : (0 : Int32).toInt = 0 := by decide
  exact J4 (7 - (0 : Int32).toInt).toNat  (0 : Int32) (by omega) (by omega) (0 : Int32) rfl
set_option maxRecDepth 20000 in
set_option maxHeartbeats 2000000 in
theorem tc_X5_swap {G : GT} {l : Launch} {z n : Nat} {ln : Int} (uu0 : HpT) (hTz0 : TyC G z ln uu0) (a1 : Int32) (a2 : Int32) (pre0 : 0 ≤ a1.toInt) (pre1 : a1.toInt ≤ 5) (pre2 : 0 ≤ a2.toInt) (pre3 : a2.toInt ≤ 5) : Mp G l z yX5_swap cX5_swap 4 none { frames := 0, cells := 0, slots := 0, locals := 0 } [.ref (z + 101), .int a1, .int a2] uu0 n (fun r v => TC G z ln uu0 v ∧ r = none) := by
  refine mp_of (by decide +kernel) (Nat.le_of_ble_eq_true rfl) ?_
  intro p e s m below meth c C hr hlk hnm
  have hTy0 : TC G z ln uu0 uu0 := TC.rf hTz0
  refine x_aload_n C 0 dX5_swap_0 rfl rfl ?_
  obtain ⟨c1_4, c1_5, c1_6, hc1, qc1_0, qc1_1⟩ := ty_101 hTy0
  refine gfX5_9 C dX5_swap_1 hc1 rfl ?_
  refine x_iload_n C 1 dX5_swap_4 rfl rfl ?_
  obtain ⟨f2, hf2, qf2_0⟩ := ty_102 hTy0
  refine x_iald C hf2 (i_in (by omega) (by omega)) dX5_swap_5 ?_
  refine x_top (fun w3 ew3 => ?_)
  have fw3_0 : 0 ≤ w3.toInt ∧ w3.toInt ≤ 5 := by rw [ew3]; exact qf2_0 _ (i_cl (by omega) (by omega))
  refine x_istore_n C [(3, .int w3), (0, .ref (z + 101)), (1, .int a1), (2, .int a2)] dX5_swap_6 rfl (by decide) rfl ?_
  refine x_aload_n C 1 dX5_swap_7 rfl rfl ?_
  refine gfX5_9 C dX5_swap_8 hc1 rfl ?_
  refine x_iload_n C 2 dX5_swap_11 rfl rfl ?_
  refine x_aload_n C 1 dX5_swap_12 rfl rfl ?_
  refine gfX5_9 C dX5_swap_13 hc1 rfl ?_
  refine x_iload_n C 3 dX5_swap_16 rfl rfl ?_
  refine x_iald C hf2 (i_in (by omega) (by omega)) dX5_swap_17 ?_
  refine x_top (fun w4 ew4 => ?_)
  have fw4_0 : 0 ≤ w4.toInt ∧ w4.toInt ≤ 5 := by rw [ew4]; exact qf2_0 _ (i_cl (by omega) (by omega))
  refine x_iast C hf2 (i_in (by omega) (by omega)) dX5_swap_18 ?_
  obtain ⟨u5, eu5⟩ : ∃ w : HpT, w = hup uu0 102 (aI G 6 (upd f2 a1.toNatClampNeg w4)) := ⟨_, rfl⟩
  refine x_heap (u2 := u5) eu5.symm ?_
  have hTu5 : TC G z ln uu0 u5 := by rw [eu5]; exact hTy0.up_102 (fun j hj => i_upd (qf2_0) (by omega) j hj)
  have hn7 := (congrFun eu5 102).trans (hup_s _ _ _)
  have qf8_0 : ∀ i, i < 6 → 0 ≤ ((upd f2 a1.toNatClampNeg w4) i).toInt ∧ ((upd f2 a1.toNatClampNeg w4) i).toInt ≤ 5 := fun j hj => i_upd (qf2_0) (by omega) j hj
  generalize (upd f2 a1.toNatClampNeg w4) = f8 at *
  refine x_aload_n C 1 dX5_swap_19 rfl rfl ?_
  have k9 := (congrFun eu5 101).trans (hup_n' (by omega) hc1)
  refine gfX5_9 C dX5_swap_20 k9 rfl ?_
  refine x_iload_n C 3 dX5_swap_23 rfl rfl ?_
  refine x_iload_n C 0 dX5_swap_24 rfl rfl ?_
  refine x_iast C hn7 (i_in (by omega) (by omega)) dX5_swap_25 ?_
  obtain ⟨u10, eu10⟩ : ∃ w : HpT, w = hup u5 102 (aI G 6 (upd f8 a2.toNatClampNeg w3)) := ⟨_, rfl⟩
  refine x_heap (u2 := u10) eu10.symm ?_
  have hTu10 : TC G z ln uu0 u10 := by rw [eu10]; exact hTu5.up_102 (fun j hj => i_upd (qf8_0) (by omega) j hj)
  have hn12 := (congrFun eu10 102).trans (hup_s _ _ _)
  have qf13_0 : ∀ i, i < 6 → 0 ≤ ((upd f8 a2.toNatClampNeg w3) i).toInt ∧ ((upd f8 a2.toNatClampNeg w3) i).toInt ≤ 5 := fun j hj => i_upd (qf8_0) (by omega) j hj
  generalize (upd f8 a2.toNatClampNeg w3) = f13 at *
  exact x_vretP C hr hlk (Nat.le_refl _) (Nat.le_refl _) dX5_swap_26 ⟨hTu10, rfl⟩
set_option maxRecDepth 20000 in
set_option maxHeartbeats 2000000 in
theorem tc_X5_nextOrder {G : GT} {l : Launch} {z n : Nat} {ln : Int} (uu0 : HpT) (hTz0 : TyC G z ln uu0) : Mp G l z yX5_nextOrder cX5_nextOrder 5 (some .boolean) { frames := 1, cells := 0, slots := 0, locals := 23 } [.ref (z + 101)] uu0 n (fun r v => TC G z ln uu0 v ∧ ∃ x : Int32, r = some (.int x) ∧ 0 ≤ x.toInt ∧ x.toInt ≤ 1) := by
  refine mp_of (by decide +kernel) (Nat.le_of_ble_eq_true rfl) ?_
  intro p e s m below meth c C hr hlk hnm
  have hTy0 : TC G z ln uu0 uu0 := TC.rf hTz0
  have J91 : ∀ (d : Nat) (u_91 : HpT) (hT_91 : TC G z ln uu0 u_91) (x4_91 : Int32) (hl_x4_91 : -1 ≤ x4_91.toInt) (hh_x4_91 : x4_91.toInt ≤ 5) (x3_91 : Int32) (hl_x3_91 : 1 ≤ x3_91.toInt) (hh_x3_91 : x3_91.toInt ≤ 5) (x2_91 : Int32) (hl_x2_91 : -1 ≤ x2_91.toInt) (hh_x2_91 : x2_91.toInt ≤ 5) (x1_91 : Int32) (hl_x1_91 : 0 ≤ x1_91.toInt) (hh_x1_91 : x1_91.toInt ≤ 4) (hd : d = (6 - x3_91.toInt).toNat), Xw p l e ({ frames := 1, cells := 0, slots := 0, locals := 23 } : Room) s m ([.ref (z + 101)] : List Value).toArray below meth c G z 5 (MQ below (Qp G z n (fun r v => TC G z ln uu0 v ∧ ∃ x : Int32, r = some (.int x) ∧ 0 ≤ x.toInt ∧ x.toInt ≤ 1)) ([.ref (z + 101)] : List Value).toArray s 0 0 (zA z)) 91 [(4, .int x4_91), (3, .int x3_91), (2, .int x2_91), (1, .int x1_91), (0, .ref (z + 101))] [] u_91 n 0 0 := by
    intro d
    induction d using Nat.strongRecOn with
    | _ d ih91 =>
      intro u_91 hT_91 x4_91 hl_x4_91 hh_x4_91 x3_91 hl_x3_91 hh_x3_91 x2_91 hl_x2_91 hh_x2_91 x1_91 hl_x1_91 hh_x1_91 hd91
      refine x_iload_n C 1 dX5_nextOrder_91 rfl rfl ?_
      refine x_iload C 0 dX5_nextOrder_92 rfl ?_
      refine x_icmp_ge C 113 dX5_nextOrder_94 (by decide) (fun q1 => ?_) (fun q1 => ?_)
      · have rq1 : x3_91.toInt ≥ x4_91.toInt := by rw [Int32.le_iff_toInt_le] at q1; omega
        refine x_iconst (v := (1 : Int32)) C dX5_nextOrder_113 (by decide) ?_
        have l_1 : (1 : Int32).toInt = 1 := by decide
        exact x_zretP C hr hlk (Nat.le_refl _) (Nat.le_refl _) dX5_nextOrder_114 (i_bool (by omega)) ⟨hT_91, (1 : Int32), rfl, by omega⟩
      · have rq1 : x3_91.toInt < x4_91.toInt := by rw [Int32.le_iff_toInt_le] at q1; omega
        refine x_aload_n C 4 dX5_nextOrder_97 rfl rfl ?_
        refine x_iload_n C 1 dX5_nextOrder_98 rfl rfl ?_
        refine x_iload C 0 dX5_nextOrder_99 rfl ?_
        obtain ⟨c2_4, c2_5, c2_6, hc2, qc2_0, qc2_1⟩ := ty_101 hT_91
        refine x_callVP C cl_X5_swap kmX5_78 (ci := 4) (b := 101) (As := [.int x3_91, .int x4_91]) (rest := []) rfl hc2 (tc_X5_swap u_91 hT_91.1 x3_91 x4_91 (by omega) (by omega) (by omega) (by omega)) rfl rfl (Nat.le_of_ble_eq_true rfl) ⟨Nat.le_of_ble_eq_true rfl, Nat.le_of_ble_eq_true rfl⟩ ⟨Nat.le_of_ble_eq_true rfl, Nat.le_of_ble_eq_true rfl⟩ dX5_nextOrder_101 ?_
        rintro _ u3 ⟨ju3, rfl⟩
        have hTu3 := hT_91.tr ju3
        refine x_norm (st2 := []) rfl rfl rfl rfl rfl ?_
        have l_1 : (1 : Int32).toInt = 1 := by decide
        obtain ⟨w4, ew4⟩ : ∃ w : Int32, w = x3_91 + Int32.ofInt 1 := ⟨_, rfl⟩
        have fw4 : w4.toInt = x3_91.toInt + (1) := by rw [ew4]; exact i_addk (by decide) (by omega) (by omega)
        refine x_iinc (v := w4) C 1 [(3, .int w4), (4, .int x4_91), (2, .int x2_91), (1, .int x1_91), (0, .ref (z + 101))] dX5_nextOrder_104 rfl ew4.symm (by decide) rfl ?_
        have l_m1 : (-1 : Int32).toInt = -1 := by decide
        obtain ⟨w5, ew5⟩ : ∃ w : Int32, w = x4_91 + Int32.ofInt (-1) := ⟨_, rfl⟩
        have fw5 : w5.toInt = x4_91.toInt + (-1) := by rw [ew5]; exact i_addk (by decide) (by omega) (by omega)
        refine x_iinc (v := w5) C 1 [(4, .int w5), (3, .int w4), (2, .int x2_91), (1, .int x1_91), (0, .ref (z + 101))] dX5_nextOrder_107 rfl ew5.symm (by decide) rfl ?_
        refine x_goto C 91 dX5_nextOrder_110 (by decide) ?_
        exact ih91 (6 - w4.toInt).toNat (by omega) u3 hTu3 w5 (by omega) (by omega) w4 (by omega) (by omega) x2_91 (by omega) (by omega) x1_91 (by omega) (by omega) rfl
  have J73 : ∀ (u_73 : HpT) (hT_73 : TC G z ln uu0 u_73) (x2_73 : Int32) (hl_x2_73 : -1 ≤ x2_73.toInt) (hh_x2_73 : x2_73.toInt ≤ 5) (x1_73 : Int32) (hl_x1_73 : 0 ≤ x1_73.toInt) (hh_x1_73 : x1_73.toInt ≤ 4) (i0_73 : x1_73.toInt ≤ x2_73.toInt), Xw p l e ({ frames := 1, cells := 0, slots := 0, locals := 23 } : Room) s m ([.ref (z + 101)] : List Value).toArray below meth c G z 5 (MQ below (Qp G z n (fun r v => TC G z ln uu0 v ∧ ∃ x : Int32, r = some (.int x) ∧ 0 ≤ x.toInt ∧ x.toInt ≤ 1)) ([.ref (z + 101)] : List Value).toArray s 0 0 (zA z)) 73 [(2, .int x2_73), (1, .int x1_73), (0, .ref (z + 101))] [] u_73 n 0 0 := by
    intro u_73 hT_73 x2_73 hl_x2_73 hh_x2_73 x1_73 hl_x1_73 hh_x1_73 i0_73
    refine x_aload_n C 2 dX5_nextOrder_73 rfl rfl ?_
    refine x_iload_n C 1 dX5_nextOrder_74 rfl rfl ?_
    refine x_iload_n C 0 dX5_nextOrder_75 rfl rfl ?_
    obtain ⟨c6_4, c6_5, c6_6, hc6, qc6_0, qc6_1⟩ := ty_101 hT_73
    refine x_callVP C cl_X5_swap kmX5_78 (ci := 4) (b := 101) (As := [.int x1_73, .int x2_73]) (rest := []) rfl hc6 (tc_X5_swap u_73 hT_73.1 x1_73 x2_73 (by omega) (by omega) (by omega) (by omega)) rfl rfl (Nat.le_of_ble_eq_true rfl) ⟨Nat.le_of_ble_eq_true rfl, Nat.le_of_ble_eq_true rfl⟩ ⟨Nat.le_of_ble_eq_true rfl, Nat.le_of_ble_eq_true rfl⟩ dX5_nextOrder_76 ?_
    rintro _ u7 ⟨ju7, rfl⟩
    have hTu7 := hT_73.tr ju7
    refine x_norm (st2 := []) rfl rfl rfl rfl rfl ?_
    refine x_iload_n C 1 dX5_nextOrder_79 rfl rfl ?_
    refine x_iconst (v := (1 : Int32)) C dX5_nextOrder_80 (by decide) ?_
    refine x_iadd C dX5_nextOrder_81 ?_
    have l_1 : (1 : Int32).toInt = 1 := by decide
    refine x_top (fun w8 ew8 => ?_)
    have fw8_0 : w8.toInt = x1_73.toInt + (1 : Int32).toInt := by rw [ew8]; exact i_add (by omega) (by omega)
    refine x_istore_n C [(3, .int w8), (2, .int x2_73), (1, .int x1_73), (0, .ref (z + 101))] dX5_nextOrder_82 rfl (by decide) rfl ?_
    refine x_aload_n C 3 dX5_nextOrder_83 rfl rfl ?_
    obtain ⟨c9_4, c9_5, c9_6, hc9, qc9_0, qc9_1⟩ := ty_101 hTu7
    refine gfX5_24 C dX5_nextOrder_84 hc9 rfl ?_
    refine x_iconst (v := (1 : Int32)) C dX5_nextOrder_87 (by decide) ?_
    refine x_isub C dX5_nextOrder_88 ?_
    refine x_top (fun w10 ew10 => ?_)
    have fw10_0 : w10.toInt = c9_4.toInt - (1 : Int32).toInt := by rw [ew10]; exact i_sub (by omega) (by omega)
    refine x_istore C [(4, .int w10), (3, .int w8), (2, .int x2_73), (1, .int x1_73), (0, .ref (z + 101))] dX5_nextOrder_89 (by decide) rfl ?_
    exact J91 (6 - w8.toInt).toNat u7 hTu7 w10 (by omega) (by omega) w8 (by omega) (by omega) x2_73 (by omega) (by omega) x1_73 (by omega) (by omega) rfl
  have J47 : ∀ (d : Nat) (u_47 : HpT) (hT_47 : TC G z ln uu0 u_47) (x2_47 : Int32) (hl_x2_47 : -1 ≤ x2_47.toInt) (hh_x2_47 : x2_47.toInt ≤ 5) (x1_47 : Int32) (hl_x1_47 : 0 ≤ x1_47.toInt) (hh_x1_47 : x1_47.toInt ≤ 4) (i0_47 : x1_47.toInt ≤ x2_47.toInt) (hd : d = (x2_47.toInt - (-2)).toNat), Xw p l e ({ frames := 1, cells := 0, slots := 0, locals := 23 } : Room) s m ([.ref (z + 101)] : List Value).toArray below meth c G z 5 (MQ below (Qp G z n (fun r v => TC G z ln uu0 v ∧ ∃ x : Int32, r = some (.int x) ∧ 0 ≤ x.toInt ∧ x.toInt ≤ 1)) ([.ref (z + 101)] : List Value).toArray s 0 0 (zA z)) 47 [(2, .int x2_47), (1, .int x1_47), (0, .ref (z + 101))] [] u_47 n 0 0 := by
    intro d
    induction d using Nat.strongRecOn with
    | _ d ih47 =>
      intro u_47 hT_47 x2_47 hl_x2_47 hh_x2_47 x1_47 hl_x1_47 hh_x1_47 i0_47 hd47
      refine x_iload_n C 0 dX5_nextOrder_47 rfl rfl ?_
      refine x_iload_n C 1 dX5_nextOrder_48 rfl rfl ?_
      refine x_icmp_le C 73 dX5_nextOrder_49 (by decide) (fun q11 => ?_) (fun q11 => ?_)
      · have rq11 : x2_47.toInt ≤ x1_47.toInt := by rw [Int32.le_iff_toInt_le] at q11; omega
        exact J73 u_47 hT_47 x2_47 (by omega) (by omega) x1_47 (by omega) (by omega) (by omega)
      · have rq11 : x2_47.toInt > x1_47.toInt := by rw [Int32.le_iff_toInt_le] at q11; omega
        refine x_aload_n C 2 dX5_nextOrder_52 rfl rfl ?_
        obtain ⟨c12_4, c12_5, c12_6, hc12, qc12_0, qc12_1⟩ := ty_101 hT_47
        refine gfX5_9 C dX5_nextOrder_53 hc12 rfl ?_
        refine x_iload_n C 0 dX5_nextOrder_56 rfl rfl ?_
        obtain ⟨f13, hf13, qf13_0⟩ := ty_102 hT_47
        refine x_iald C hf13 (i_in (by omega) (by omega)) dX5_nextOrder_57 ?_
        refine x_top (fun w14 ew14 => ?_)
        have fw14_0 : 0 ≤ w14.toInt ∧ w14.toInt ≤ 5 := by rw [ew14]; exact qf13_0 _ (i_cl (by omega) (by omega))
        refine x_aload_n C 2 dX5_nextOrder_58 rfl rfl ?_
        refine gfX5_9 C dX5_nextOrder_59 hc12 rfl ?_
        refine x_iload_n C 1 dX5_nextOrder_62 rfl rfl ?_
        refine x_iald C hf13 (i_in (by omega) (by omega)) dX5_nextOrder_63 ?_
        refine x_top (fun w15 ew15 => ?_)
        have fw15_0 : 0 ≤ w15.toInt ∧ w15.toInt ≤ 5 := by rw [ew15]; exact qf13_0 _ (i_cl (by omega) (by omega))
        refine x_icmp_ge C 73 dX5_nextOrder_64 (by decide) (fun q16 => ?_) (fun q16 => ?_)
        · have rq16 : w14.toInt ≥ w15.toInt := by rw [Int32.le_iff_toInt_le] at q16; omega
          exact J73 u_47 hT_47 x2_47 (by omega) (by omega) x1_47 (by omega) (by omega) (by omega)
        · have rq16 : w14.toInt < w15.toInt := by rw [Int32.le_iff_toInt_le] at q16; omega
          have l_m1 : (-1 : Int32).toInt = -1 := by decide
          obtain ⟨w17, ew17⟩ : ∃ w : Int32, w = x2_47 + Int32.ofInt (-1) := ⟨_, rfl⟩
          have fw17 : w17.toInt = x2_47.toInt + (-1) := by rw [ew17]; exact i_addk (by decide) (by omega) (by omega)
          refine x_iinc (v := w17) C 0 [(2, .int w17), (1, .int x1_47), (0, .ref (z + 101))] dX5_nextOrder_67 rfl ew17.symm (by decide) rfl ?_
          refine x_goto C 47 dX5_nextOrder_70 (by decide) ?_
          exact ih47 (w17.toInt - (-2)).toNat (by omega) u_47 hT_47 w17 (by omega) (by omega) x1_47 (by omega) (by omega) (by omega) rfl
  have J34 : ∀ (u_34 : HpT) (hT_34 : TC G z ln uu0 u_34) (x1_34 : Int32) (hl_x1_34 : -2 ≤ x1_34.toInt) (hh_x1_34 : x1_34.toInt ≤ 4) (i0_34 : x1_34.toInt ≤ (szOf u_34).toInt - 2), Xw p l e ({ frames := 1, cells := 0, slots := 0, locals := 23 } : Room) s m ([.ref (z + 101)] : List Value).toArray below meth c G z 5 (MQ below (Qp G z n (fun r v => TC G z ln uu0 v ∧ ∃ x : Int32, r = some (.int x) ∧ 0 ≤ x.toInt ∧ x.toInt ≤ 1)) ([.ref (z + 101)] : List Value).toArray s 0 0 (zA z)) 34 [(1, .int x1_34), (0, .ref (z + 101))] [] u_34 n 0 0 := by
    intro u_34 hT_34 x1_34 hl_x1_34 hh_x1_34 i0_34
    obtain ⟨c18_4, c18_5, c18_6, hc18, qc18_0, qc18_1⟩ := ty_101 hT_34
    have gh19 : (szOf u_34).toInt = c18_4.toInt := by rw [szOf_eq hc18]
    refine x_iload_n C 0 dX5_nextOrder_34 rfl rfl ?_
    have l_0 : (0 : Int32).toInt = 0 := by decide
    refine x_if_ge C 40 dX5_nextOrder_35 (by decide) (fun q20 => ?_) (fun q20 => ?_)
    · have rq20 : x1_34.toInt ≥ (0 : Int32).toInt := by rw [Int32.le_iff_toInt_le] at q20; omega
      refine x_aload_n C 1 dX5_nextOrder_40 rfl rfl ?_
      refine gfX5_24 C dX5_nextOrder_41 hc18 rfl ?_
      refine x_iconst (v := (1 : Int32)) C dX5_nextOrder_44 (by decide) ?_
      refine x_isub C dX5_nextOrder_45 ?_
      have l_1 : (1 : Int32).toInt = 1 := by decide
      refine x_top (fun w21 ew21 => ?_)
      have fw21_0 : w21.toInt = c18_4.toInt - (1 : Int32).toInt := by rw [ew21]; exact i_sub (by omega) (by omega)
      refine x_istore_n C [(2, .int w21), (1, .int x1_34), (0, .ref (z + 101))] dX5_nextOrder_46 rfl (by decide) rfl ?_
      exact J47 (w21.toInt - (-2)).toNat u_34 hT_34 w21 (by omega) (by omega) x1_34 (by omega) (by omega) (by omega) rfl
    · have rq20 : x1_34.toInt < (0 : Int32).toInt := by rw [Int32.le_iff_toInt_le] at q20; omega
      refine x_iconst (v := (0 : Int32)) C dX5_nextOrder_38 (by decide) ?_
      exact x_zretP C hr hlk (Nat.le_refl _) (Nat.le_refl _) dX5_nextOrder_39 (i_bool (by omega)) ⟨hT_34, (0 : Int32), rfl, by omega⟩
  have J7 : ∀ (d : Nat) (u_7 : HpT) (hT_7 : TC G z ln uu0 u_7) (x1_7 : Int32) (hl_x1_7 : -2 ≤ x1_7.toInt) (hh_x1_7 : x1_7.toInt ≤ 4) (i0_7 : x1_7.toInt ≤ (szOf u_7).toInt - 2) (hd : d = (x1_7.toInt - (-3)).toNat), Xw p l e ({ frames := 1, cells := 0, slots := 0, locals := 23 } : Room) s m ([.ref (z + 101)] : List Value).toArray below meth c G z 5 (MQ below (Qp G z n (fun r v => TC G z ln uu0 v ∧ ∃ x : Int32, r = some (.int x) ∧ 0 ≤ x.toInt ∧ x.toInt ≤ 1)) ([.ref (z + 101)] : List Value).toArray s 0 0 (zA z)) 7 [(1, .int x1_7), (0, .ref (z + 101))] [] u_7 n 0 0 := by
    intro d
    induction d using Nat.strongRecOn with
    | _ d ih7 =>
      intro u_7 hT_7 x1_7 hl_x1_7 hh_x1_7 i0_7 hd7
      obtain ⟨c22_4, c22_5, c22_6, hc22, qc22_0, qc22_1⟩ := ty_101 hT_7
      have gh23 : (szOf u_7).toInt = c22_4.toInt := by rw [szOf_eq hc22]
      refine x_iload_n C 0 dX5_nextOrder_7 rfl rfl ?_
      have l_0 : (0 : Int32).toInt = 0 := by decide
      refine x_if_lt C 34 dX5_nextOrder_8 (by decide) (fun q24 => ?_) (fun q24 => ?_)
      · have rq24 : x1_7.toInt < (0 : Int32).toInt := by rw [Int32.lt_iff_toInt_lt] at q24; omega
        have gh25 : (szOf u_7).toInt = c22_4.toInt := by rw [szOf_eq hc22]
        exact J34 u_7 hT_7 x1_7 (by omega) (by omega) (by omega)
      · have rq24 : x1_7.toInt ≥ (0 : Int32).toInt := by rw [Int32.lt_iff_toInt_lt] at q24; omega
        refine x_aload_n C 1 dX5_nextOrder_11 rfl rfl ?_
        refine gfX5_9 C dX5_nextOrder_12 hc22 rfl ?_
        refine x_iload_n C 0 dX5_nextOrder_15 rfl rfl ?_
        obtain ⟨f26, hf26, qf26_0⟩ := ty_102 hT_7
        refine x_iald C hf26 (i_in (by omega) (by omega)) dX5_nextOrder_16 ?_
        refine x_top (fun w27 ew27 => ?_)
        have fw27_0 : 0 ≤ w27.toInt ∧ w27.toInt ≤ 5 := by rw [ew27]; exact qf26_0 _ (i_cl (by omega) (by omega))
        refine x_aload_n C 1 dX5_nextOrder_17 rfl rfl ?_
        refine gfX5_9 C dX5_nextOrder_18 hc22 rfl ?_
        refine x_iload_n C 0 dX5_nextOrder_21 rfl rfl ?_
        refine x_iconst (v := (1 : Int32)) C dX5_nextOrder_22 (by decide) ?_
        refine x_iadd C dX5_nextOrder_23 ?_
        have l_1 : (1 : Int32).toInt = 1 := by decide
        refine x_top (fun w28 ew28 => ?_)
        have fw28_0 : w28.toInt = x1_7.toInt + (1 : Int32).toInt := by rw [ew28]; exact i_add (by omega) (by omega)
        refine x_iald C hf26 (i_in (by omega) (by omega)) dX5_nextOrder_24 ?_
        refine x_top (fun w29 ew29 => ?_)
        have fw29_0 : 0 ≤ w29.toInt ∧ w29.toInt ≤ 5 := by rw [ew29]; exact qf26_0 _ (i_cl (by omega) (by omega))
        refine x_icmp_le C 34 dX5_nextOrder_25 (by decide) (fun q30 => ?_) (fun q30 => ?_)
        · have rq30 : w27.toInt ≤ w29.toInt := by rw [Int32.le_iff_toInt_le] at q30; omega
          have gh31 : (szOf u_7).toInt = c22_4.toInt := by rw [szOf_eq hc22]
          exact J34 u_7 hT_7 x1_7 (by omega) (by omega) (by omega)
        · have rq30 : w27.toInt > w29.toInt := by rw [Int32.le_iff_toInt_le] at q30; omega
          have l_m1 : (-1 : Int32).toInt = -1 := by decide
          obtain ⟨w32, ew32⟩ : ∃ w : Int32, w = x1_7 + Int32.ofInt (-1) := ⟨_, rfl⟩
          have fw32 : w32.toInt = x1_7.toInt + (-1) := by rw [ew32]; exact i_addk (by decide) (by omega) (by omega)
          refine x_iinc (v := w32) C 0 [(1, .int w32), (0, .ref (z + 101))] dX5_nextOrder_28 rfl ew32.symm (by decide) rfl ?_
          refine x_goto C 7 dX5_nextOrder_31 (by decide) ?_
          have gh33 : (szOf u_7).toInt = c22_4.toInt := by rw [szOf_eq hc22]
          exact ih7 (w32.toInt - (-3)).toNat (by omega) u_7 hT_7 w32 (by omega) (by omega) (by omega) rfl
  refine x_aload_n C 0 dX5_nextOrder_0 rfl rfl ?_
  obtain ⟨c34_4, c34_5, c34_6, hc34, qc34_0, qc34_1⟩ := ty_101 hTy0
  refine gfX5_24 C dX5_nextOrder_1 hc34 rfl ?_
  refine x_iconst (v := (2 : Int32)) C dX5_nextOrder_4 (by decide) ?_
  refine x_isub C dX5_nextOrder_5 ?_
  have l_2 : (2 : Int32).toInt = 2 := by decide
  refine x_top (fun w35 ew35 => ?_)
  have fw35_0 : w35.toInt = c34_4.toInt - (2 : Int32).toInt := by rw [ew35]; exact i_sub (by omega) (by omega)
  refine x_istore_n C [(1, .int w35), (0, .ref (z + 101))] dX5_nextOrder_6 rfl (by decide) rfl ?_
  have gh36 : (szOf uu0).toInt = c34_4.toInt := by rw [szOf_eq hc34]
  exact J7 (w35.toInt - (-3)).toNat uu0 hTy0 w35 (by omega) (by omega) (by omega) rfl
set_option maxRecDepth 20000 in
set_option maxHeartbeats 2000000 in
theorem tc_X5_tryOrders {G : GT} {l : Launch} {z n : Nat} {ln : Int} (uu0 : HpT) (hTz0 : TyC G z ln uu0) : Mp G l z yX5_tryOrders cX5_tryOrders 4 none { frames := 2, cells := 0, slots := 0, locals := 47 } [.ref (z + 101)] uu0 n (fun r v => TC G z ln uu0 v ∧ r = none) := by
  refine mp_of (by decide +kernel) (Nat.le_of_ble_eq_true rfl) ?_
  intro p e s m below meth c C hr hlk hnm
  have hTy0 : TC G z ln uu0 uu0 := TC.rf hTz0
  have J14 : ∀ (d : Nat) (u_14 : HpT) (hT_14 : TC G z ln uu0 u_14) (x2_14 : Int32) (hl_x2_14 : 0 ≤ x2_14.toInt) (hh_x2_14 : x2_14.toInt ≤ 720) (x1_14 : Int32) (hl_x1_14 : 0 ≤ x1_14.toInt) (hh_x1_14 : x1_14.toInt ≤ 1) (hd : d = (721 - x2_14.toInt).toNat), Xw p l e ({ frames := 2, cells := 0, slots := 0, locals := 47 } : Room) s m ([.ref (z + 101)] : List Value).toArray below meth c G z 4 (MQ below (Qp G z n (fun r v => TC G z ln uu0 v ∧ r = none)) ([.ref (z + 101)] : List Value).toArray s 0 0 (zA z)) 14 [(2, .int x2_14), (1, .int x1_14), (0, .ref (z + 101))] [] u_14 n 0 0 := by
    intro d
    induction d using Nat.strongRecOn with
    | _ d ih14 =>
      intro u_14 hT_14 x2_14 hl_x2_14 hh_x2_14 x1_14 hl_x1_14 hh_x1_14 hd14
      have J51 : ∀ (u_51 : HpT) (hT_51 : TC G z ln uu0 u_51) (x3_51 : Int32) (nl_x1_14_51 : 1 ≤ x1_14.toInt) (nh_x1_14_51 : x1_14.toInt ≤ 1) (nl_x2_14_51 : 0 ≤ x2_14.toInt) (nh_x2_14_51 : x2_14.toInt ≤ 719), Xw p l e ({ frames := 2, cells := 0, slots := 0, locals := 47 } : Room) s m ([.ref (z + 101)] : List Value).toArray below meth c G z 4 (MQ below (Qp G z n (fun r v => TC G z ln uu0 v ∧ r = none)) ([.ref (z + 101)] : List Value).toArray s 0 0 (zA z)) 51 [(3, .int x3_51), (2, .int x2_14), (1, .int x1_14), (0, .ref (z + 101))] [] u_51 n 0 0 := by
        intro u_51 hT_51 x3_51 nl_x1_14_51 nh_x1_14_51 nl_x2_14_51 nh_x2_14_51
        refine x_aload_n C 3 dX5_tryOrders_51 rfl rfl ?_
        obtain ⟨c2_4, c2_5, c2_6, hc2, qc2_0, qc2_1⟩ := ty_101 hT_51
        refine x_callVP C cl_X5_nextOrder kmX5_74 (ci := 4) (b := 101) (As := []) (rest := []) rfl hc2 (tc_X5_nextOrder u_51 hT_51.1) rfl rfl (Nat.le_of_ble_eq_true rfl) ⟨Nat.le_of_ble_eq_true rfl, Nat.le_of_ble_eq_true rfl⟩ ⟨Nat.le_of_ble_eq_true rfl, Nat.le_of_ble_eq_true rfl⟩ dX5_tryOrders_52 ?_
        rintro _ u3 ⟨ju3, r1, rfl, gr1⟩
        have hTu3 := hT_51.tr ju3
        refine x_norm (st2 := [.int r1]) rfl rfl rfl rfl rfl ?_
        refine x_istore_n C [(1, .int r1), (3, .int x3_51), (2, .int x2_14), (0, .ref (z + 101))] dX5_tryOrders_55 rfl (by decide) rfl ?_
        have l_1 : (1 : Int32).toInt = 1 := by decide
        obtain ⟨w4, ew4⟩ : ∃ w : Int32, w = x2_14 + Int32.ofInt 1 := ⟨_, rfl⟩
        have fw4 : w4.toInt = x2_14.toInt + (1) := by rw [ew4]; exact i_addk (by decide) (by omega) (by omega)
        refine x_iinc (v := w4) C 2 [(2, .int w4), (1, .int r1), (3, .int x3_51), (0, .ref (z + 101))] dX5_tryOrders_56 rfl ew4.symm (by decide) rfl ?_
        refine x_goto C 14 dX5_tryOrders_59 (by decide) ?_
        refine x_mv (lo2 := [(2, .int w4), (1, .int r1), (0, .ref (z + 101))]) [0, 1, 3] rfl ?_
        exact ih14 (721 - w4.toInt).toNat (by omega) u3 hTu3 w4 (by omega) (by omega) r1 (by omega) (by omega) rfl
      refine x_iload_n C 0 dX5_tryOrders_14 rfl rfl ?_
      refine x_sipush (v := (720 : Int32)) C dX5_tryOrders_15 (by decide) ?_
      have l_720 : (720 : Int32).toInt = 720 := by decide
      refine x_icmp_ge C 62 dX5_tryOrders_18 (by decide) (fun q5 => ?_) (fun q5 => ?_)
      · have rq5 : x2_14.toInt ≥ (720 : Int32).toInt := by rw [Int32.le_iff_toInt_le] at q5; omega
        exact x_vretP C hr hlk (Nat.le_refl _) (Nat.le_refl _) dX5_tryOrders_62 ⟨hT_14, rfl⟩
      · have rq5 : x2_14.toInt < (720 : Int32).toInt := by rw [Int32.le_iff_toInt_le] at q5; omega
        refine x_iload_n C 1 dX5_tryOrders_21 rfl rfl ?_
        have l_0 : (0 : Int32).toInt = 0 := by decide
        refine x_if_eq C 62 dX5_tryOrders_22 (by decide) (fun q6 => ?_) (fun q6 => ?_)
        · have rq6 : x1_14.toInt = (0 : Int32).toInt := by rw [i_eq_iff] at q6; omega
          exact x_vretP C hr hlk (Nat.le_refl _) (Nat.le_refl _) dX5_tryOrders_62 ⟨hT_14, rfl⟩
        · have rq6 : ¬ x1_14.toInt = (0 : Int32).toInt := by rw [i_eq_iff] at q6; omega
          refine x_aload_n C 2 dX5_tryOrders_25 rfl rfl ?_
          obtain ⟨c8_4, c8_5, c8_6, hc8, qc8_0, qc8_1⟩ := ty_101 hT_14
          refine x_callVP C cl_X5_payOfOrder kmX5_67 (ci := 4) (b := 101) (As := []) (rest := []) rfl hc8 (tc_X5_payOfOrder u_14 hT_14.1) rfl rfl (Nat.le_of_ble_eq_true rfl) ⟨Nat.le_of_ble_eq_true rfl, Nat.le_of_ble_eq_true rfl⟩ ⟨Nat.le_of_ble_eq_true rfl, Nat.le_of_ble_eq_true rfl⟩ dX5_tryOrders_26 ?_
          rintro _ _ ⟨rfl, r7, rfl, gr7⟩
          refine x_norm (st2 := [.int r7]) rfl rfl rfl rfl rfl ?_
          refine x_istore_n C [(3, .int r7), (2, .int x2_14), (1, .int x1_14), (0, .ref (z + 101))] dX5_tryOrders_29 rfl (by decide) rfl ?_
          refine x_iload_n C 0 dX5_tryOrders_30 rfl rfl ?_
          refine x_aload_n C 3 dX5_tryOrders_31 rfl rfl ?_
          refine gfX5_28 C dX5_tryOrders_32 hc8 rfl ?_
          refine x_icmp_le C 51 dX5_tryOrders_35 (by decide) (fun q10 => ?_) (fun q10 => ?_)
          · have rq10 : r7.toInt ≤ c8_5.toInt := by rw [Int32.le_iff_toInt_le] at q10; omega
            exact J51 u_14 hT_14 r7 (by omega) (by omega) (by omega) (by omega)
          · have rq10 : r7.toInt > c8_5.toInt := by rw [Int32.le_iff_toInt_le] at q10; omega
            refine x_aload_n C 3 dX5_tryOrders_38 rfl rfl ?_
            refine x_iload_n C 0 dX5_tryOrders_39 rfl rfl ?_
            obtain ⟨u11, eu11⟩ : ∃ w : HpT, w = hup u_14 101 (.inr (4, [.ref (z + 102), .ref (z + 103), .ref (z + 104), .ref (z + 105), .int c8_4, .int r7, .int c8_6])) := ⟨_, rfl⟩
            refine pfX5_28 C dX5_tryOrders_40 hc8 (Nat.le_of_ble_eq_true rfl) rfl eu11.symm ?_
            have hTu11 : TC G z ln uu0 u11 := by rw [eu11]; exact hT_14.up_101 (by omega)
            have hn12 := (congrFun eu11 101).trans (hup_s _ _ _)
            refine x_aload_n C 3 dX5_tryOrders_43 rfl rfl ?_
            refine x_aload_n C 3 dX5_tryOrders_44 rfl rfl ?_
            refine x_callVP C cl_X5_figuresOfOrder kmX5_71 (ci := 4) (b := 101) (As := []) (rest := [.ref (z + 101)]) rfl hn12 (tc_X5_figuresOfOrder u11 hTu11.1) rfl rfl (Nat.le_of_ble_eq_true rfl) ⟨Nat.le_of_ble_eq_true rfl, Nat.le_of_ble_eq_true rfl⟩ ⟨Nat.le_of_ble_eq_true rfl, Nat.le_of_ble_eq_true rfl⟩ dX5_tryOrders_45 ?_
            rintro _ _ ⟨rfl, r13, rfl, gr13⟩
            refine x_norm (st2 := [.int r13, .ref (z + 101)]) rfl rfl rfl rfl rfl ?_
            obtain ⟨u15, eu15⟩ : ∃ w : HpT, w = hup u11 101 (.inr (4, [.ref (z + 102), .ref (z + 103), .ref (z + 104), .ref (z + 105), .int c8_4, .int r7, .int r13])) := ⟨_, rfl⟩
            refine pfX5_31 C dX5_tryOrders_48 hn12 (Nat.le_of_ble_eq_true rfl) rfl eu15.symm ?_
            have hTu15 : TC G z ln uu0 u15 := by rw [eu15]; exact hTu11.up_101 (by omega)
            have hn16 := (congrFun eu15 101).trans (hup_s _ _ _)
            exact J51 u15 hTu15 r7 (by omega) (by omega) (by omega) (by omega)
  refine x_aload_n C 0 dX5_tryOrders_0 rfl rfl ?_
  refine x_iconst (v := (-1 : Int32)) C dX5_tryOrders_1 (by decide) ?_
  obtain ⟨c17_4, c17_5, c17_6, hc17, qc17_0, qc17_1⟩ := ty_101 hTy0
  have l_m1 : (-1 : Int32).toInt = -1 := by decide
  obtain ⟨u18, eu18⟩ : ∃ w : HpT, w = hup uu0 101 (.inr (4, [.ref (z + 102), .ref (z + 103), .ref (z + 104), .ref (z + 105), .int c17_4, .int (-1 : Int32), .int c17_6])) := ⟨_, rfl⟩
  refine pfX5_28 C dX5_tryOrders_2 hc17 (Nat.le_of_ble_eq_true rfl) rfl eu18.symm ?_
  have hTu18 : TC G z ln uu0 u18 := by rw [eu18]; exact hTy0.up_101 (by omega)
  have hn19 := (congrFun eu18 101).trans (hup_s _ _ _)
  refine x_aload_n C 0 dX5_tryOrders_5 rfl rfl ?_
  refine x_iconst (v := (0 : Int32)) C dX5_tryOrders_6 (by decide) ?_
  have l_0 : (0 : Int32).toInt = 0 := by decide
  obtain ⟨u20, eu20⟩ : ∃ w : HpT, w = hup u18 101 (.inr (4, [.ref (z + 102), .ref (z + 103), .ref (z + 104), .ref (z + 105), .int c17_4, .int (-1 : Int32), .int (0 : Int32)])) := ⟨_, rfl⟩
  refine pfX5_31 C dX5_tryOrders_7 hn19 (Nat.le_of_ble_eq_true rfl) rfl eu20.symm ?_
  have hTu20 : TC G z ln uu0 u20 := by rw [eu20]; exact hTu18.up_101 (by omega)
  have hn21 := (congrFun eu20 101).trans (hup_s _ _ _)
  refine x_iconst (v := (1 : Int32)) C dX5_tryOrders_10 (by decide) ?_
  refine x_istore_n C [(1, .int (1 : Int32)), (0, .ref (z + 101))] dX5_tryOrders_11 rfl (by decide) rfl ?_
  refine x_iconst (v := (0 : Int32)) C dX5_tryOrders_12 (by decide) ?_
  refine x_istore_n C [(2, .int (0 : Int32)), (1, .int (1 : Int32)), (0, .ref (z + 101))] dX5_tryOrders_13 rfl (by decide) rfl ?_
  have l_1 : (1 : Int32).toInt = 1 := by decide
  exact J14 (721 - (0 : Int32).toInt).toNat u20 hTu20 (0 : Int32) (by omega) (by omega) (1 : Int32) (by omega) (by omega) rfl
