set_option maxRecDepth 20000 in
set_option maxHeartbeats 2000000 in
theorem tc_X9_beginBridge {G : GT} {l : Launch} {z n : Nat} {ln : Int} (uu0 : HpT) (hTz0 : TyC G z ln uu0) : Mp G l z yX9_beginBridge cX9_beginBridge 2 none { frames := 3, cells := 0, slots := 0, locals := 63 } [.ref (z + 0)] uu0 n (fun r v => TC G z ln uu0 v ∧ r = none) := by
  refine mp_of (by decide +kernel) (Nat.le_of_ble_eq_true rfl) ?_
  intro p e s m below meth c C hr hlk hnm
  have hTy0 : TC G z ln uu0 uu0 := TC.rf hTz0
  have J34 : ∀ (d : Nat) (u_34 : HpT) (hT_34 : TC G z ln uu0 u_34) (x1_34 : Int32) (hl_x1_34 : 0 ≤ x1_34.toInt) (hh_x1_34 : x1_34.toInt ≤ 2) (hd : d = (3 - x1_34.toInt).toNat), Xw p l e ({ frames := 3, cells := 0, slots := 0, locals := 63 } : Room) s m ([.ref (z + 0)] : List Value).toArray below meth c G z 2 (MQ below (Qp G z n (fun r v => TC G z ln uu0 v ∧ r = none)) ([.ref (z + 0)] : List Value).toArray s 0 0 (zA z)) 34 [(1, .int x1_34), (0, .ref (z + 0))] [] u_34 n 0 0 := by
    intro d
    induction d using Nat.strongRecOn with
    | _ d ih34 =>
      intro u_34 hT_34 x1_34 hl_x1_34 hh_x1_34 hd34
      refine x_iload_n C 0 dX9_beginBridge_34 rfl rfl ?_
      refine x_aload_n C 1 dX9_beginBridge_35 rfl rfl ?_
      obtain ⟨bc1, dc1, c1_10, c1_11, pc1, oc1, nc1, hc1⟩ := ty_0 hT_34
      have hbb_bc1 : bc1 = 112 ∨ bc1 = 119 := pc1
      have hbb_dc1 : dc1 = 112 ∨ dc1 = 119 := oc1
      refine gfX9_32 C dX9_beginBridge_36 hc1 rfl ?_
      obtain ⟨f2, hf2, qf2_0, qf2_1⟩ := ty_98 hT_34
      refine x_alen (v := (2 : Int32)) C 4 hf2 rfl rfl dX9_beginBridge_39 ?_
      have l_2 : (2 : Int32).toInt = 2 := by decide
      refine x_icmp_ge C 59 dX9_beginBridge_40 (by decide) (fun q3 => ?_) (fun q3 => ?_)
      · have rq3 : x1_34.toInt ≥ (2 : Int32).toInt := by rw [Int32.le_iff_toInt_le] at q3; omega
        exact x_vretP C hr hlk (Nat.le_refl _) (Nat.le_refl _) dX9_beginBridge_59 ⟨hT_34, rfl⟩
      · have rq3 : x1_34.toInt < (2 : Int32).toInt := by rw [Int32.le_iff_toInt_le] at q3; omega
        refine x_aload_n C 1 dX9_beginBridge_43 rfl rfl ?_
        refine gfX9_32 C dX9_beginBridge_44 hc1 rfl ?_
        refine x_iload_n C 0 dX9_beginBridge_47 rfl rfl ?_
        obtain ⟨o4, eo4, po4⟩ : ∃ o, f2 x1_34.toNatClampNeg = some (z + o) ∧ (o = 126 ∨ o = 130) := i_two qf2_0 qf2_1 (by omega) (by omega)
        refine x_aaldM C hf2 (i_in (by omega) (by omega)) eo4 dX9_beginBridge_48 ?_
        refine x_iconst (v := (0 : Int32)) C dX9_beginBridge_49 (by decide) ?_
        obtain ⟨c5_1, c5_2, hc5, qc5_0, qc5_1⟩ := ty_im hT_34 po4
        have l_0 : (0 : Int32).toInt = 0 := by decide
        obtain ⟨u6, eu6⟩ : ∃ w : HpT, w = hup u_34 o4 (.inr (3, [.ref (z + (o4 + 1)), .int c5_1, .int (0 : Int32)])) := ⟨_, rfl⟩
        refine pfX9_113 C dX9_beginBridge_50 (by decide) (by decide) hc5 (Nat.le_of_ble_eq_true rfl) rfl eu6.symm ?_
        have hTu6 : TC G z ln uu0 u6 := by rw [eu6]; exact hT_34.upIm po4 (by omega)
        have hn9 := (congrFun eu6 o4).trans (hup_s _ _ _)
        have l_1 : (1 : Int32).toInt = 1 := by decide
        obtain ⟨w10, ew10⟩ : ∃ w : Int32, w = x1_34 + Int32.ofInt 1 := ⟨_, rfl⟩
        have fw10 : w10.toInt = x1_34.toInt + (1) := by rw [ew10]; exact i_addk (by decide) (by omega) (by omega)
        refine x_iinc (v := w10) C 0 [(1, .int w10), (0, .ref (z + 0))] dX9_beginBridge_53 rfl ew10.symm (by decide) rfl ?_
        refine x_goto C 34 dX9_beginBridge_56 (by decide) ?_
        exact ih34 (3 - w10.toInt).toNat (by omega) u6 hTu6 w10 (by omega) (by omega) rfl
  refine x_aload_n C 0 dX9_beginBridge_0 rfl rfl ?_
  obtain ⟨bc11, dc11, c11_10, c11_11, pc11, oc11, nc11, hc11⟩ := ty_0 hTy0
  have hbb_bc11 : bc11 = 112 ∨ bc11 = 119 := pc11
  have hbb_dc11 : dc11 = 112 ∨ dc11 = 119 := oc11
  refine gfX9_19 C dX9_beginBridge_1 hc11 rfl ?_
  refine x_aload_n C 0 dX9_beginBridge_4 rfl rfl ?_
  refine gfX9_65 C dX9_beginBridge_5 hc11 rfl ?_
  obtain ⟨c12_0, c12_1, c12_2, c12_3, c12_4, c12_5, c12_6, c12_7, c12_8, c12_9, hc12⟩ := ty_ev hTy0 (Or.inl rfl)
  refine x_callVP C cl_X3_begin kmX9_106 (ci := 2) (b := 3) (As := [.ref (z + bc11)]) (rest := []) rfl hc12 (tc_X3_begin uu0 hTy0.1 bc11 pc11) rfl rfl (Nat.le_of_ble_eq_true rfl) ⟨Nat.le_of_ble_eq_true rfl, Nat.le_of_ble_eq_true rfl⟩ ⟨Nat.le_of_ble_eq_true rfl, Nat.le_of_ble_eq_true rfl⟩ dX9_beginBridge_8 ?_
  rintro _ u13 ⟨ju13, rfl⟩
  have hTu13 := hTy0.tr ju13
  refine x_norm (st2 := []) rfl rfl rfl rfl rfl ?_
  refine x_aload_n C 0 dX9_beginBridge_11 rfl rfl ?_
  obtain ⟨bc14, dc14, c14_10, c14_11, pc14, oc14, nc14, hc14⟩ := ty_0 hTu13
  have hbb_bc14 : bc14 = 112 ∨ bc14 = 119 := pc14
  have hbb_dc14 : dc14 = 112 ∨ dc14 = 119 := oc14
  refine gfX9_26 C dX9_beginBridge_12 hc14 rfl ?_
  obtain ⟨c15_1, c15_2, hc15, qc15_0, qc15_1, qc15_2, qc15_3⟩ := ty_6 hTu13
  refine x_callVP C cl_X6_forget kmX9_109 (ci := 5) (b := 6) (As := []) (rest := []) rfl hc15 (tc_X6_forget u13 hTu13.1) rfl rfl (Nat.le_of_ble_eq_true rfl) ⟨Nat.le_of_ble_eq_true rfl, Nat.le_of_ble_eq_true rfl⟩ ⟨Nat.le_of_ble_eq_true rfl, Nat.le_of_ble_eq_true rfl⟩ dX9_beginBridge_15 ?_
  rintro _ u16 ⟨ju16, rfl⟩
  have hTu16 := hTu13.tr ju16
  refine x_norm (st2 := []) rfl rfl rfl rfl rfl ?_
  refine x_aload_n C 0 dX9_beginBridge_18 rfl rfl ?_
  obtain ⟨bc17, dc17, c17_10, c17_11, pc17, oc17, nc17, hc17⟩ := ty_0 hTu16
  have hbb_bc17 : bc17 = 112 ∨ bc17 = 119 := pc17
  have hbb_dc17 : dc17 = 112 ∨ dc17 = 119 := oc17
  refine gfX9_55 C dX9_beginBridge_19 hc17 rfl ?_
  obtain ⟨c18_2, hc18, qc18_0, qc18_1⟩ := ty_en hTu16 (Or.inl ⟨rfl, rfl⟩)
  refine x_callVP C cl_X2_forget kmX9_112 (ci := 1) (b := 106) (As := []) (rest := []) rfl hc18 (tc_X2_forget u16 hTu16.1 106 6 (Or.inl ⟨rfl, rfl⟩)) rfl rfl (Nat.le_of_ble_eq_true rfl) ⟨Nat.le_of_ble_eq_true rfl, Nat.le_of_ble_eq_true rfl⟩ ⟨Nat.le_of_ble_eq_true rfl, Nat.le_of_ble_eq_true rfl⟩ dX9_beginBridge_22 ?_
  rintro _ u19 ⟨ju19, rfl⟩
  have hTu19 := hTu16.tr ju19
  refine x_norm (st2 := []) rfl rfl rfl rfl rfl ?_
  refine x_aload_n C 0 dX9_beginBridge_25 rfl rfl ?_
  obtain ⟨bc20, dc20, c20_10, c20_11, pc20, oc20, nc20, hc20⟩ := ty_0 hTu19
  have hbb_bc20 : bc20 = 112 ∨ bc20 = 119 := pc20
  have hbb_dc20 : dc20 = 112 ∨ dc20 = 119 := oc20
  refine gfX9_59 C dX9_beginBridge_26 hc20 rfl ?_
  obtain ⟨c21_2, hc21, qc21_0, qc21_1⟩ := ty_en hTu19 (Or.inr ⟨rfl, rfl⟩)
  refine x_callVP C cl_X2_forget kmX9_112 (ci := 1) (b := 109) (As := []) (rest := []) rfl hc21 (tc_X2_forget u19 hTu19.1 109 20 (Or.inr ⟨rfl, rfl⟩)) rfl rfl (Nat.le_of_ble_eq_true rfl) ⟨Nat.le_of_ble_eq_true rfl, Nat.le_of_ble_eq_true rfl⟩ ⟨Nat.le_of_ble_eq_true rfl, Nat.le_of_ble_eq_true rfl⟩ dX9_beginBridge_29 ?_
  rintro _ u22 ⟨ju22, rfl⟩
  have hTu22 := hTu19.tr ju22
  refine x_norm (st2 := []) rfl rfl rfl rfl rfl ?_
  refine x_iconst (v := (0 : Int32)) C dX9_beginBridge_32 (by decide) ?_
  refine x_istore_n C [(1, .int (0 : Int32)), (0, .ref (z + 0))] dX9_beginBridge_33 rfl (by decide) rfl ?_
  have l_0 : (0 : Int32).toInt = 0 := by decide
  exact J34 (3 - (0 : Int32).toInt).toNat u22 hTu22 (0 : Int32) (by omega) (by omega) rfl
set_option maxRecDepth 20000 in
set_option maxHeartbeats 2000000 in
theorem tc_X9_fault {G : GT} {l : Launch} {z n : Nat} {ln : Int} (uu0 : HpT) (hTz0 : TyC G z ln uu0) : Mp G l z yX9_fault cX9_fault 1 (some .int) { frames := 0, cells := 0, slots := 0, locals := 0 } [.ref (z + 0)] uu0 n (fun r v => uu0 = v ∧ ∃ x : Int32, r = some (.int x) ∧ True) := by
  refine mp_of (by decide +kernel) (Nat.le_of_ble_eq_true rfl) ?_
  intro p e s m below meth c C hr hlk hnm
  have hTy0 : TC G z ln uu0 uu0 := TC.rf hTz0
  refine x_aload_n C 0 dX9_fault_0 rfl rfl ?_
  obtain ⟨bc1, dc1, c1_10, c1_11, pc1, oc1, nc1, hc1⟩ := ty_0 hTy0
  have hbb_bc1 : bc1 = 112 ∨ bc1 = 119 := pc1
  have hbb_dc1 : dc1 = 112 ∨ dc1 = 119 := oc1
  refine gfX9_76 C dX9_fault_1 hc1 rfl ?_
  exact x_iretP C hr hlk (Nat.le_refl _) (Nat.le_refl _) dX9_fault_4 ⟨rfl, c1_11, rfl, trivial⟩
set_option maxRecDepth 20000 in
set_option maxHeartbeats 2000000 in
theorem tc_X9_toldOfEvening {G : GT} {l : Launch} {z n : Nat} {ln : Int} (uu0 : HpT) (hTz0 : TyC G z ln uu0) (a1 : Int32) : Mp G l z yX9_toldOfEvening cX9_toldOfEvening 2 (some .int) { frames := 0, cells := 0, slots := 0, locals := 0 } [.ref (z + 0), .int a1] uu0 n (fun r v => uu0 = v ∧ ∃ x : Int32, r = some (.int x) ∧ True) := by
  refine mp_of (by decide +kernel) (Nat.le_of_ble_eq_true rfl) ?_
  intro p e s m below meth c C hr hlk hnm
  have hTy0 : TC G z ln uu0 uu0 := TC.rf hTz0
  refine x_iload_n C 1 dX9_toldOfEvening_0 rfl rfl ?_
  by_cases sw1 : a1.toInt < 5 ∨ 14 < a1.toInt
  · refine x_tableOut C 136 dX9_toldOfEvening_1 sw1 (by decide) ?_
    refine x_ldc C kcX9_80 dX9_toldOfEvening_136 ?_
    have l_m1000000002 : (-1000000002 : Int32).toInt = -1000000002 := by decide
    exact x_iretP C hr hlk (Nat.le_refl _) (Nat.le_refl _) dX9_toldOfEvening_138 ⟨rfl, (-1000000002 : Int32), rfl, trivial⟩
  · rcases (by omega : a1.toInt = 5 ∨ a1.toInt = 6 ∨ a1.toInt = 7 ∨ a1.toInt = 8 ∨ a1.toInt = 9 ∨ a1.toInt = 10 ∨ a1.toInt = 11 ∨ a1.toInt = 12 ∨ a1.toInt = 13 ∨ a1.toInt = 14) with sx | sx | sx | sx | sx | sx | sx | sx | sx | sx
    · refine x_tableIn C 56 dX9_toldOfEvening_1 (by omega) (by omega) (by rw [sx]; rfl) (by decide) ?_
      refine x_aload_n C 0 dX9_toldOfEvening_56 rfl rfl ?_
      obtain ⟨bc1, dc1, c1_10, c1_11, pc1, oc1, nc1, hc1⟩ := ty_0 hTy0
      have hbb_bc1 : bc1 = 112 ∨ bc1 = 119 := pc1
      have hbb_dc1 : dc1 = 112 ∨ dc1 = 119 := oc1
      refine gfX9_19 C dX9_toldOfEvening_57 hc1 rfl ?_
      obtain ⟨c2_0, c2_1, c2_2, c2_3, c2_4, c2_5, c2_6, c2_7, c2_8, c2_9, hc2⟩ := ty_ev hTy0 (Or.inl rfl)
      refine gfX9_149 C dX9_toldOfEvening_60 hc2 rfl ?_
      exact x_iretP C hr hlk (Nat.le_refl _) (Nat.le_refl _) dX9_toldOfEvening_63 ⟨rfl, c2_0, rfl, trivial⟩
    · refine x_tableIn C 64 dX9_toldOfEvening_1 (by omega) (by omega) (by rw [sx]; rfl) (by decide) ?_
      refine x_aload_n C 0 dX9_toldOfEvening_64 rfl rfl ?_
      obtain ⟨bc3, dc3, c3_10, c3_11, pc3, oc3, nc3, hc3⟩ := ty_0 hTy0
      have hbb_bc3 : bc3 = 112 ∨ bc3 = 119 := pc3
      have hbb_dc3 : dc3 = 112 ∨ dc3 = 119 := oc3
      refine gfX9_19 C dX9_toldOfEvening_65 hc3 rfl ?_
      obtain ⟨c4_0, c4_1, c4_2, c4_3, c4_4, c4_5, c4_6, c4_7, c4_8, c4_9, hc4⟩ := ty_ev hTy0 (Or.inl rfl)
      refine gfX9_152 C dX9_toldOfEvening_68 hc4 rfl ?_
      exact x_iretP C hr hlk (Nat.le_refl _) (Nat.le_refl _) dX9_toldOfEvening_71 ⟨rfl, c4_1, rfl, trivial⟩
    · refine x_tableIn C 72 dX9_toldOfEvening_1 (by omega) (by omega) (by rw [sx]; rfl) (by decide) ?_
      refine x_aload_n C 0 dX9_toldOfEvening_72 rfl rfl ?_
      obtain ⟨bc5, dc5, c5_10, c5_11, pc5, oc5, nc5, hc5⟩ := ty_0 hTy0
      have hbb_bc5 : bc5 = 112 ∨ bc5 = 119 := pc5
      have hbb_dc5 : dc5 = 112 ∨ dc5 = 119 := oc5
      refine gfX9_19 C dX9_toldOfEvening_73 hc5 rfl ?_
      obtain ⟨c6_0, c6_1, c6_2, c6_3, c6_4, c6_5, c6_6, c6_7, c6_8, c6_9, hc6⟩ := ty_ev hTy0 (Or.inl rfl)
      refine gfX9_155 C dX9_toldOfEvening_76 hc6 rfl ?_
      exact x_iretP C hr hlk (Nat.le_refl _) (Nat.le_refl _) dX9_toldOfEvening_79 ⟨rfl, c6_2, rfl, trivial⟩
    · refine x_tableIn C 80 dX9_toldOfEvening_1 (by omega) (by omega) (by rw [sx]; rfl) (by decide) ?_
      refine x_aload_n C 0 dX9_toldOfEvening_80 rfl rfl ?_
      obtain ⟨bc7, dc7, c7_10, c7_11, pc7, oc7, nc7, hc7⟩ := ty_0 hTy0
      have hbb_bc7 : bc7 = 112 ∨ bc7 = 119 := pc7
      have hbb_dc7 : dc7 = 112 ∨ dc7 = 119 := oc7
      refine gfX9_19 C dX9_toldOfEvening_81 hc7 rfl ?_
      obtain ⟨c8_0, c8_1, c8_2, c8_3, c8_4, c8_5, c8_6, c8_7, c8_8, c8_9, hc8⟩ := ty_ev hTy0 (Or.inl rfl)
      refine gfX9_134 C dX9_toldOfEvening_84 hc8 rfl ?_
      exact x_iretP C hr hlk (Nat.le_refl _) (Nat.le_refl _) dX9_toldOfEvening_87 ⟨rfl, c8_3, rfl, trivial⟩
    · refine x_tableIn C 88 dX9_toldOfEvening_1 (by omega) (by omega) (by rw [sx]; rfl) (by decide) ?_
      refine x_aload_n C 0 dX9_toldOfEvening_88 rfl rfl ?_
      obtain ⟨bc9, dc9, c9_10, c9_11, pc9, oc9, nc9, hc9⟩ := ty_0 hTy0
      have hbb_bc9 : bc9 = 112 ∨ bc9 = 119 := pc9
      have hbb_dc9 : dc9 = 112 ∨ dc9 = 119 := oc9
      refine gfX9_19 C dX9_toldOfEvening_89 hc9 rfl ?_
      obtain ⟨c10_0, c10_1, c10_2, c10_3, c10_4, c10_5, c10_6, c10_7, c10_8, c10_9, hc10⟩ := ty_ev hTy0 (Or.inl rfl)
      refine gfX9_158 C dX9_toldOfEvening_92 hc10 rfl ?_
      exact x_iretP C hr hlk (Nat.le_refl _) (Nat.le_refl _) dX9_toldOfEvening_95 ⟨rfl, c10_4, rfl, trivial⟩
    · refine x_tableIn C 96 dX9_toldOfEvening_1 (by omega) (by omega) (by rw [sx]; rfl) (by decide) ?_
      refine x_aload_n C 0 dX9_toldOfEvening_96 rfl rfl ?_
      obtain ⟨bc11, dc11, c11_10, c11_11, pc11, oc11, nc11, hc11⟩ := ty_0 hTy0
      have hbb_bc11 : bc11 = 112 ∨ bc11 = 119 := pc11
      have hbb_dc11 : dc11 = 112 ∨ dc11 = 119 := oc11
      refine gfX9_19 C dX9_toldOfEvening_97 hc11 rfl ?_
      obtain ⟨c12_0, c12_1, c12_2, c12_3, c12_4, c12_5, c12_6, c12_7, c12_8, c12_9, hc12⟩ := ty_ev hTy0 (Or.inl rfl)
      refine gfX9_161 C dX9_toldOfEvening_100 hc12 rfl ?_
      exact x_iretP C hr hlk (Nat.le_refl _) (Nat.le_refl _) dX9_toldOfEvening_103 ⟨rfl, c12_5, rfl, trivial⟩
    · refine x_tableIn C 104 dX9_toldOfEvening_1 (by omega) (by omega) (by rw [sx]; rfl) (by decide) ?_
      refine x_aload_n C 0 dX9_toldOfEvening_104 rfl rfl ?_
      obtain ⟨bc13, dc13, c13_10, c13_11, pc13, oc13, nc13, hc13⟩ := ty_0 hTy0
      have hbb_bc13 : bc13 = 112 ∨ bc13 = 119 := pc13
      have hbb_dc13 : dc13 = 112 ∨ dc13 = 119 := oc13
      refine gfX9_19 C dX9_toldOfEvening_105 hc13 rfl ?_
      obtain ⟨c14_0, c14_1, c14_2, c14_3, c14_4, c14_5, c14_6, c14_7, c14_8, c14_9, hc14⟩ := ty_ev hTy0 (Or.inl rfl)
      refine gfX9_164 C dX9_toldOfEvening_108 hc14 rfl ?_
      exact x_iretP C hr hlk (Nat.le_refl _) (Nat.le_refl _) dX9_toldOfEvening_111 ⟨rfl, c14_6, rfl, trivial⟩
    · refine x_tableIn C 112 dX9_toldOfEvening_1 (by omega) (by omega) (by rw [sx]; rfl) (by decide) ?_
      refine x_aload_n C 0 dX9_toldOfEvening_112 rfl rfl ?_
      obtain ⟨bc15, dc15, c15_10, c15_11, pc15, oc15, nc15, hc15⟩ := ty_0 hTy0
      have hbb_bc15 : bc15 = 112 ∨ bc15 = 119 := pc15
      have hbb_dc15 : dc15 = 112 ∨ dc15 = 119 := oc15
      refine gfX9_19 C dX9_toldOfEvening_113 hc15 rfl ?_
      obtain ⟨c16_0, c16_1, c16_2, c16_3, c16_4, c16_5, c16_6, c16_7, c16_8, c16_9, hc16⟩ := ty_ev hTy0 (Or.inl rfl)
      refine gfX9_167 C dX9_toldOfEvening_116 hc16 rfl ?_
      exact x_iretP C hr hlk (Nat.le_refl _) (Nat.le_refl _) dX9_toldOfEvening_119 ⟨rfl, c16_7, rfl, trivial⟩
    · refine x_tableIn C 120 dX9_toldOfEvening_1 (by omega) (by omega) (by rw [sx]; rfl) (by decide) ?_
      refine x_aload_n C 0 dX9_toldOfEvening_120 rfl rfl ?_
      obtain ⟨bc17, dc17, c17_10, c17_11, pc17, oc17, nc17, hc17⟩ := ty_0 hTy0
      have hbb_bc17 : bc17 = 112 ∨ bc17 = 119 := pc17
      have hbb_dc17 : dc17 = 112 ∨ dc17 = 119 := oc17
      refine gfX9_19 C dX9_toldOfEvening_121 hc17 rfl ?_
      obtain ⟨c18_0, c18_1, c18_2, c18_3, c18_4, c18_5, c18_6, c18_7, c18_8, c18_9, hc18⟩ := ty_ev hTy0 (Or.inl rfl)
      refine gfX9_170 C dX9_toldOfEvening_124 hc18 rfl ?_
      exact x_iretP C hr hlk (Nat.le_refl _) (Nat.le_refl _) dX9_toldOfEvening_127 ⟨rfl, c18_8, rfl, trivial⟩
    · refine x_tableIn C 128 dX9_toldOfEvening_1 (by omega) (by omega) (by rw [sx]; rfl) (by decide) ?_
      refine x_aload_n C 0 dX9_toldOfEvening_128 rfl rfl ?_
      obtain ⟨bc19, dc19, c19_10, c19_11, pc19, oc19, nc19, hc19⟩ := ty_0 hTy0
      have hbb_bc19 : bc19 = 112 ∨ bc19 = 119 := pc19
      have hbb_dc19 : dc19 = 112 ∨ dc19 = 119 := oc19
      refine gfX9_19 C dX9_toldOfEvening_129 hc19 rfl ?_
      obtain ⟨c20_0, c20_1, c20_2, c20_3, c20_4, c20_5, c20_6, c20_7, c20_8, c20_9, hc20⟩ := ty_ev hTy0 (Or.inl rfl)
      refine gfX9_173 C dX9_toldOfEvening_132 hc20 rfl ?_
      exact x_iretP C hr hlk (Nat.le_refl _) (Nat.le_refl _) dX9_toldOfEvening_135 ⟨rfl, c20_9, rfl, trivial⟩
set_option maxRecDepth 20000 in
set_option maxHeartbeats 2000000 in
theorem tc_X9_told {G : GT} {l : Launch} {z n : Nat} {ln : Int} (uu0 : HpT) (hTz0 : TyC G z ln uu0) (a1 : Int32) : Mp G l z yX9_told cX9_told 2 (some .int) { frames := 6, cells := 0, slots := 0, locals := 141 } [.ref (z + 0), .int a1] uu0 n (fun r v => TC G z ln uu0 v ∧ ∃ x : Int32, r = some (.int x) ∧ True) := by
  refine mp_of (by decide +kernel) (Nat.le_of_ble_eq_true rfl) ?_
  intro p e s m below meth c C hr hlk hnm
  have hTy0 : TC G z ln uu0 uu0 := TC.rf hTz0
  refine x_iload_n C 1 dX9_told_0 rfl rfl ?_
  by_cases sw1 : a1.toInt < 0 ∨ 20 < a1.toInt
  · refine x_tableOut C 203 dX9_told_1 sw1 (by decide) ?_
    refine x_aload_n C 0 dX9_told_203 rfl rfl ?_
    refine x_iload_n C 1 dX9_told_204 rfl rfl ?_
    obtain ⟨bc2, dc2, c2_10, c2_11, pc2, oc2, nc2, hc2⟩ := ty_0 hTy0
    have hbb_bc2 : bc2 = 112 ∨ bc2 = 119 := pc2
    have hbb_dc2 : dc2 = 112 ∨ dc2 = 119 := oc2
    refine x_callVP C cl_X9_toldOfEvening kmX9_145 (ci := 8) (b := 0) (As := [.int a1]) (rest := []) rfl hc2 (tc_X9_toldOfEvening uu0 hTy0.1 a1) rfl rfl (Nat.le_of_ble_eq_true rfl) ⟨Nat.le_of_ble_eq_true rfl, Nat.le_of_ble_eq_true rfl⟩ ⟨Nat.le_of_ble_eq_true rfl, Nat.le_of_ble_eq_true rfl⟩ dX9_told_205 ?_
    rintro _ _ ⟨rfl, r1, rfl, gr1⟩
    refine x_norm (st2 := [.int r1]) rfl rfl rfl rfl rfl ?_
    exact x_iretP C hr hlk (Nat.le_refl _) (Nat.le_refl _) dX9_told_208 ⟨hTy0, r1, rfl, trivial⟩
  · rcases (by omega : a1.toInt = 0 ∨ a1.toInt = 1 ∨ a1.toInt = 2 ∨ a1.toInt = 3 ∨ a1.toInt = 4 ∨ a1.toInt = 5 ∨ a1.toInt = 6 ∨ a1.toInt = 7 ∨ a1.toInt = 8 ∨ a1.toInt = 9 ∨ a1.toInt = 10 ∨ a1.toInt = 11 ∨ a1.toInt = 12 ∨ a1.toInt = 13 ∨ a1.toInt = 14 ∨ a1.toInt = 15 ∨ a1.toInt = 16 ∨ a1.toInt = 17 ∨ a1.toInt = 18 ∨ a1.toInt = 19 ∨ a1.toInt = 20) with sx | sx | sx | sx | sx | sx | sx | sx | sx | sx | sx | sx | sx | sx | sx | sx | sx | sx | sx | sx | sx
    · refine x_tableIn C 100 dX9_told_1 (by omega) (by omega) (by rw [sx]; rfl) (by decide) ?_
      refine x_aload_n C 0 dX9_told_100 rfl rfl ?_
      obtain ⟨bc4, dc4, c4_10, c4_11, pc4, oc4, nc4, hc4⟩ := ty_0 hTy0
      have hbb_bc4 : bc4 = 112 ∨ bc4 = 119 := pc4
      have hbb_dc4 : dc4 = 112 ∨ dc4 = 119 := oc4
      refine gfX9_65 C dX9_told_101 hc4 rfl ?_
      obtain ⟨c5_0, c5_1, c5_2, c5_3, hc5, qc5_0, qc5_1, qc5_2, qc5_3⟩ := ty_br hTy0 pc4
      refine gfX9_117 C dX9_told_104 hc5 rfl ?_
      exact x_iretP C hr hlk (Nat.le_refl _) (Nat.le_refl _) dX9_told_107 ⟨hTy0, c5_0, rfl, trivial⟩
    · refine x_tableIn C 108 dX9_told_1 (by omega) (by omega) (by rw [sx]; rfl) (by decide) ?_
      refine x_aload_n C 0 dX9_told_108 rfl rfl ?_
      obtain ⟨bc6, dc6, c6_10, c6_11, pc6, oc6, nc6, hc6⟩ := ty_0 hTy0
      have hbb_bc6 : bc6 = 112 ∨ bc6 = 119 := pc6
      have hbb_dc6 : dc6 = 112 ∨ dc6 = 119 := oc6
      refine gfX9_65 C dX9_told_109 hc6 rfl ?_
      obtain ⟨c7_0, c7_1, c7_2, c7_3, hc7, qc7_0, qc7_1, qc7_2, qc7_3⟩ := ty_br hTy0 pc6
      refine gfX9_120 C dX9_told_112 hc7 rfl ?_
      exact x_iretP C hr hlk (Nat.le_refl _) (Nat.le_refl _) dX9_told_115 ⟨hTy0, c7_1, rfl, trivial⟩
    · refine x_tableIn C 116 dX9_told_1 (by omega) (by omega) (by rw [sx]; rfl) (by decide) ?_
      refine x_aload_n C 0 dX9_told_116 rfl rfl ?_
      obtain ⟨bc8, dc8, c8_10, c8_11, pc8, oc8, nc8, hc8⟩ := ty_0 hTy0
      have hbb_bc8 : bc8 = 112 ∨ bc8 = 119 := pc8
      have hbb_dc8 : dc8 = 112 ∨ dc8 = 119 := oc8
      refine gfX9_65 C dX9_told_117 hc8 rfl ?_
      obtain ⟨c9_0, c9_1, c9_2, c9_3, hc9, qc9_0, qc9_1, qc9_2, qc9_3⟩ := ty_br hTy0 pc8
      refine gfX9_123 C dX9_told_120 hc9 rfl ?_
      exact x_iretP C hr hlk (Nat.le_refl _) (Nat.le_refl _) dX9_told_123 ⟨hTy0, c9_2, rfl, trivial⟩
    · refine x_tableIn C 124 dX9_told_1 (by omega) (by omega) (by rw [sx]; rfl) (by decide) ?_
      refine x_aload_n C 0 dX9_told_124 rfl rfl ?_
      obtain ⟨bc10, dc10, c10_10, c10_11, pc10, oc10, nc10, hc10⟩ := ty_0 hTy0
      have hbb_bc10 : bc10 = 112 ∨ bc10 = 119 := pc10
      have hbb_dc10 : dc10 = 112 ∨ dc10 = 119 := oc10
      refine gfX9_65 C dX9_told_125 hc10 rfl ?_
      obtain ⟨c11_0, c11_1, c11_2, c11_3, hc11, qc11_0, qc11_1, qc11_2, qc11_3⟩ := ty_br hTy0 pc10
      refine gfX9_103 C dX9_told_128 hc11 rfl ?_
      exact x_iretP C hr hlk (Nat.le_refl _) (Nat.le_refl _) dX9_told_131 ⟨hTy0, c11_3, rfl, trivial⟩
    · refine x_tableIn C 132 dX9_told_1 (by omega) (by omega) (by rw [sx]; rfl) (by decide) ?_
      refine x_aload_n C 0 dX9_told_132 rfl rfl ?_
      obtain ⟨bc12, dc12, c12_10, c12_11, pc12, oc12, nc12, hc12⟩ := ty_0 hTy0
      have hbb_bc12 : bc12 = 112 ∨ bc12 = 119 := pc12
      have hbb_dc12 : dc12 = 112 ∨ dc12 = 119 := oc12
      refine gfX9_10 C dX9_told_133 hc12 rfl ?_
      obtain ⟨c13_1, c13_2, c13_3, c13_4, hc13, qc13_0, qc13_1, qc13_2⟩ := ty_1 hTy0
      refine gfX9_85 C dX9_told_136 hc13 rfl ?_
      exact x_iretP C hr hlk (Nat.le_refl _) (Nat.le_refl _) dX9_told_139 ⟨hTy0, c13_1, rfl, trivial⟩
    · refine x_tableIn C 203 dX9_told_1 (by omega) (by omega) (by rw [sx]; rfl) (by decide) ?_
      refine x_aload_n C 0 dX9_told_203 rfl rfl ?_
      refine x_iload_n C 1 dX9_told_204 rfl rfl ?_
      obtain ⟨bc15, dc15, c15_10, c15_11, pc15, oc15, nc15, hc15⟩ := ty_0 hTy0
      have hbb_bc15 : bc15 = 112 ∨ bc15 = 119 := pc15
      have hbb_dc15 : dc15 = 112 ∨ dc15 = 119 := oc15
      refine x_callVP C cl_X9_toldOfEvening kmX9_145 (ci := 8) (b := 0) (As := [.int a1]) (rest := []) rfl hc15 (tc_X9_toldOfEvening uu0 hTy0.1 a1) rfl rfl (Nat.le_of_ble_eq_true rfl) ⟨Nat.le_of_ble_eq_true rfl, Nat.le_of_ble_eq_true rfl⟩ ⟨Nat.le_of_ble_eq_true rfl, Nat.le_of_ble_eq_true rfl⟩ dX9_told_205 ?_
      rintro _ _ ⟨rfl, r14, rfl, gr14⟩
      refine x_norm (st2 := [.int r14]) rfl rfl rfl rfl rfl ?_
      exact x_iretP C hr hlk (Nat.le_refl _) (Nat.le_refl _) dX9_told_208 ⟨hTy0, r14, rfl, trivial⟩
    · refine x_tableIn C 203 dX9_told_1 (by omega) (by omega) (by rw [sx]; rfl) (by decide) ?_
      refine x_aload_n C 0 dX9_told_203 rfl rfl ?_
      refine x_iload_n C 1 dX9_told_204 rfl rfl ?_
      obtain ⟨bc18, dc18, c18_10, c18_11, pc18, oc18, nc18, hc18⟩ := ty_0 hTy0
      have hbb_bc18 : bc18 = 112 ∨ bc18 = 119 := pc18
      have hbb_dc18 : dc18 = 112 ∨ dc18 = 119 := oc18
      refine x_callVP C cl_X9_toldOfEvening kmX9_145 (ci := 8) (b := 0) (As := [.int a1]) (rest := []) rfl hc18 (tc_X9_toldOfEvening uu0 hTy0.1 a1) rfl rfl (Nat.le_of_ble_eq_true rfl) ⟨Nat.le_of_ble_eq_true rfl, Nat.le_of_ble_eq_true rfl⟩ ⟨Nat.le_of_ble_eq_true rfl, Nat.le_of_ble_eq_true rfl⟩ dX9_told_205 ?_
      rintro _ _ ⟨rfl, r17, rfl, gr17⟩
      refine x_norm (st2 := [.int r17]) rfl rfl rfl rfl rfl ?_
      exact x_iretP C hr hlk (Nat.le_refl _) (Nat.le_refl _) dX9_told_208 ⟨hTy0, r17, rfl, trivial⟩
    · refine x_tableIn C 203 dX9_told_1 (by omega) (by omega) (by rw [sx]; rfl) (by decide) ?_
      refine x_aload_n C 0 dX9_told_203 rfl rfl ?_
      refine x_iload_n C 1 dX9_told_204 rfl rfl ?_
      obtain ⟨bc21, dc21, c21_10, c21_11, pc21, oc21, nc21, hc21⟩ := ty_0 hTy0
      have hbb_bc21 : bc21 = 112 ∨ bc21 = 119 := pc21
      have hbb_dc21 : dc21 = 112 ∨ dc21 = 119 := oc21
      refine x_callVP C cl_X9_toldOfEvening kmX9_145 (ci := 8) (b := 0) (As := [.int a1]) (rest := []) rfl hc21 (tc_X9_toldOfEvening uu0 hTy0.1 a1) rfl rfl (Nat.le_of_ble_eq_true rfl) ⟨Nat.le_of_ble_eq_true rfl, Nat.le_of_ble_eq_true rfl⟩ ⟨Nat.le_of_ble_eq_true rfl, Nat.le_of_ble_eq_true rfl⟩ dX9_told_205 ?_
      rintro _ _ ⟨rfl, r20, rfl, gr20⟩
      refine x_norm (st2 := [.int r20]) rfl rfl rfl rfl rfl ?_
      exact x_iretP C hr hlk (Nat.le_refl _) (Nat.le_refl _) dX9_told_208 ⟨hTy0, r20, rfl, trivial⟩
    · refine x_tableIn C 203 dX9_told_1 (by omega) (by omega) (by rw [sx]; rfl) (by decide) ?_
      refine x_aload_n C 0 dX9_told_203 rfl rfl ?_
      refine x_iload_n C 1 dX9_told_204 rfl rfl ?_
      obtain ⟨bc24, dc24, c24_10, c24_11, pc24, oc24, nc24, hc24⟩ := ty_0 hTy0
      have hbb_bc24 : bc24 = 112 ∨ bc24 = 119 := pc24
      have hbb_dc24 : dc24 = 112 ∨ dc24 = 119 := oc24
      refine x_callVP C cl_X9_toldOfEvening kmX9_145 (ci := 8) (b := 0) (As := [.int a1]) (rest := []) rfl hc24 (tc_X9_toldOfEvening uu0 hTy0.1 a1) rfl rfl (Nat.le_of_ble_eq_true rfl) ⟨Nat.le_of_ble_eq_true rfl, Nat.le_of_ble_eq_true rfl⟩ ⟨Nat.le_of_ble_eq_true rfl, Nat.le_of_ble_eq_true rfl⟩ dX9_told_205 ?_
      rintro _ _ ⟨rfl, r23, rfl, gr23⟩
      refine x_norm (st2 := [.int r23]) rfl rfl rfl rfl rfl ?_
      exact x_iretP C hr hlk (Nat.le_refl _) (Nat.le_refl _) dX9_told_208 ⟨hTy0, r23, rfl, trivial⟩
    · refine x_tableIn C 203 dX9_told_1 (by omega) (by omega) (by rw [sx]; rfl) (by decide) ?_
      refine x_aload_n C 0 dX9_told_203 rfl rfl ?_
      refine x_iload_n C 1 dX9_told_204 rfl rfl ?_
      obtain ⟨bc27, dc27, c27_10, c27_11, pc27, oc27, nc27, hc27⟩ := ty_0 hTy0
      have hbb_bc27 : bc27 = 112 ∨ bc27 = 119 := pc27
      have hbb_dc27 : dc27 = 112 ∨ dc27 = 119 := oc27
      refine x_callVP C cl_X9_toldOfEvening kmX9_145 (ci := 8) (b := 0) (As := [.int a1]) (rest := []) rfl hc27 (tc_X9_toldOfEvening uu0 hTy0.1 a1) rfl rfl (Nat.le_of_ble_eq_true rfl) ⟨Nat.le_of_ble_eq_true rfl, Nat.le_of_ble_eq_true rfl⟩ ⟨Nat.le_of_ble_eq_true rfl, Nat.le_of_ble_eq_true rfl⟩ dX9_told_205 ?_
      rintro _ _ ⟨rfl, r26, rfl, gr26⟩
      refine x_norm (st2 := [.int r26]) rfl rfl rfl rfl rfl ?_
      exact x_iretP C hr hlk (Nat.le_refl _) (Nat.le_refl _) dX9_told_208 ⟨hTy0, r26, rfl, trivial⟩
    · refine x_tableIn C 203 dX9_told_1 (by omega) (by omega) (by rw [sx]; rfl) (by decide) ?_
      refine x_aload_n C 0 dX9_told_203 rfl rfl ?_
      refine x_iload_n C 1 dX9_told_204 rfl rfl ?_
      obtain ⟨bc30, dc30, c30_10, c30_11, pc30, oc30, nc30, hc30⟩ := ty_0 hTy0
      have hbb_bc30 : bc30 = 112 ∨ bc30 = 119 := pc30
      have hbb_dc30 : dc30 = 112 ∨ dc30 = 119 := oc30
      refine x_callVP C cl_X9_toldOfEvening kmX9_145 (ci := 8) (b := 0) (As := [.int a1]) (rest := []) rfl hc30 (tc_X9_toldOfEvening uu0 hTy0.1 a1) rfl rfl (Nat.le_of_ble_eq_true rfl) ⟨Nat.le_of_ble_eq_true rfl, Nat.le_of_ble_eq_true rfl⟩ ⟨Nat.le_of_ble_eq_true rfl, Nat.le_of_ble_eq_true rfl⟩ dX9_told_205 ?_
      rintro _ _ ⟨rfl, r29, rfl, gr29⟩
      refine x_norm (st2 := [.int r29]) rfl rfl rfl rfl rfl ?_
      exact x_iretP C hr hlk (Nat.le_refl _) (Nat.le_refl _) dX9_told_208 ⟨hTy0, r29, rfl, trivial⟩
    · refine x_tableIn C 203 dX9_told_1 (by omega) (by omega) (by rw [sx]; rfl) (by decide) ?_
      refine x_aload_n C 0 dX9_told_203 rfl rfl ?_
      refine x_iload_n C 1 dX9_told_204 rfl rfl ?_
      obtain ⟨bc33, dc33, c33_10, c33_11, pc33, oc33, nc33, hc33⟩ := ty_0 hTy0
      have hbb_bc33 : bc33 = 112 ∨ bc33 = 119 := pc33
      have hbb_dc33 : dc33 = 112 ∨ dc33 = 119 := oc33
      refine x_callVP C cl_X9_toldOfEvening kmX9_145 (ci := 8) (b := 0) (As := [.int a1]) (rest := []) rfl hc33 (tc_X9_toldOfEvening uu0 hTy0.1 a1) rfl rfl (Nat.le_of_ble_eq_true rfl) ⟨Nat.le_of_ble_eq_true rfl, Nat.le_of_ble_eq_true rfl⟩ ⟨Nat.le_of_ble_eq_true rfl, Nat.le_of_ble_eq_true rfl⟩ dX9_told_205 ?_
      rintro _ _ ⟨rfl, r32, rfl, gr32⟩
      refine x_norm (st2 := [.int r32]) rfl rfl rfl rfl rfl ?_
      exact x_iretP C hr hlk (Nat.le_refl _) (Nat.le_refl _) dX9_told_208 ⟨hTy0, r32, rfl, trivial⟩
    · refine x_tableIn C 203 dX9_told_1 (by omega) (by omega) (by rw [sx]; rfl) (by decide) ?_
      refine x_aload_n C 0 dX9_told_203 rfl rfl ?_
      refine x_iload_n C 1 dX9_told_204 rfl rfl ?_
      obtain ⟨bc36, dc36, c36_10, c36_11, pc36, oc36, nc36, hc36⟩ := ty_0 hTy0
      have hbb_bc36 : bc36 = 112 ∨ bc36 = 119 := pc36
      have hbb_dc36 : dc36 = 112 ∨ dc36 = 119 := oc36
      refine x_callVP C cl_X9_toldOfEvening kmX9_145 (ci := 8) (b := 0) (As := [.int a1]) (rest := []) rfl hc36 (tc_X9_toldOfEvening uu0 hTy0.1 a1) rfl rfl (Nat.le_of_ble_eq_true rfl) ⟨Nat.le_of_ble_eq_true rfl, Nat.le_of_ble_eq_true rfl⟩ ⟨Nat.le_of_ble_eq_true rfl, Nat.le_of_ble_eq_true rfl⟩ dX9_told_205 ?_
      rintro _ _ ⟨rfl, r35, rfl, gr35⟩
      refine x_norm (st2 := [.int r35]) rfl rfl rfl rfl rfl ?_
      exact x_iretP C hr hlk (Nat.le_refl _) (Nat.le_refl _) dX9_told_208 ⟨hTy0, r35, rfl, trivial⟩
    · refine x_tableIn C 203 dX9_told_1 (by omega) (by omega) (by rw [sx]; rfl) (by decide) ?_
      refine x_aload_n C 0 dX9_told_203 rfl rfl ?_
      refine x_iload_n C 1 dX9_told_204 rfl rfl ?_
      obtain ⟨bc39, dc39, c39_10, c39_11, pc39, oc39, nc39, hc39⟩ := ty_0 hTy0
      have hbb_bc39 : bc39 = 112 ∨ bc39 = 119 := pc39
      have hbb_dc39 : dc39 = 112 ∨ dc39 = 119 := oc39
      refine x_callVP C cl_X9_toldOfEvening kmX9_145 (ci := 8) (b := 0) (As := [.int a1]) (rest := []) rfl hc39 (tc_X9_toldOfEvening uu0 hTy0.1 a1) rfl rfl (Nat.le_of_ble_eq_true rfl) ⟨Nat.le_of_ble_eq_true rfl, Nat.le_of_ble_eq_true rfl⟩ ⟨Nat.le_of_ble_eq_true rfl, Nat.le_of_ble_eq_true rfl⟩ dX9_told_205 ?_
      rintro _ _ ⟨rfl, r38, rfl, gr38⟩
      refine x_norm (st2 := [.int r38]) rfl rfl rfl rfl rfl ?_
      exact x_iretP C hr hlk (Nat.le_refl _) (Nat.le_refl _) dX9_told_208 ⟨hTy0, r38, rfl, trivial⟩
    · refine x_tableIn C 203 dX9_told_1 (by omega) (by omega) (by rw [sx]; rfl) (by decide) ?_
      refine x_aload_n C 0 dX9_told_203 rfl rfl ?_
      refine x_iload_n C 1 dX9_told_204 rfl rfl ?_
      obtain ⟨bc42, dc42, c42_10, c42_11, pc42, oc42, nc42, hc42⟩ := ty_0 hTy0
      have hbb_bc42 : bc42 = 112 ∨ bc42 = 119 := pc42
      have hbb_dc42 : dc42 = 112 ∨ dc42 = 119 := oc42
      refine x_callVP C cl_X9_toldOfEvening kmX9_145 (ci := 8) (b := 0) (As := [.int a1]) (rest := []) rfl hc42 (tc_X9_toldOfEvening uu0 hTy0.1 a1) rfl rfl (Nat.le_of_ble_eq_true rfl) ⟨Nat.le_of_ble_eq_true rfl, Nat.le_of_ble_eq_true rfl⟩ ⟨Nat.le_of_ble_eq_true rfl, Nat.le_of_ble_eq_true rfl⟩ dX9_told_205 ?_
      rintro _ _ ⟨rfl, r41, rfl, gr41⟩
      refine x_norm (st2 := [.int r41]) rfl rfl rfl rfl rfl ?_
      exact x_iretP C hr hlk (Nat.le_refl _) (Nat.le_refl _) dX9_told_208 ⟨hTy0, r41, rfl, trivial⟩
    · refine x_tableIn C 140 dX9_told_1 (by omega) (by omega) (by rw [sx]; rfl) (by decide) ?_
      refine x_aload_n C 0 dX9_told_140 rfl rfl ?_
      obtain ⟨bc44, dc44, c44_10, c44_11, pc44, oc44, nc44, hc44⟩ := ty_0 hTy0
      have hbb_bc44 : bc44 = 112 ∨ bc44 = 119 := pc44
      have hbb_dc44 : dc44 = 112 ∨ dc44 = 119 := oc44
      refine gfX9_65 C dX9_told_141 hc44 rfl ?_
      obtain ⟨c46_0, c46_1, c46_2, c46_3, hc46, qc46_0, qc46_1, qc46_2, qc46_3⟩ := ty_br hTy0 pc44
      refine x_callVP C cl_X1_nobodys kmX9_126 (ci := 0) (b := bc44) (As := []) (rest := []) rfl hc46 (tc_X1_nobodys uu0 hTy0.1 bc44 pc44) rfl rfl (Nat.le_of_ble_eq_true rfl) ⟨Nat.le_of_ble_eq_true rfl, Nat.le_of_ble_eq_true rfl⟩ ⟨Nat.le_of_ble_eq_true rfl, Nat.le_of_ble_eq_true rfl⟩ dX9_told_144 ?_
      rintro _ _ ⟨rfl, r45, rfl, gr45⟩
      refine x_norm (st2 := [.int r45]) rfl rfl rfl rfl rfl ?_
      exact x_iretP C hr hlk (Nat.le_refl _) (Nat.le_refl _) dX9_told_147 ⟨hTy0, r45, rfl, trivial⟩
    · refine x_tableIn C 148 dX9_told_1 (by omega) (by omega) (by rw [sx]; rfl) (by decide) ?_
      refine x_aload_n C 0 dX9_told_148 rfl rfl ?_
      obtain ⟨bc48, dc48, c48_10, c48_11, pc48, oc48, nc48, hc48⟩ := ty_0 hTy0
      have hbb_bc48 : bc48 = 112 ∨ bc48 = 119 := pc48
      have hbb_dc48 : dc48 = 112 ∨ dc48 = 119 := oc48
      refine gfX9_19 C dX9_told_149 hc48 rfl ?_
      refine x_aload_n C 0 dX9_told_152 rfl rfl ?_
      refine gfX9_65 C dX9_told_153 hc48 rfl ?_
      obtain ⟨c50_0, c50_1, c50_2, c50_3, c50_4, c50_5, c50_6, c50_7, c50_8, c50_9, hc50⟩ := ty_ev hTy0 (Or.inl rfl)
      refine x_callVP C cl_X3_longestSat kmX9_130 (ci := 2) (b := 3) (As := [.ref (z + bc48)]) (rest := []) rfl hc50 (tc_X3_longestSat uu0 hTy0.1 bc48 pc48) rfl rfl (Nat.le_of_ble_eq_true rfl) ⟨Nat.le_of_ble_eq_true rfl, Nat.le_of_ble_eq_true rfl⟩ ⟨Nat.le_of_ble_eq_true rfl, Nat.le_of_ble_eq_true rfl⟩ dX9_told_156 ?_
      rintro _ _ ⟨rfl, r49, rfl, gr49⟩
      refine x_norm (st2 := [.int r49]) rfl rfl rfl rfl rfl ?_
      exact x_iretP C hr hlk (Nat.le_refl _) (Nat.le_refl _) dX9_told_159 ⟨hTy0, r49, rfl, trivial⟩
    · refine x_tableIn C 160 dX9_told_1 (by omega) (by omega) (by rw [sx]; rfl) (by decide) ?_
      refine x_aload_n C 0 dX9_told_160 rfl rfl ?_
      obtain ⟨bc52, dc52, c52_10, c52_11, pc52, oc52, nc52, hc52⟩ := ty_0 hTy0
      have hbb_bc52 : bc52 = 112 ∨ bc52 = 119 := pc52
      have hbb_dc52 : dc52 = 112 ∨ dc52 = 119 := oc52
      refine gfX9_39 C dX9_told_161 hc52 rfl ?_
      refine x_aload_n C 0 dX9_told_164 rfl rfl ?_
      refine gfX9_65 C dX9_told_165 hc52 rfl ?_
      refine x_aload_n C 0 dX9_told_168 rfl rfl ?_
      refine gfX9_19 C dX9_told_169 hc52 rfl ?_
      obtain ⟨c53_0, c53_1, c53_2, c53_3, c53_4, c53_5, c53_6, c53_7, c53_8, c53_9, hc53⟩ := ty_ev hTy0 (Or.inl rfl)
      refine gfX9_134 C dX9_told_172 hc53 rfl ?_
      obtain ⟨c55_1, c55_2, c55_3, hc55⟩ := ty_99 hTy0
      refine x_callVP C cl_X8_bestToLearn kmX9_137 (ci := 7) (b := 99) (As := [.ref (z + bc52), .int c53_3]) (rest := []) rfl hc55 (tc_X8_bestToLearn uu0 hTy0.1 bc52 pc52 c53_3) rfl rfl (Nat.le_of_ble_eq_true rfl) ⟨Nat.le_of_ble_eq_true rfl, Nat.le_of_ble_eq_true rfl⟩ ⟨Nat.le_of_ble_eq_true rfl, Nat.le_of_ble_eq_true rfl⟩ dX9_told_175 ?_
      rintro _ u56 ⟨ju56, r54, rfl, gr54⟩
      have hTu56 := hTy0.tr ju56
      refine x_norm (st2 := [.int r54]) rfl rfl rfl rfl rfl ?_
      exact x_iretP C hr hlk (Nat.le_refl _) (Nat.le_refl _) dX9_told_178 ⟨hTu56, r54, rfl, trivial⟩
    · refine x_tableIn C 179 dX9_told_1 (by omega) (by omega) (by rw [sx]; rfl) (by decide) ?_
      refine x_aload_n C 0 dX9_told_179 rfl rfl ?_
      obtain ⟨bc57, dc57, c57_10, c57_11, pc57, oc57, nc57, hc57⟩ := ty_0 hTy0
      have hbb_bc57 : bc57 = 112 ∨ bc57 = 119 := pc57
      have hbb_dc57 : dc57 = 112 ∨ dc57 = 119 := oc57
      refine gfX9_55 C dX9_told_180 hc57 rfl ?_
      obtain ⟨c58_2, hc58, qc58_0, qc58_1⟩ := ty_en hTy0 (Or.inl ⟨rfl, rfl⟩)
      refine gfX9_141 C dX9_told_183 hc58 rfl ?_
      exact x_iretP C hr hlk (Nat.le_refl _) (Nat.le_refl _) dX9_told_186 ⟨hTy0, c58_2, rfl, trivial⟩
    · refine x_tableIn C 187 dX9_told_1 (by omega) (by omega) (by rw [sx]; rfl) (by decide) ?_
      refine x_aload_n C 0 dX9_told_187 rfl rfl ?_
      obtain ⟨bc59, dc59, c59_10, c59_11, pc59, oc59, nc59, hc59⟩ := ty_0 hTy0
      have hbb_bc59 : bc59 = 112 ∨ bc59 = 119 := pc59
      have hbb_dc59 : dc59 = 112 ∨ dc59 = 119 := oc59
      refine gfX9_59 C dX9_told_188 hc59 rfl ?_
      obtain ⟨c60_2, hc60, qc60_0, qc60_1⟩ := ty_en hTy0 (Or.inr ⟨rfl, rfl⟩)
      refine gfX9_141 C dX9_told_191 hc60 rfl ?_
      exact x_iretP C hr hlk (Nat.le_refl _) (Nat.le_refl _) dX9_told_194 ⟨hTy0, c60_2, rfl, trivial⟩
    · refine x_tableIn C 195 dX9_told_1 (by omega) (by omega) (by rw [sx]; rfl) (by decide) ?_
      refine x_aload_n C 0 dX9_told_195 rfl rfl ?_
      obtain ⟨bc61, dc61, c61_10, c61_11, pc61, oc61, nc61, hc61⟩ := ty_0 hTy0
      have hbb_bc61 : bc61 = 112 ∨ bc61 = 119 := pc61
      have hbb_dc61 : dc61 = 112 ∨ dc61 = 119 := oc61
      refine gfX9_26 C dX9_told_196 hc61 rfl ?_
      obtain ⟨c62_1, c62_2, hc62, qc62_0, qc62_1, qc62_2, qc62_3⟩ := ty_6 hTy0
      refine gfX9_144 C dX9_told_199 hc62 rfl ?_
      exact x_iretP C hr hlk (Nat.le_refl _) (Nat.le_refl _) dX9_told_202 ⟨hTy0, c62_1, rfl, trivial⟩
set_option maxRecDepth 20000 in
set_option maxHeartbeats 2000000 in
theorem tc_X9_matter {G : GT} {l : Launch} {z n : Nat} {ln : Int} (uu0 : HpT) (hTz0 : TyC G z ln uu0) (a1 : Int32) (a2 : Int32) : Mp G l z yX9_matter cX9_matter 3 (some .int) { frames := 3, cells := 0, slots := 0, locals := 67 } [.ref (z + 0), .int a1, .int a2] uu0 n (fun r v => uu0 = v ∧ ∃ x : Int32, r = some (.int x) ∧ True) := by
  refine mp_of (by decide +kernel) (Nat.le_of_ble_eq_true rfl) ?_
  intro p e s m below meth c C hr hlk hnm
  have hTy0 : TC G z ln uu0 uu0 := TC.rf hTz0
  refine x_aload_n C 0 dX9_matter_0 rfl rfl ?_
  obtain ⟨bc1, dc1, c1_10, c1_11, pc1, oc1, nc1, hc1⟩ := ty_0 hTy0
  have hbb_bc1 : bc1 = 112 ∨ bc1 = 119 := pc1
  have hbb_dc1 : dc1 = 112 ∨ dc1 = 119 := oc1
  refine gfX9_65 C dX9_matter_1 hc1 rfl ?_
  refine x_iload_n C 1 dX9_matter_4 rfl rfl ?_
  obtain ⟨c3_0, c3_1, c3_2, c3_3, hc3, qc3_0, qc3_1, qc3_2, qc3_3⟩ := ty_br hTy0 pc1
  refine x_callVP C cl_X1_hasMatter kmX9_176 (ci := 0) (b := bc1) (As := [.int a1]) (rest := []) rfl hc3 (tc_X1_hasMatter uu0 hTy0.1 bc1 pc1 a1) rfl rfl (Nat.le_of_ble_eq_true rfl) ⟨Nat.le_of_ble_eq_true rfl, Nat.le_of_ble_eq_true rfl⟩ ⟨Nat.le_of_ble_eq_true rfl, Nat.le_of_ble_eq_true rfl⟩ dX9_matter_5 ?_
  rintro _ _ ⟨rfl, r2, rfl, gr2⟩
  refine x_norm (st2 := [.int r2]) rfl rfl rfl rfl rfl ?_
  have l_0 : (0 : Int32).toInt = 0 := by decide
  refine x_if_ne C 14 dX9_matter_8 (by decide) (fun q5 => ?_) (fun q5 => ?_)
  · have rq5 : ¬ r2.toInt = (0 : Int32).toInt := by rw [i_eq_iff] at q5; omega
    refine x_iload_n C 2 dX9_matter_14 rfl rfl ?_
    by_cases sw15 : a2.toInt < 0 ∨ 3 < a2.toInt
    · refine x_tableOut C 82 dX9_matter_15 sw15 (by decide) ?_
      refine x_ldc C kcX9_80 dX9_matter_82 ?_
      have l_m1000000002 : (-1000000002 : Int32).toInt = -1000000002 := by decide
      exact x_iretP C hr hlk (Nat.le_refl _) (Nat.le_refl _) dX9_matter_84 ⟨rfl, (-1000000002 : Int32), rfl, trivial⟩
    · rcases (by omega : a2.toInt = 0 ∨ a2.toInt = 1 ∨ a2.toInt = 2 ∨ a2.toInt = 3) with sx | sx | sx | sx
      · refine x_tableIn C 44 dX9_matter_15 (by omega) (by omega) (by rw [sx]; rfl) (by decide) ?_
        refine x_aload_n C 0 dX9_matter_44 rfl rfl ?_
        refine gfX9_65 C dX9_matter_45 hc1 rfl ?_
        refine gfX9_180 C dX9_matter_48 hc3 rfl ?_
        refine x_iload_n C 1 dX9_matter_51 rfl rfl ?_
        obtain ⟨f6, hf6⟩ := ty_brA hTy0 pc1 1 8 (by omega)
        refine x_iald C hf6 (i_in (by omega) (by omega)) dX9_matter_52 ?_
        refine x_top (fun w7 ew7 => ?_)
        exact x_iretP C hr hlk (Nat.le_refl _) (Nat.le_refl _) dX9_matter_53 ⟨rfl, w7, rfl, trivial⟩
      · refine x_tableIn C 54 dX9_matter_15 (by omega) (by omega) (by rw [sx]; rfl) (by decide) ?_
        refine x_aload_n C 0 dX9_matter_54 rfl rfl ?_
        refine gfX9_65 C dX9_matter_55 hc1 rfl ?_
        refine gfX9_184 C dX9_matter_58 hc3 rfl ?_
        refine x_iload_n C 1 dX9_matter_61 rfl rfl ?_
        obtain ⟨f8, hf8⟩ := ty_brA hTy0 pc1 2 8 (by omega)
        refine x_iald C hf8 (i_in (by omega) (by omega)) dX9_matter_62 ?_
        refine x_top (fun w9 ew9 => ?_)
        exact x_iretP C hr hlk (Nat.le_refl _) (Nat.le_refl _) dX9_matter_63 ⟨rfl, w9, rfl, trivial⟩
      · refine x_tableIn C 64 dX9_matter_15 (by omega) (by omega) (by rw [sx]; rfl) (by decide) ?_
        refine x_aload_n C 0 dX9_matter_64 rfl rfl ?_
        refine gfX9_65 C dX9_matter_65 hc1 rfl ?_
        refine x_iload_n C 1 dX9_matter_68 rfl rfl ?_
        refine x_callVP C cl_X1_leadsFrom kmX9_187 (ci := 0) (b := bc1) (As := [.int a1]) (rest := []) rfl hc3 (tc_X1_leadsFrom uu0 hTy0.1 bc1 pc1 a1) rfl rfl (Nat.le_of_ble_eq_true rfl) ⟨Nat.le_of_ble_eq_true rfl, Nat.le_of_ble_eq_true rfl⟩ ⟨Nat.le_of_ble_eq_true rfl, Nat.le_of_ble_eq_true rfl⟩ dX9_matter_69 ?_
        rintro _ _ ⟨rfl, r10, rfl, gr10⟩
        refine x_norm (st2 := [.int r10]) rfl rfl rfl rfl rfl ?_
        exact x_iretP C hr hlk (Nat.le_refl _) (Nat.le_refl _) dX9_matter_72 ⟨rfl, r10, rfl, trivial⟩
      · refine x_tableIn C 73 dX9_matter_15 (by omega) (by omega) (by rw [sx]; rfl) (by decide) ?_
        refine x_aload_n C 0 dX9_matter_73 rfl rfl ?_
        refine gfX9_65 C dX9_matter_74 hc1 rfl ?_
        refine x_iload_n C 1 dX9_matter_77 rfl rfl ?_
        refine x_callVP C cl_X1_stepsRound kmX9_190 (ci := 0) (b := bc1) (As := [.int a1]) (rest := []) rfl hc3 (tc_X1_stepsRound uu0 hTy0.1 bc1 pc1 a1) rfl rfl (Nat.le_of_ble_eq_true rfl) ⟨Nat.le_of_ble_eq_true rfl, Nat.le_of_ble_eq_true rfl⟩ ⟨Nat.le_of_ble_eq_true rfl, Nat.le_of_ble_eq_true rfl⟩ dX9_matter_78 ?_
        rintro _ _ ⟨rfl, r12, rfl, gr12⟩
        refine x_norm (st2 := [.int r12]) rfl rfl rfl rfl rfl ?_
        exact x_iretP C hr hlk (Nat.le_refl _) (Nat.le_refl _) dX9_matter_81 ⟨rfl, r12, rfl, trivial⟩
  · have rq5 : r2.toInt = (0 : Int32).toInt := by rw [i_eq_iff] at q5; omega
    refine x_ldc C kcX9_179 dX9_matter_11 ?_
    have l_m1000000001 : (-1000000001 : Int32).toInt = -1000000001 := by decide
    exact x_iretP C hr hlk (Nat.le_refl _) (Nat.le_refl _) dX9_matter_13 ⟨rfl, (-1000000001 : Int32), rfl, trivial⟩
set_option maxRecDepth 20000 in
set_option maxHeartbeats 2000000 in
theorem tc_X9_traveller {G : GT} {l : Launch} {z n : Nat} {ln : Int} (uu0 : HpT) (hTz0 : TyC G z ln uu0) (a1 : Int32) (a2 : Int32) : Mp G l z yX9_traveller cX9_traveller 3 (some .int) { frames := 3, cells := 0, slots := 0, locals := 68 } [.ref (z + 0), .int a1, .int a2] uu0 n (fun r v => uu0 = v ∧ ∃ x : Int32, r = some (.int x) ∧ True) := by
  refine mp_of (by decide +kernel) (Nat.le_of_ble_eq_true rfl) ?_
  intro p e s m below meth c C hr hlk hnm
  have hTy0 : TC G z ln uu0 uu0 := TC.rf hTz0
  refine x_aload_n C 0 dX9_traveller_0 rfl rfl ?_
  obtain ⟨bc1, dc1, c1_10, c1_11, pc1, oc1, nc1, hc1⟩ := ty_0 hTy0
  have hbb_bc1 : bc1 = 112 ∨ bc1 = 119 := pc1
  have hbb_dc1 : dc1 = 112 ∨ dc1 = 119 := oc1
  refine gfX9_65 C dX9_traveller_1 hc1 rfl ?_
  refine x_iload_n C 1 dX9_traveller_4 rfl rfl ?_
  obtain ⟨c3_0, c3_1, c3_2, c3_3, hc3, qc3_0, qc3_1, qc3_2, qc3_3⟩ := ty_br hTy0 pc1
  refine x_callVP C cl_X1_hasTraveller kmX9_193 (ci := 0) (b := bc1) (As := [.int a1]) (rest := []) rfl hc3 (tc_X1_hasTraveller uu0 hTy0.1 bc1 pc1 a1) rfl rfl (Nat.le_of_ble_eq_true rfl) ⟨Nat.le_of_ble_eq_true rfl, Nat.le_of_ble_eq_true rfl⟩ ⟨Nat.le_of_ble_eq_true rfl, Nat.le_of_ble_eq_true rfl⟩ dX9_traveller_5 ?_
  rintro _ _ ⟨rfl, r2, rfl, gr2⟩
  refine x_norm (st2 := [.int r2]) rfl rfl rfl rfl rfl ?_
  have l_0 : (0 : Int32).toInt = 0 := by decide
  refine x_if_ne C 14 dX9_traveller_8 (by decide) (fun q5 => ?_) (fun q5 => ?_)
  · have rq5 : ¬ r2.toInt = (0 : Int32).toInt := by rw [i_eq_iff] at q5; omega
    refine x_iload_n C 2 dX9_traveller_14 rfl rfl ?_
    by_cases sw15 : a2.toInt < 0 ∨ 6 < a2.toInt
    · refine x_tableOut C 128 dX9_traveller_15 sw15 (by decide) ?_
      refine x_ldc C kcX9_80 dX9_traveller_128 ?_
      have l_m1000000002 : (-1000000002 : Int32).toInt = -1000000002 := by decide
      exact x_iretP C hr hlk (Nat.le_refl _) (Nat.le_refl _) dX9_traveller_130 ⟨rfl, (-1000000002 : Int32), rfl, trivial⟩
    · rcases (by omega : a2.toInt = 0 ∨ a2.toInt = 1 ∨ a2.toInt = 2 ∨ a2.toInt = 3 ∨ a2.toInt = 4 ∨ a2.toInt = 5 ∨ a2.toInt = 6) with sx | sx | sx | sx | sx | sx | sx
      · refine x_tableIn C 56 dX9_traveller_15 (by omega) (by omega) (by rw [sx]; rfl) (by decide) ?_
        refine x_aload_n C 0 dX9_traveller_56 rfl rfl ?_
        refine gfX9_65 C dX9_traveller_57 hc1 rfl ?_
        refine gfX9_196 C dX9_traveller_60 hc3 rfl ?_
        refine x_iload_n C 1 dX9_traveller_63 rfl rfl ?_
        obtain ⟨f6, hf6⟩ := ty_brA hTy0 pc1 3 6 (by omega)
        refine x_iald C hf6 (i_in (by omega) (by omega)) dX9_traveller_64 ?_
        refine x_top (fun w7 ew7 => ?_)
        exact x_iretP C hr hlk (Nat.le_refl _) (Nat.le_refl _) dX9_traveller_65 ⟨rfl, w7, rfl, trivial⟩
      · refine x_tableIn C 66 dX9_traveller_15 (by omega) (by omega) (by rw [sx]; rfl) (by decide) ?_
        refine x_aload_n C 0 dX9_traveller_66 rfl rfl ?_
        refine gfX9_65 C dX9_traveller_67 hc1 rfl ?_
        refine gfX9_199 C dX9_traveller_70 hc3 rfl ?_
        refine x_iload_n C 1 dX9_traveller_73 rfl rfl ?_
        obtain ⟨f8, hf8⟩ := ty_brA hTy0 pc1 4 6 (by omega)
        refine x_iald C hf8 (i_in (by omega) (by omega)) dX9_traveller_74 ?_
        refine x_top (fun w9 ew9 => ?_)
        exact x_iretP C hr hlk (Nat.le_refl _) (Nat.le_refl _) dX9_traveller_75 ⟨rfl, w9, rfl, trivial⟩
      · refine x_tableIn C 76 dX9_traveller_15 (by omega) (by omega) (by rw [sx]; rfl) (by decide) ?_
        refine x_aload_n C 0 dX9_traveller_76 rfl rfl ?_
        refine gfX9_65 C dX9_traveller_77 hc1 rfl ?_
        refine gfX9_202 C dX9_traveller_80 hc3 rfl ?_
        refine x_iload_n C 1 dX9_traveller_83 rfl rfl ?_
        obtain ⟨f10, hf10⟩ := ty_brA hTy0 pc1 5 6 (by omega)
        refine x_iald C hf10 (i_in (by omega) (by omega)) dX9_traveller_84 ?_
        refine x_top (fun w11 ew11 => ?_)
        exact x_iretP C hr hlk (Nat.le_refl _) (Nat.le_refl _) dX9_traveller_85 ⟨rfl, w11, rfl, trivial⟩
      · refine x_tableIn C 86 dX9_traveller_15 (by omega) (by omega) (by rw [sx]; rfl) (by decide) ?_
        refine x_aload_n C 0 dX9_traveller_86 rfl rfl ?_
        refine gfX9_19 C dX9_traveller_87 hc1 rfl ?_
        obtain ⟨c12_0, c12_1, c12_2, c12_3, c12_4, c12_5, c12_6, c12_7, c12_8, c12_9, hc12⟩ := ty_ev hTy0 (Or.inl rfl)
        refine gfX9_205 C dX9_traveller_90 hc12 rfl ?_
        refine x_iload_n C 1 dX9_traveller_93 rfl rfl ?_
        obtain ⟨f13, hf13⟩ := ty_evA hTy0 (Or.inl rfl) 2 (by decide) (by decide)
        refine x_iald C hf13 (i_in (by omega) (by omega)) dX9_traveller_94 ?_
        refine x_top (fun w14 ew14 => ?_)
        exact x_iretP C hr hlk (Nat.le_refl _) (Nat.le_refl _) dX9_traveller_95 ⟨rfl, w14, rfl, trivial⟩
      · refine x_tableIn C 96 dX9_traveller_15 (by omega) (by omega) (by rw [sx]; rfl) (by decide) ?_
        refine x_aload_n C 0 dX9_traveller_96 rfl rfl ?_
        refine gfX9_19 C dX9_traveller_97 hc1 rfl ?_
        obtain ⟨c15_0, c15_1, c15_2, c15_3, c15_4, c15_5, c15_6, c15_7, c15_8, c15_9, hc15⟩ := ty_ev hTy0 (Or.inl rfl)
        refine gfX9_208 C dX9_traveller_100 hc15 rfl ?_
        refine x_iload_n C 1 dX9_traveller_103 rfl rfl ?_
        obtain ⟨f16, hf16⟩ := ty_evA hTy0 (Or.inl rfl) 1 (by decide) (by decide)
        refine x_iald C hf16 (i_in (by omega) (by omega)) dX9_traveller_104 ?_
        refine x_top (fun w17 ew17 => ?_)
        exact x_iretP C hr hlk (Nat.le_refl _) (Nat.le_refl _) dX9_traveller_105 ⟨rfl, w17, rfl, trivial⟩
      · refine x_tableIn C 106 dX9_traveller_15 (by omega) (by omega) (by rw [sx]; rfl) (by decide) ?_
        refine x_aload_n C 0 dX9_traveller_106 rfl rfl ?_
        refine gfX9_19 C dX9_traveller_107 hc1 rfl ?_
        refine x_aload_n C 0 dX9_traveller_110 rfl rfl ?_
        refine gfX9_65 C dX9_traveller_111 hc1 rfl ?_
        refine x_iload_n C 1 dX9_traveller_114 rfl rfl ?_
        obtain ⟨c19_0, c19_1, c19_2, c19_3, c19_4, c19_5, c19_6, c19_7, c19_8, c19_9, hc19⟩ := ty_ev hTy0 (Or.inl rfl)
        refine x_callVP C cl_X3_patienceOf kmX9_211 (ci := 2) (b := 3) (As := [.ref (z + bc1), .int a1]) (rest := []) rfl hc19 (tc_X3_patienceOf uu0 hTy0.1 bc1 pc1 a1) rfl rfl (Nat.le_of_ble_eq_true rfl) ⟨Nat.le_of_ble_eq_true rfl, Nat.le_of_ble_eq_true rfl⟩ ⟨Nat.le_of_ble_eq_true rfl, Nat.le_of_ble_eq_true rfl⟩ dX9_traveller_115 ?_
        rintro _ _ ⟨rfl, r18, rfl, gr18⟩
        refine x_norm (st2 := [.int r18]) rfl rfl rfl rfl rfl ?_
        exact x_iretP C hr hlk (Nat.le_refl _) (Nat.le_refl _) dX9_traveller_118 ⟨rfl, r18, rfl, trivial⟩
      · refine x_tableIn C 119 dX9_traveller_15 (by omega) (by omega) (by rw [sx]; rfl) (by decide) ?_
        refine x_aload_n C 0 dX9_traveller_119 rfl rfl ?_
        refine gfX9_65 C dX9_traveller_120 hc1 rfl ?_
        refine x_iload_n C 1 dX9_traveller_123 rfl rfl ?_
        refine x_callVP C cl_X1_favouriteOf kmX9_214 (ci := 0) (b := bc1) (As := [.int a1]) (rest := []) rfl hc3 (tc_X1_favouriteOf uu0 hTy0.1 bc1 pc1 a1) rfl rfl (Nat.le_of_ble_eq_true rfl) ⟨Nat.le_of_ble_eq_true rfl, Nat.le_of_ble_eq_true rfl⟩ ⟨Nat.le_of_ble_eq_true rfl, Nat.le_of_ble_eq_true rfl⟩ dX9_traveller_124 ?_
        rintro _ _ ⟨rfl, r21, rfl, gr21⟩
        refine x_norm (st2 := [.int r21]) rfl rfl rfl rfl rfl ?_
        exact x_iretP C hr hlk (Nat.le_refl _) (Nat.le_refl _) dX9_traveller_127 ⟨rfl, r21, rfl, trivial⟩
  · have rq5 : r2.toInt = (0 : Int32).toInt := by rw [i_eq_iff] at q5; omega
    refine x_ldc C kcX9_179 dX9_traveller_11 ?_
    have l_m1000000001 : (-1000000001 : Int32).toInt = -1000000001 := by decide
    exact x_iretP C hr hlk (Nat.le_refl _) (Nat.le_refl _) dX9_traveller_13 ⟨rfl, (-1000000001 : Int32), rfl, trivial⟩
set_option maxRecDepth 20000 in
set_option maxHeartbeats 2000000 in
theorem tc_X9_seat {G : GT} {l : Launch} {z n : Nat} {ln : Int} (uu0 : HpT) (hTz0 : TyC G z ln uu0) (a1 : Int32) : Mp G l z yX9_seat cX9_seat 2 (some .int) { frames := 2, cells := 0, slots := 0, locals := 43 } [.ref (z + 0), .int a1] uu0 n (fun r v => TC G z ln uu0 v ∧ ∃ x : Int32, r = some (.int x) ∧ True) := by
  refine mp_of (by decide +kernel) (Nat.le_of_ble_eq_true rfl) ?_
  intro p e s m below meth c C hr hlk hnm
  have hTy0 : TC G z ln uu0 uu0 := TC.rf hTz0
  have J39 : ∀ (u_39 : HpT) (hT_39 : TC G z ln uu0 u_39), Xw p l e ({ frames := 2, cells := 0, slots := 0, locals := 43 } : Room) s m ([.ref (z + 0), .int a1] : List Value).toArray below meth c G z 2 (MQ below (Qp G z n (fun r v => TC G z ln uu0 v ∧ ∃ x : Int32, r = some (.int x) ∧ True)) ([.ref (z + 0), .int a1] : List Value).toArray s 0 0 (zA z)) 39 [(0, .ref (z + 0)), (1, .int a1)] [] u_39 n 0 0 := by
    intro u_39 hT_39
    refine x_ldc C kcX9_221 dX9_seat_39 ?_
    have l_m1000000003 : (-1000000003 : Int32).toInt = -1000000003 := by decide
    exact x_iretP C hr hlk (Nat.le_refl _) (Nat.le_refl _) dX9_seat_41 ⟨hT_39, (-1000000003 : Int32), rfl, trivial⟩
  refine x_aload_n C 0 dX9_seat_0 rfl rfl ?_
  obtain ⟨bc1, dc1, c1_10, c1_11, pc1, oc1, nc1, hc1⟩ := ty_0 hTy0
  have hbb_bc1 : bc1 = 112 ∨ bc1 = 119 := pc1
  have hbb_dc1 : dc1 = 112 ∨ dc1 = 119 := oc1
  refine gfX9_65 C dX9_seat_1 hc1 rfl ?_
  refine x_iload_n C 1 dX9_seat_4 rfl rfl ?_
  obtain ⟨c3_0, c3_1, c3_2, c3_3, hc3, qc3_0, qc3_1, qc3_2, qc3_3⟩ := ty_br hTy0 pc1
  refine x_callVP C cl_X1_hasTraveller kmX9_193 (ci := 0) (b := bc1) (As := [.int a1]) (rest := []) rfl hc3 (tc_X1_hasTraveller uu0 hTy0.1 bc1 pc1 a1) rfl rfl (Nat.le_of_ble_eq_true rfl) ⟨Nat.le_of_ble_eq_true rfl, Nat.le_of_ble_eq_true rfl⟩ ⟨Nat.le_of_ble_eq_true rfl, Nat.le_of_ble_eq_true rfl⟩ dX9_seat_5 ?_
  rintro _ _ ⟨rfl, r2, rfl, gr2⟩
  refine x_norm (st2 := [.int r2]) rfl rfl rfl rfl rfl ?_
  have l_0 : (0 : Int32).toInt = 0 := by decide
  refine x_if_ne C 14 dX9_seat_8 (by decide) (fun q5 => ?_) (fun q5 => ?_)
  · have rq5 : ¬ r2.toInt = (0 : Int32).toInt := by rw [i_eq_iff] at q5; omega
    refine x_aload_n C 0 dX9_seat_14 rfl rfl ?_
    refine gfX9_19 C dX9_seat_15 hc1 rfl ?_
    obtain ⟨c6_0, c6_1, c6_2, c6_3, c6_4, c6_5, c6_6, c6_7, c6_8, c6_9, hc6⟩ := ty_ev hTy0 (Or.inl rfl)
    refine gfX9_158 C dX9_seat_18 hc6 rfl ?_
    refine x_iconst (v := (-1 : Int32)) C dX9_seat_21 (by decide) ?_
    have l_m1 : (-1 : Int32).toInt = -1 := by decide
    refine x_icmp_ne C 39 dX9_seat_22 (by decide) (fun q7 => ?_) (fun q7 => ?_)
    · have rq7 : ¬ c6_4.toInt = (-1 : Int32).toInt := by rw [i_eq_iff] at q7; omega
      exact J39 uu0 hTy0 
    · have rq7 : c6_4.toInt = (-1 : Int32).toInt := by rw [i_eq_iff] at q7; omega
      refine x_aload_n C 0 dX9_seat_25 rfl rfl ?_
      refine gfX9_19 C dX9_seat_26 hc1 rfl ?_
      refine gfX9_167 C dX9_seat_29 hc6 rfl ?_
      refine x_iload_n C 1 dX9_seat_32 rfl rfl ?_
      refine x_callSP C cl_X9_holds kmX9_217 (As := [.int c6_7, .int a1]) (rest := []) (tc_X9_holds uu0 hTy0.1 c6_7 a1) rfl rfl (Nat.le_of_ble_eq_true rfl) ⟨Nat.le_of_ble_eq_true rfl, Nat.le_of_ble_eq_true rfl⟩ ⟨Nat.le_of_ble_eq_true rfl, Nat.le_of_ble_eq_true rfl⟩ dX9_seat_33 ?_
      rintro _ _ ⟨rfl, r8, rfl, gr8⟩
      refine x_norm (st2 := [.int r8]) rfl rfl rfl rfl rfl ?_
      refine x_if_ne C 42 dX9_seat_36 (by decide) (fun q10 => ?_) (fun q10 => ?_)
      · have rq10 : ¬ r8.toInt = (0 : Int32).toInt := by rw [i_eq_iff] at q10; omega
        refine x_aload_n C 0 dX9_seat_42 rfl rfl ?_
        refine gfX9_26 C dX9_seat_43 hc1 rfl ?_
        refine x_aload_n C 0 dX9_seat_46 rfl rfl ?_
        refine gfX9_19 C dX9_seat_47 hc1 rfl ?_
        obtain ⟨c11_1, c11_2, hc11, qc11_0, qc11_1, qc11_2, qc11_3⟩ := ty_6 hTy0
        refine x_callVP C cl_X6_remember kmX9_222 (ci := 5) (b := 6) (As := [.ref (z + 3)]) (rest := []) rfl hc11 (tc_X6_remember uu0 hTy0.1) rfl rfl (Nat.le_of_ble_eq_true rfl) ⟨Nat.le_of_ble_eq_true rfl, Nat.le_of_ble_eq_true rfl⟩ ⟨Nat.le_of_ble_eq_true rfl, Nat.le_of_ble_eq_true rfl⟩ dX9_seat_50 ?_
        rintro _ u12 ⟨ju12, rfl⟩
        have hTu12 := hTy0.tr ju12
        refine x_norm (st2 := []) rfl rfl rfl rfl rfl ?_
        refine x_aload_n C 0 dX9_seat_53 rfl rfl ?_
        obtain ⟨bc13, dc13, c13_10, c13_11, pc13, oc13, nc13, hc13⟩ := ty_0 hTu12
        have hbb_bc13 : bc13 = 112 ∨ bc13 = 119 := pc13
        have hbb_dc13 : dc13 = 112 ∨ dc13 = 119 := oc13
        refine gfX9_19 C dX9_seat_54 hc13 rfl ?_
        refine x_iload_n C 1 dX9_seat_57 rfl rfl ?_
        obtain ⟨c14_0, c14_1, c14_2, c14_3, c14_4, c14_5, c14_6, c14_7, c14_8, c14_9, hc14⟩ := ty_ev hTu12 (Or.inl rfl)
        refine x_callVP C cl_X3_takeSeat kmX9_226 (ci := 2) (b := 3) (As := [.int a1]) (rest := []) rfl hc14 (tc_X3_takeSeat u12 hTu12.1 a1) rfl rfl (Nat.le_of_ble_eq_true rfl) ⟨Nat.le_of_ble_eq_true rfl, Nat.le_of_ble_eq_true rfl⟩ ⟨Nat.le_of_ble_eq_true rfl, Nat.le_of_ble_eq_true rfl⟩ dX9_seat_58 ?_
        rintro _ u15 ⟨ju15, rfl⟩
        have hTu15 := hTu12.tr ju15
        refine x_norm (st2 := []) rfl rfl rfl rfl rfl ?_
        refine x_aload_n C 0 dX9_seat_61 rfl rfl ?_
        obtain ⟨bc16, dc16, c16_10, c16_11, pc16, oc16, nc16, hc16⟩ := ty_0 hTu15
        have hbb_bc16 : bc16 = 112 ∨ bc16 = 119 := pc16
        have hbb_dc16 : dc16 = 112 ∨ dc16 = 119 := oc16
        refine gfX9_19 C dX9_seat_62 hc16 rfl ?_
        obtain ⟨c17_0, c17_1, c17_2, c17_3, c17_4, c17_5, c17_6, c17_7, c17_8, c17_9, hc17⟩ := ty_ev hTu15 (Or.inl rfl)
        refine gfX9_208 C dX9_seat_65 hc17 rfl ?_
        refine x_iload_n C 1 dX9_seat_68 rfl rfl ?_
        obtain ⟨f18, hf18⟩ := ty_evA hTu15 (Or.inl rfl) 1 (by decide) (by decide)
        refine x_iald C hf18 (i_in (by omega) (by omega)) dX9_seat_69 ?_
        refine x_top (fun w19 ew19 => ?_)
        exact x_iretP C hr hlk (Nat.le_refl _) (Nat.le_refl _) dX9_seat_70 ⟨hTu15, w19, rfl, trivial⟩
      · have rq10 : r8.toInt = (0 : Int32).toInt := by rw [i_eq_iff] at q10; omega
        exact J39 uu0 hTy0 
  · have rq5 : r2.toInt = (0 : Int32).toInt := by rw [i_eq_iff] at q5; omega
    refine x_ldc C kcX9_179 dX9_seat_11 ?_
    have l_m1000000001 : (-1000000001 : Int32).toInt = -1000000001 := by decide
    exact x_iretP C hr hlk (Nat.le_refl _) (Nat.le_refl _) dX9_seat_13 ⟨hTy0, (-1000000001 : Int32), rfl, trivial⟩
set_option maxRecDepth 20000 in
set_option maxHeartbeats 2000000 in
theorem tc_X9_tell {G : GT} {l : Launch} {z n : Nat} {ln : Int} (uu0 : HpT) (hTz0 : TyC G z ln uu0) (a1 : Int32) : Mp G l z yX9_tell cX9_tell 2 (some .int) { frames := 4, cells := 0, slots := 0, locals := 89 } [.ref (z + 0), .int a1] uu0 n (fun r v => TC G z ln uu0 v ∧ ∃ x : Int32, r = some (.int x) ∧ True) := by
  refine mp_of (by decide +kernel) (Nat.le_of_ble_eq_true rfl) ?_
  intro p e s m below meth c C hr hlk hnm
  have hTy0 : TC G z ln uu0 uu0 := TC.rf hTz0
  refine x_aload_n C 0 dX9_tell_0 rfl rfl ?_
  obtain ⟨bc1, dc1, c1_10, c1_11, pc1, oc1, nc1, hc1⟩ := ty_0 hTy0
  have hbb_bc1 : bc1 = 112 ∨ bc1 = 119 := pc1
  have hbb_dc1 : dc1 = 112 ∨ dc1 = 119 := oc1
  refine gfX9_65 C dX9_tell_1 hc1 rfl ?_
  refine x_iload_n C 1 dX9_tell_4 rfl rfl ?_
  obtain ⟨c3_0, c3_1, c3_2, c3_3, hc3, qc3_0, qc3_1, qc3_2, qc3_3⟩ := ty_br hTy0 pc1
  refine x_callVP C cl_X1_hasMatter kmX9_176 (ci := 0) (b := bc1) (As := [.int a1]) (rest := []) rfl hc3 (tc_X1_hasMatter uu0 hTy0.1 bc1 pc1 a1) rfl rfl (Nat.le_of_ble_eq_true rfl) ⟨Nat.le_of_ble_eq_true rfl, Nat.le_of_ble_eq_true rfl⟩ ⟨Nat.le_of_ble_eq_true rfl, Nat.le_of_ble_eq_true rfl⟩ dX9_tell_5 ?_
  rintro _ _ ⟨rfl, r2, rfl, gr2⟩
  refine x_norm (st2 := [.int r2]) rfl rfl rfl rfl rfl ?_
  have l_0 : (0 : Int32).toInt = 0 := by decide
  refine x_if_ne C 14 dX9_tell_8 (by decide) (fun q5 => ?_) (fun q5 => ?_)
  · have rq5 : ¬ r2.toInt = (0 : Int32).toInt := by rw [i_eq_iff] at q5; omega
    refine x_aload_n C 0 dX9_tell_14 rfl rfl ?_
    refine gfX9_19 C dX9_tell_15 hc1 rfl ?_
    refine x_iload_n C 1 dX9_tell_18 rfl rfl ?_
    obtain ⟨c7_0, c7_1, c7_2, c7_3, c7_4, c7_5, c7_6, c7_7, c7_8, c7_9, hc7⟩ := ty_ev hTy0 (Or.inl rfl)
    refine x_callVP C cl_X3_canHear kmX9_229 (ci := 2) (b := 3) (As := [.int a1]) (rest := []) rfl hc7 (tc_X3_canHear uu0 hTy0.1 a1) rfl rfl (Nat.le_of_ble_eq_true rfl) ⟨Nat.le_of_ble_eq_true rfl, Nat.le_of_ble_eq_true rfl⟩ ⟨Nat.le_of_ble_eq_true rfl, Nat.le_of_ble_eq_true rfl⟩ dX9_tell_19 ?_
    rintro _ _ ⟨rfl, r6, rfl, gr6⟩
    refine x_norm (st2 := [.int r6]) rfl rfl rfl rfl rfl ?_
    refine x_if_ne C 28 dX9_tell_22 (by decide) (fun q9 => ?_) (fun q9 => ?_)
    · have rq9 : ¬ r6.toInt = (0 : Int32).toInt := by rw [i_eq_iff] at q9; omega
      refine x_aload_n C 0 dX9_tell_28 rfl rfl ?_
      refine gfX9_26 C dX9_tell_29 hc1 rfl ?_
      refine x_aload_n C 0 dX9_tell_32 rfl rfl ?_
      refine gfX9_19 C dX9_tell_33 hc1 rfl ?_
      obtain ⟨c10_1, c10_2, hc10, qc10_0, qc10_1, qc10_2, qc10_3⟩ := ty_6 hTy0
      refine x_callVP C cl_X6_remember kmX9_222 (ci := 5) (b := 6) (As := [.ref (z + 3)]) (rest := []) rfl hc10 (tc_X6_remember uu0 hTy0.1) rfl rfl (Nat.le_of_ble_eq_true rfl) ⟨Nat.le_of_ble_eq_true rfl, Nat.le_of_ble_eq_true rfl⟩ ⟨Nat.le_of_ble_eq_true rfl, Nat.le_of_ble_eq_true rfl⟩ dX9_tell_36 ?_
      rintro _ u11 ⟨ju11, rfl⟩
      have hTu11 := hTy0.tr ju11
      refine x_norm (st2 := []) rfl rfl rfl rfl rfl ?_
      refine x_aload_n C 0 dX9_tell_39 rfl rfl ?_
      obtain ⟨bc12, dc12, c12_10, c12_11, pc12, oc12, nc12, hc12⟩ := ty_0 hTu11
      have hbb_bc12 : bc12 = 112 ∨ bc12 = 119 := pc12
      have hbb_dc12 : dc12 = 112 ∨ dc12 = 119 := oc12
      refine gfX9_19 C dX9_tell_40 hc12 rfl ?_
      refine x_aload_n C 0 dX9_tell_43 rfl rfl ?_
      refine gfX9_65 C dX9_tell_44 hc12 rfl ?_
      refine x_iload_n C 1 dX9_tell_47 rfl rfl ?_
      obtain ⟨c14_0, c14_1, c14_2, c14_3, c14_4, c14_5, c14_6, c14_7, c14_8, c14_9, hc14⟩ := ty_ev hTu11 (Or.inl rfl)
      refine x_callVP C cl_X3_hear kmX9_232 (ci := 2) (b := 3) (As := [.ref (z + bc12), .int a1]) (rest := []) rfl hc14 (tc_X3_hear u11 hTu11.1 bc12 pc12 a1) rfl rfl (Nat.le_of_ble_eq_true rfl) ⟨Nat.le_of_ble_eq_true rfl, Nat.le_of_ble_eq_true rfl⟩ ⟨Nat.le_of_ble_eq_true rfl, Nat.le_of_ble_eq_true rfl⟩ dX9_tell_48 ?_
      rintro _ u15 ⟨ju15, r13, rfl, gr13⟩
      have hTu15 := hTu11.tr ju15
      refine x_norm (st2 := [.int r13]) rfl rfl rfl rfl rfl ?_
      exact x_iretP C hr hlk (Nat.le_refl _) (Nat.le_refl _) dX9_tell_51 ⟨hTu15, r13, rfl, trivial⟩
    · have rq9 : r6.toInt = (0 : Int32).toInt := by rw [i_eq_iff] at q9; omega
      refine x_ldc C kcX9_221 dX9_tell_25 ?_
      have l_m1000000003 : (-1000000003 : Int32).toInt = -1000000003 := by decide
      exact x_iretP C hr hlk (Nat.le_refl _) (Nat.le_refl _) dX9_tell_27 ⟨hTy0, (-1000000003 : Int32), rfl, trivial⟩
  · have rq5 : r2.toInt = (0 : Int32).toInt := by rw [i_eq_iff] at q5; omega
    refine x_ldc C kcX9_179 dX9_tell_11 ?_
    have l_m1000000001 : (-1000000001 : Int32).toInt = -1000000001 := by decide
    exact x_iretP C hr hlk (Nat.le_refl _) (Nat.le_refl _) dX9_tell_13 ⟨hTy0, (-1000000001 : Int32), rfl, trivial⟩
set_option maxRecDepth 20000 in
set_option maxHeartbeats 2000000 in
theorem tc_X9_rise {G : GT} {l : Launch} {z n : Nat} {ln : Int} (uu0 : HpT) (hTz0 : TyC G z ln uu0) : Mp G l z yX9_rise cX9_rise 1 (some .int) { frames := 3, cells := 0, slots := 0, locals := 65 } [.ref (z + 0)] uu0 n (fun r v => TC G z ln uu0 v ∧ ∃ x : Int32, r = some (.int x) ∧ True) := by
  refine mp_of (by decide +kernel) (Nat.le_of_ble_eq_true rfl) ?_
  intro p e s m below meth c C hr hlk hnm
  have hTy0 : TC G z ln uu0 uu0 := TC.rf hTz0
  refine x_aload_n C 0 dX9_rise_0 rfl rfl ?_
  obtain ⟨bc1, dc1, c1_10, c1_11, pc1, oc1, nc1, hc1⟩ := ty_0 hTy0
  have hbb_bc1 : bc1 = 112 ∨ bc1 = 119 := pc1
  have hbb_dc1 : dc1 = 112 ∨ dc1 = 119 := oc1
  refine gfX9_19 C dX9_rise_1 hc1 rfl ?_
  obtain ⟨c2_0, c2_1, c2_2, c2_3, c2_4, c2_5, c2_6, c2_7, c2_8, c2_9, hc2⟩ := ty_ev hTy0 (Or.inl rfl)
  refine gfX9_158 C dX9_rise_4 hc2 rfl ?_
  refine x_iconst (v := (-1 : Int32)) C dX9_rise_7 (by decide) ?_
  have l_m1 : (-1 : Int32).toInt = -1 := by decide
  refine x_icmp_ne C 14 dX9_rise_8 (by decide) (fun q3 => ?_) (fun q3 => ?_)
  · have rq3 : ¬ c2_4.toInt = (-1 : Int32).toInt := by rw [i_eq_iff] at q3; omega
    refine x_aload_n C 0 dX9_rise_14 rfl rfl ?_
    refine gfX9_26 C dX9_rise_15 hc1 rfl ?_
    refine x_aload_n C 0 dX9_rise_18 rfl rfl ?_
    refine gfX9_19 C dX9_rise_19 hc1 rfl ?_
    obtain ⟨c4_1, c4_2, hc4, qc4_0, qc4_1, qc4_2, qc4_3⟩ := ty_6 hTy0
    refine x_callVP C cl_X6_remember kmX9_222 (ci := 5) (b := 6) (As := [.ref (z + 3)]) (rest := []) rfl hc4 (tc_X6_remember uu0 hTy0.1) rfl rfl (Nat.le_of_ble_eq_true rfl) ⟨Nat.le_of_ble_eq_true rfl, Nat.le_of_ble_eq_true rfl⟩ ⟨Nat.le_of_ble_eq_true rfl, Nat.le_of_ble_eq_true rfl⟩ dX9_rise_22 ?_
    rintro _ u5 ⟨ju5, rfl⟩
    have hTu5 := hTy0.tr ju5
    refine x_norm (st2 := []) rfl rfl rfl rfl rfl ?_
    refine x_aload_n C 0 dX9_rise_25 rfl rfl ?_
    obtain ⟨bc6, dc6, c6_10, c6_11, pc6, oc6, nc6, hc6⟩ := ty_0 hTu5
    have hbb_bc6 : bc6 = 112 ∨ bc6 = 119 := pc6
    have hbb_dc6 : dc6 = 112 ∨ dc6 = 119 := oc6
    refine gfX9_19 C dX9_rise_26 hc6 rfl ?_
    refine x_aload_n C 0 dX9_rise_29 rfl rfl ?_
    refine gfX9_65 C dX9_rise_30 hc6 rfl ?_
    obtain ⟨c8_0, c8_1, c8_2, c8_3, c8_4, c8_5, c8_6, c8_7, c8_8, c8_9, hc8⟩ := ty_ev hTu5 (Or.inl rfl)
    refine x_callVP C cl_X3_leaveSeat kmX9_235 (ci := 2) (b := 3) (As := [.ref (z + bc6)]) (rest := []) rfl hc8 (tc_X3_leaveSeat u5 hTu5.1 bc6 pc6) rfl rfl (Nat.le_of_ble_eq_true rfl) ⟨Nat.le_of_ble_eq_true rfl, Nat.le_of_ble_eq_true rfl⟩ ⟨Nat.le_of_ble_eq_true rfl, Nat.le_of_ble_eq_true rfl⟩ dX9_rise_33 ?_
    rintro _ u9 ⟨ju9, r7, rfl, gr7⟩
    have hTu9 := hTu5.tr ju9
    refine x_norm (st2 := [.int r7]) rfl rfl rfl rfl rfl ?_
    exact x_iretP C hr hlk (Nat.le_refl _) (Nat.le_refl _) dX9_rise_36 ⟨hTu9, r7, rfl, trivial⟩
  · have rq3 : c2_4.toInt = (-1 : Int32).toInt := by rw [i_eq_iff] at q3; omega
    refine x_ldc C kcX9_221 dX9_rise_11 ?_
    have l_m1000000003 : (-1000000003 : Int32).toInt = -1000000003 := by decide
    exact x_iretP C hr hlk (Nat.le_refl _) (Nat.le_refl _) dX9_rise_13 ⟨hTy0, (-1000000003 : Int32), rfl, trivial⟩
set_option maxRecDepth 20000 in
set_option maxHeartbeats 2000000 in
theorem tc_X9_learn {G : GT} {l : Launch} {z n : Nat} {ln : Int} (uu0 : HpT) (hTz0 : TyC G z ln uu0) (a1 : Int32) : Mp G l z yX9_learn cX9_learn 2 (some .int) { frames := 3, cells := 0, slots := 0, locals := 66 } [.ref (z + 0), .int a1] uu0 n (fun r v => TC G z ln uu0 v ∧ ∃ x : Int32, r = some (.int x) ∧ True) := by
  refine mp_of (by decide +kernel) (Nat.le_of_ble_eq_true rfl) ?_
  intro p e s m below meth c C hr hlk hnm
  have hTy0 : TC G z ln uu0 uu0 := TC.rf hTz0
  refine x_aload_n C 0 dX9_learn_0 rfl rfl ?_
  obtain ⟨bc1, dc1, c1_10, c1_11, pc1, oc1, nc1, hc1⟩ := ty_0 hTy0
  have hbb_bc1 : bc1 = 112 ∨ bc1 = 119 := pc1
  have hbb_dc1 : dc1 = 112 ∨ dc1 = 119 := oc1
  refine gfX9_65 C dX9_learn_1 hc1 rfl ?_
  refine x_iload_n C 1 dX9_learn_4 rfl rfl ?_
  obtain ⟨c3_0, c3_1, c3_2, c3_3, hc3, qc3_0, qc3_1, qc3_2, qc3_3⟩ := ty_br hTy0 pc1
  refine x_callVP C cl_X1_hasMatter kmX9_176 (ci := 0) (b := bc1) (As := [.int a1]) (rest := []) rfl hc3 (tc_X1_hasMatter uu0 hTy0.1 bc1 pc1 a1) rfl rfl (Nat.le_of_ble_eq_true rfl) ⟨Nat.le_of_ble_eq_true rfl, Nat.le_of_ble_eq_true rfl⟩ ⟨Nat.le_of_ble_eq_true rfl, Nat.le_of_ble_eq_true rfl⟩ dX9_learn_5 ?_
  rintro _ _ ⟨rfl, r2, rfl, gr2⟩
  refine x_norm (st2 := [.int r2]) rfl rfl rfl rfl rfl ?_
  have l_0 : (0 : Int32).toInt = 0 := by decide
  refine x_if_ne C 14 dX9_learn_8 (by decide) (fun q5 => ?_) (fun q5 => ?_)
  · have rq5 : ¬ r2.toInt = (0 : Int32).toInt := by rw [i_eq_iff] at q5; omega
    refine x_aload_n C 0 dX9_learn_14 rfl rfl ?_
    refine gfX9_19 C dX9_learn_15 hc1 rfl ?_
    obtain ⟨c6_0, c6_1, c6_2, c6_3, c6_4, c6_5, c6_6, c6_7, c6_8, c6_9, hc6⟩ := ty_ev hTy0 (Or.inl rfl)
    refine gfX9_134 C dX9_learn_18 hc6 rfl ?_
    refine x_iload_n C 1 dX9_learn_21 rfl rfl ?_
    refine x_callSP C cl_X9_holds kmX9_217 (As := [.int c6_3, .int a1]) (rest := []) (tc_X9_holds uu0 hTy0.1 c6_3 a1) rfl rfl (Nat.le_of_ble_eq_true rfl) ⟨Nat.le_of_ble_eq_true rfl, Nat.le_of_ble_eq_true rfl⟩ ⟨Nat.le_of_ble_eq_true rfl, Nat.le_of_ble_eq_true rfl⟩ dX9_learn_22 ?_
    rintro _ _ ⟨rfl, r7, rfl, gr7⟩
    refine x_norm (st2 := [.int r7]) rfl rfl rfl rfl rfl ?_
    refine x_if_eq C 31 dX9_learn_25 (by decide) (fun q9 => ?_) (fun q9 => ?_)
    · have rq9 : r7.toInt = (0 : Int32).toInt := by rw [i_eq_iff] at q9; omega
      refine x_aload_n C 0 dX9_learn_31 rfl rfl ?_
      refine gfX9_26 C dX9_learn_32 hc1 rfl ?_
      refine x_aload_n C 0 dX9_learn_35 rfl rfl ?_
      refine gfX9_19 C dX9_learn_36 hc1 rfl ?_
      obtain ⟨c10_1, c10_2, hc10, qc10_0, qc10_1, qc10_2, qc10_3⟩ := ty_6 hTy0
      refine x_callVP C cl_X6_remember kmX9_222 (ci := 5) (b := 6) (As := [.ref (z + 3)]) (rest := []) rfl hc10 (tc_X6_remember uu0 hTy0.1) rfl rfl (Nat.le_of_ble_eq_true rfl) ⟨Nat.le_of_ble_eq_true rfl, Nat.le_of_ble_eq_true rfl⟩ ⟨Nat.le_of_ble_eq_true rfl, Nat.le_of_ble_eq_true rfl⟩ dX9_learn_39 ?_
      rintro _ u11 ⟨ju11, rfl⟩
      have hTu11 := hTy0.tr ju11
      refine x_norm (st2 := []) rfl rfl rfl rfl rfl ?_
      refine x_aload_n C 0 dX9_learn_42 rfl rfl ?_
      obtain ⟨bc12, dc12, c12_10, c12_11, pc12, oc12, nc12, hc12⟩ := ty_0 hTu11
      have hbb_bc12 : bc12 = 112 ∨ bc12 = 119 := pc12
      have hbb_dc12 : dc12 = 112 ∨ dc12 = 119 := oc12
      refine gfX9_19 C dX9_learn_43 hc12 rfl ?_
      refine x_dup C dX9_learn_46 rfl ?_
      obtain ⟨c13_0, c13_1, c13_2, c13_3, c13_4, c13_5, c13_6, c13_7, c13_8, c13_9, hc13⟩ := ty_ev hTu11 (Or.inl rfl)
      refine gfX9_134 C dX9_learn_47 hc13 rfl ?_
      refine x_iconst (v := (1 : Int32)) C dX9_learn_50 (by decide) ?_
      refine x_iload_n C 1 dX9_learn_51 rfl rfl ?_
      refine x_ishl C dX9_learn_52 ?_
      have l_1 : (1 : Int32).toInt = 1 := by decide
      refine x_top (fun w14 ew14 => ?_)
      refine x_ior C dX9_learn_53 ?_
      refine x_top (fun w15 ew15 => ?_)
      obtain ⟨u16, eu16⟩ : ∃ w : HpT, w = hup u11 3 (.inr (2, [.int c13_0, .int c13_1, .int c13_2, .int w15, .int c13_4, .int c13_5, .int c13_6, .int c13_7, .int c13_8, .int c13_9, .ref (z + (3 + 1)), .ref (z + (3 + 2))])) := ⟨_, rfl⟩
      refine pfX9_134 C dX9_learn_54 hc13 (Nat.le_of_ble_eq_true rfl) rfl eu16.symm ?_
      have hTu16 : TC G z ln uu0 u16 := by rw [eu16]; exact hTu11.upEv (Or.inl rfl)
      have hn18 := (congrFun eu16 3).trans (hup_s _ _ _)
      refine x_aload_n C 0 dX9_learn_57 rfl rfl ?_
      have k19 := (congrFun eu16 0).trans (hup_n' (by omega) hc12)
      refine gfX9_19 C dX9_learn_58 k19 rfl ?_
      refine x_aload_n C 0 dX9_learn_61 rfl rfl ?_
      refine gfX9_65 C dX9_learn_62 k19 rfl ?_
      refine x_bipush (v := (60 : Int32)) C dX9_learn_65 (by decide) ?_
      have l_60 : (60 : Int32).toInt = 60 := by decide
      refine x_callVP C cl_X3_passMinutes kmX9_238 (ci := 2) (b := 3) (As := [.ref (z + bc12), .int (60 : Int32)]) (rest := []) rfl hn18 (tc_X3_passMinutes u16 hTu16.1 bc12 pc12 (60 : Int32)) rfl rfl (Nat.le_of_ble_eq_true rfl) ⟨Nat.le_of_ble_eq_true rfl, Nat.le_of_ble_eq_true rfl⟩ ⟨Nat.le_of_ble_eq_true rfl, Nat.le_of_ble_eq_true rfl⟩ dX9_learn_67 ?_
      rintro _ u20 ⟨ju20, rfl⟩
      have hTu20 := hTu16.tr ju20
      refine x_norm (st2 := []) rfl rfl rfl rfl rfl ?_
      refine x_aload_n C 0 dX9_learn_70 rfl rfl ?_
      obtain ⟨bc21, dc21, c21_10, c21_11, pc21, oc21, nc21, hc21⟩ := ty_0 hTu20
      have hbb_bc21 : bc21 = 112 ∨ bc21 = 119 := pc21
      have hbb_dc21 : dc21 = 112 ∨ dc21 = 119 := oc21
      refine gfX9_19 C dX9_learn_71 hc21 rfl ?_
      obtain ⟨c22_0, c22_1, c22_2, c22_3, c22_4, c22_5, c22_6, c22_7, c22_8, c22_9, hc22⟩ := ty_ev hTu20 (Or.inl rfl)
      refine gfX9_134 C dX9_learn_74 hc22 rfl ?_
      refine x_callSP C cl_J6_bitCount_0f7a4 kmX9_242 (As := [.int c22_3]) (rest := []) (tc_J6_bitCount_0f7a4 u20 hTu20.1 c22_3) rfl rfl (Nat.le_of_ble_eq_true rfl) ⟨Nat.le_of_ble_eq_true rfl, Nat.le_of_ble_eq_true rfl⟩ ⟨Nat.le_of_ble_eq_true rfl, Nat.le_of_ble_eq_true rfl⟩ dX9_learn_77 ?_
      rintro _ _ ⟨rfl, r23, rfl, gr23⟩
      refine x_norm (st2 := [.int r23]) rfl rfl rfl rfl rfl ?_
      exact x_iretP C hr hlk (Nat.le_refl _) (Nat.le_refl _) dX9_learn_80 ⟨hTu20, r23, rfl, trivial⟩
    · have rq9 : ¬ r7.toInt = (0 : Int32).toInt := by rw [i_eq_iff] at q9; omega
      refine x_ldc C kcX9_221 dX9_learn_28 ?_
      have l_m1000000003 : (-1000000003 : Int32).toInt = -1000000003 := by decide
      exact x_iretP C hr hlk (Nat.le_refl _) (Nat.le_refl _) dX9_learn_30 ⟨hTy0, (-1000000003 : Int32), rfl, trivial⟩
  · have rq5 : r2.toInt = (0 : Int32).toInt := by rw [i_eq_iff] at q5; omega
    refine x_ldc C kcX9_179 dX9_learn_11 ?_
    have l_m1000000001 : (-1000000001 : Int32).toInt = -1000000001 := by decide
    exact x_iretP C hr hlk (Nat.le_refl _) (Nat.le_refl _) dX9_learn_13 ⟨hTy0, (-1000000001 : Int32), rfl, trivial⟩
set_option maxRecDepth 20000 in
set_option maxHeartbeats 2000000 in
theorem tc_X9_minute {G : GT} {l : Launch} {z n : Nat} {ln : Int} (uu0 : HpT) (hTz0 : TyC G z ln uu0) (a1 : Int32) : Mp G l z yX9_minute cX9_minute 2 (some .int) { frames := 3, cells := 0, slots := 0, locals := 66 } [.ref (z + 0), .int a1] uu0 n (fun r v => TC G z ln uu0 v ∧ ∃ x : Int32, r = some (.int x) ∧ True) := by
  refine mp_of (by decide +kernel) (Nat.le_of_ble_eq_true rfl) ?_
  intro p e s m below meth c C hr hlk hnm
  have hTy0 : TC G z ln uu0 uu0 := TC.rf hTz0
  have J11 : ∀ (u_11 : HpT) (hT_11 : TC G z ln uu0 u_11), Xw p l e ({ frames := 3, cells := 0, slots := 0, locals := 66 } : Room) s m ([.ref (z + 0), .int a1] : List Value).toArray below meth c G z 2 (MQ below (Qp G z n (fun r v => TC G z ln uu0 v ∧ ∃ x : Int32, r = some (.int x) ∧ True)) ([.ref (z + 0), .int a1] : List Value).toArray s 0 0 (zA z)) 11 [(0, .ref (z + 0)), (1, .int a1)] [] u_11 n 0 0 := by
    intro u_11 hT_11
    refine x_ldc C kcX9_80 dX9_minute_11 ?_
    have l_m1000000002 : (-1000000002 : Int32).toInt = -1000000002 := by decide
    exact x_iretP C hr hlk (Nat.le_refl _) (Nat.le_refl _) dX9_minute_13 ⟨hT_11, (-1000000002 : Int32), rfl, trivial⟩
  refine x_iload_n C 1 dX9_minute_0 rfl rfl ?_
  refine x_iconst (v := (1 : Int32)) C dX9_minute_1 (by decide) ?_
  have l_1 : (1 : Int32).toInt = 1 := by decide
  refine x_icmp_lt C 11 dX9_minute_2 (by decide) (fun q1 => ?_) (fun q1 => ?_)
  · have rq1 : a1.toInt < (1 : Int32).toInt := by rw [Int32.lt_iff_toInt_lt] at q1; omega
    exact J11 uu0 hTy0 
  · have rq1 : a1.toInt ≥ (1 : Int32).toInt := by rw [Int32.lt_iff_toInt_lt] at q1; omega
    refine x_iload_n C 1 dX9_minute_5 rfl rfl ?_
    refine x_bipush (v := (60 : Int32)) C dX9_minute_6 (by decide) ?_
    have l_60 : (60 : Int32).toInt = 60 := by decide
    refine x_icmp_le C 14 dX9_minute_8 (by decide) (fun q2 => ?_) (fun q2 => ?_)
    · have rq2 : a1.toInt ≤ (60 : Int32).toInt := by rw [Int32.le_iff_toInt_le] at q2; omega
      refine x_aload_n C 0 dX9_minute_14 rfl rfl ?_
      obtain ⟨bc3, dc3, c3_10, c3_11, pc3, oc3, nc3, hc3⟩ := ty_0 hTy0
      have hbb_bc3 : bc3 = 112 ∨ bc3 = 119 := pc3
      have hbb_dc3 : dc3 = 112 ∨ dc3 = 119 := oc3
      refine gfX9_65 C dX9_minute_15 hc3 rfl ?_
      obtain ⟨c5_0, c5_1, c5_2, c5_3, hc5, qc5_0, qc5_1, qc5_2, qc5_3⟩ := ty_br hTy0 pc3
      refine x_callVP C cl_X1_isThere kmX9_247 (ci := 0) (b := bc3) (As := []) (rest := []) rfl hc5 (tc_X1_isThere uu0 hTy0.1 bc3 pc3) rfl rfl (Nat.le_of_ble_eq_true rfl) ⟨Nat.le_of_ble_eq_true rfl, Nat.le_of_ble_eq_true rfl⟩ ⟨Nat.le_of_ble_eq_true rfl, Nat.le_of_ble_eq_true rfl⟩ dX9_minute_18 ?_
      rintro _ _ ⟨rfl, r4, rfl, gr4⟩
      refine x_norm (st2 := [.int r4]) rfl rfl rfl rfl rfl ?_
      have l_0 : (0 : Int32).toInt = 0 := by decide
      refine x_if_ne C 27 dX9_minute_21 (by decide) (fun q7 => ?_) (fun q7 => ?_)
      · have rq7 : ¬ r4.toInt = (0 : Int32).toInt := by rw [i_eq_iff] at q7; omega
        refine x_aload_n C 0 dX9_minute_27 rfl rfl ?_
        refine gfX9_19 C dX9_minute_28 hc3 rfl ?_
        obtain ⟨c8_0, c8_1, c8_2, c8_3, c8_4, c8_5, c8_6, c8_7, c8_8, c8_9, hc8⟩ := ty_ev hTy0 (Or.inl rfl)
        refine gfX9_149 C dX9_minute_31 hc8 rfl ?_
        refine x_ldc C kcX9_251 dX9_minute_34 ?_
        have l_900000 : (900000 : Int32).toInt = 900000 := by decide
        refine x_icmp_le C 42 dX9_minute_36 (by decide) (fun q9 => ?_) (fun q9 => ?_)
        · have rq9 : c8_0.toInt ≤ (900000 : Int32).toInt := by rw [Int32.le_iff_toInt_le] at q9; omega
          refine x_aload_n C 0 dX9_minute_42 rfl rfl ?_
          refine gfX9_26 C dX9_minute_43 hc3 rfl ?_
          refine x_aload_n C 0 dX9_minute_46 rfl rfl ?_
          refine gfX9_19 C dX9_minute_47 hc3 rfl ?_
          obtain ⟨c10_1, c10_2, hc10, qc10_0, qc10_1, qc10_2, qc10_3⟩ := ty_6 hTy0
          refine x_callVP C cl_X6_remember kmX9_222 (ci := 5) (b := 6) (As := [.ref (z + 3)]) (rest := []) rfl hc10 (tc_X6_remember uu0 hTy0.1) rfl rfl (Nat.le_of_ble_eq_true rfl) ⟨Nat.le_of_ble_eq_true rfl, Nat.le_of_ble_eq_true rfl⟩ ⟨Nat.le_of_ble_eq_true rfl, Nat.le_of_ble_eq_true rfl⟩ dX9_minute_50 ?_
          rintro _ u11 ⟨ju11, rfl⟩
          have hTu11 := hTy0.tr ju11
          refine x_norm (st2 := []) rfl rfl rfl rfl rfl ?_
          refine x_aload_n C 0 dX9_minute_53 rfl rfl ?_
          obtain ⟨bc12, dc12, c12_10, c12_11, pc12, oc12, nc12, hc12⟩ := ty_0 hTu11
          have hbb_bc12 : bc12 = 112 ∨ bc12 = 119 := pc12
          have hbb_dc12 : dc12 = 112 ∨ dc12 = 119 := oc12
          refine gfX9_19 C dX9_minute_54 hc12 rfl ?_
          refine x_aload_n C 0 dX9_minute_57 rfl rfl ?_
          refine gfX9_65 C dX9_minute_58 hc12 rfl ?_
          refine x_iload_n C 1 dX9_minute_61 rfl rfl ?_
          obtain ⟨c13_0, c13_1, c13_2, c13_3, c13_4, c13_5, c13_6, c13_7, c13_8, c13_9, hc13⟩ := ty_ev hTu11 (Or.inl rfl)
          refine x_callVP C cl_X3_passMinutes kmX9_238 (ci := 2) (b := 3) (As := [.ref (z + bc12), .int a1]) (rest := []) rfl hc13 (tc_X3_passMinutes u11 hTu11.1 bc12 pc12 a1) rfl rfl (Nat.le_of_ble_eq_true rfl) ⟨Nat.le_of_ble_eq_true rfl, Nat.le_of_ble_eq_true rfl⟩ ⟨Nat.le_of_ble_eq_true rfl, Nat.le_of_ble_eq_true rfl⟩ dX9_minute_62 ?_
          rintro _ u14 ⟨ju14, rfl⟩
          have hTu14 := hTu11.tr ju14
          refine x_norm (st2 := []) rfl rfl rfl rfl rfl ?_
          refine x_aload_n C 0 dX9_minute_65 rfl rfl ?_
          obtain ⟨bc15, dc15, c15_10, c15_11, pc15, oc15, nc15, hc15⟩ := ty_0 hTu14
          have hbb_bc15 : bc15 = 112 ∨ bc15 = 119 := pc15
          have hbb_dc15 : dc15 = 112 ∨ dc15 = 119 := oc15
          refine gfX9_19 C dX9_minute_66 hc15 rfl ?_
          obtain ⟨c16_0, c16_1, c16_2, c16_3, c16_4, c16_5, c16_6, c16_7, c16_8, c16_9, hc16⟩ := ty_ev hTu14 (Or.inl rfl)
          refine gfX9_149 C dX9_minute_69 hc16 rfl ?_
          exact x_iretP C hr hlk (Nat.le_refl _) (Nat.le_refl _) dX9_minute_72 ⟨hTu14, c16_0, rfl, trivial⟩
        · have rq9 : c8_0.toInt > (900000 : Int32).toInt := by rw [Int32.le_iff_toInt_le] at q9; omega
          refine x_ldc C kcX9_88 dX9_minute_39 ?_
          have l_m1000000004 : (-1000000004 : Int32).toInt = -1000000004 := by decide
          exact x_iretP C hr hlk (Nat.le_refl _) (Nat.le_refl _) dX9_minute_41 ⟨hTy0, (-1000000004 : Int32), rfl, trivial⟩
      · have rq7 : r4.toInt = (0 : Int32).toInt := by rw [i_eq_iff] at q7; omega
        refine x_ldc C kcX9_221 dX9_minute_24 ?_
        have l_m1000000003 : (-1000000003 : Int32).toInt = -1000000003 := by decide
        exact x_iretP C hr hlk (Nat.le_refl _) (Nat.le_refl _) dX9_minute_26 ⟨hTy0, (-1000000003 : Int32), rfl, trivial⟩
    · have rq2 : a1.toInt > (60 : Int32).toInt := by rw [Int32.le_iff_toInt_le] at q2; omega
      exact J11 uu0 hTy0 
set_option maxRecDepth 20000 in
set_option maxHeartbeats 2000000 in
theorem tc_X9_anew {G : GT} {l : Launch} {z n : Nat} {ln : Int} (uu0 : HpT) (hTz0 : TyC G z ln uu0) : Mp G l z yX9_anew cX9_anew 1 (some .int) { frames := 2, cells := 0, slots := 0, locals := 43 } [.ref (z + 0)] uu0 n (fun r v => TC G z ln uu0 v ∧ ∃ x : Int32, r = some (.int x) ∧ True) := by
  refine mp_of (by decide +kernel) (Nat.le_of_ble_eq_true rfl) ?_
  intro p e s m below meth c C hr hlk hnm
  have hTy0 : TC G z ln uu0 uu0 := TC.rf hTz0
  refine x_aload_n C 0 dX9_anew_0 rfl rfl ?_
  obtain ⟨bc1, dc1, c1_10, c1_11, pc1, oc1, nc1, hc1⟩ := ty_0 hTy0
  have hbb_bc1 : bc1 = 112 ∨ bc1 = 119 := pc1
  have hbb_dc1 : dc1 = 112 ∨ dc1 = 119 := oc1
  refine gfX9_65 C dX9_anew_1 hc1 rfl ?_
  obtain ⟨c3_0, c3_1, c3_2, c3_3, hc3, qc3_0, qc3_1, qc3_2, qc3_3⟩ := ty_br hTy0 pc1
  refine x_callVP C cl_X1_isThere kmX9_247 (ci := 0) (b := bc1) (As := []) (rest := []) rfl hc3 (tc_X1_isThere uu0 hTy0.1 bc1 pc1) rfl rfl (Nat.le_of_ble_eq_true rfl) ⟨Nat.le_of_ble_eq_true rfl, Nat.le_of_ble_eq_true rfl⟩ ⟨Nat.le_of_ble_eq_true rfl, Nat.le_of_ble_eq_true rfl⟩ dX9_anew_4 ?_
  rintro _ _ ⟨rfl, r2, rfl, gr2⟩
  refine x_norm (st2 := [.int r2]) rfl rfl rfl rfl rfl ?_
  have l_0 : (0 : Int32).toInt = 0 := by decide
  refine x_if_ne C 13 dX9_anew_7 (by decide) (fun q5 => ?_) (fun q5 => ?_)
  · have rq5 : ¬ r2.toInt = (0 : Int32).toInt := by rw [i_eq_iff] at q5; omega
    refine x_aload_n C 0 dX9_anew_13 rfl rfl ?_
    refine gfX9_19 C dX9_anew_14 hc1 rfl ?_
    obtain ⟨c6_0, c6_1, c6_2, c6_3, c6_4, c6_5, c6_6, c6_7, c6_8, c6_9, hc6⟩ := ty_ev hTy0 (Or.inl rfl)
    refine gfX9_152 C dX9_anew_17 hc6 rfl ?_
    refine x_sipush (v := (9000 : Int32)) C dX9_anew_20 (by decide) ?_
    have l_9000 : (9000 : Int32).toInt = 9000 := by decide
    refine x_icmp_lt C 29 dX9_anew_23 (by decide) (fun q7 => ?_) (fun q7 => ?_)
    · have rq7 : c6_1.toInt < (9000 : Int32).toInt := by rw [Int32.lt_iff_toInt_lt] at q7; omega
      refine x_aload_n C 0 dX9_anew_29 rfl rfl ?_
      refine gfX9_26 C dX9_anew_30 hc1 rfl ?_
      refine x_aload_n C 0 dX9_anew_33 rfl rfl ?_
      refine gfX9_19 C dX9_anew_34 hc1 rfl ?_
      obtain ⟨c8_1, c8_2, hc8, qc8_0, qc8_1, qc8_2, qc8_3⟩ := ty_6 hTy0
      refine x_callVP C cl_X6_remember kmX9_222 (ci := 5) (b := 6) (As := [.ref (z + 3)]) (rest := []) rfl hc8 (tc_X6_remember uu0 hTy0.1) rfl rfl (Nat.le_of_ble_eq_true rfl) ⟨Nat.le_of_ble_eq_true rfl, Nat.le_of_ble_eq_true rfl⟩ ⟨Nat.le_of_ble_eq_true rfl, Nat.le_of_ble_eq_true rfl⟩ dX9_anew_37 ?_
      rintro _ u9 ⟨ju9, rfl⟩
      have hTu9 := hTy0.tr ju9
      refine x_norm (st2 := []) rfl rfl rfl rfl rfl ?_
      refine x_aload_n C 0 dX9_anew_40 rfl rfl ?_
      obtain ⟨bc10, dc10, c10_10, c10_11, pc10, oc10, nc10, hc10⟩ := ty_0 hTu9
      have hbb_bc10 : bc10 = 112 ∨ bc10 = 119 := pc10
      have hbb_dc10 : dc10 = 112 ∨ dc10 = 119 := oc10
      refine gfX9_19 C dX9_anew_41 hc10 rfl ?_
      refine x_dup C dX9_anew_44 rfl ?_
      obtain ⟨c11_0, c11_1, c11_2, c11_3, c11_4, c11_5, c11_6, c11_7, c11_8, c11_9, hc11⟩ := ty_ev hTu9 (Or.inl rfl)
      refine gfX9_152 C dX9_anew_45 hc11 rfl ?_
      refine x_iconst (v := (1 : Int32)) C dX9_anew_48 (by decide) ?_
      refine x_iadd C dX9_anew_49 ?_
      have l_1 : (1 : Int32).toInt = 1 := by decide
      refine x_top (fun w12 ew12 => ?_)
      obtain ⟨u13, eu13⟩ : ∃ w : HpT, w = hup u9 3 (.inr (2, [.int c11_0, .int w12, .int c11_2, .int c11_3, .int c11_4, .int c11_5, .int c11_6, .int c11_7, .int c11_8, .int c11_9, .ref (z + (3 + 1)), .ref (z + (3 + 2))])) := ⟨_, rfl⟩
      refine pfX9_152 C dX9_anew_50 hc11 (Nat.le_of_ble_eq_true rfl) rfl eu13.symm ?_
      have hTu13 : TC G z ln uu0 u13 := by rw [eu13]; exact hTu9.upEv (Or.inl rfl)
      have hn15 := (congrFun eu13 3).trans (hup_s _ _ _)
      refine x_aload_n C 0 dX9_anew_53 rfl rfl ?_
      have k16 := (congrFun eu13 0).trans (hup_n' (by omega) hc10)
      refine gfX9_19 C dX9_anew_54 k16 rfl ?_
      refine x_aload_n C 0 dX9_anew_57 rfl rfl ?_
      refine gfX9_65 C dX9_anew_58 k16 rfl ?_
      refine x_callVP C cl_X3_gather kmX9_252 (ci := 2) (b := 3) (As := [.ref (z + bc10)]) (rest := []) rfl hn15 (tc_X3_gather u13 hTu13.1 bc10 pc10) rfl rfl (Nat.le_of_ble_eq_true rfl) ⟨Nat.le_of_ble_eq_true rfl, Nat.le_of_ble_eq_true rfl⟩ ⟨Nat.le_of_ble_eq_true rfl, Nat.le_of_ble_eq_true rfl⟩ dX9_anew_61 ?_
      rintro _ u17 ⟨ju17, rfl⟩
      have hTu17 := hTu13.tr ju17
      refine x_norm (st2 := []) rfl rfl rfl rfl rfl ?_
      refine x_aload_n C 0 dX9_anew_64 rfl rfl ?_
      obtain ⟨bc18, dc18, c18_10, c18_11, pc18, oc18, nc18, hc18⟩ := ty_0 hTu17
      have hbb_bc18 : bc18 = 112 ∨ bc18 = 119 := pc18
      have hbb_dc18 : dc18 = 112 ∨ dc18 = 119 := oc18
      refine gfX9_19 C dX9_anew_65 hc18 rfl ?_
      obtain ⟨c19_0, c19_1, c19_2, c19_3, c19_4, c19_5, c19_6, c19_7, c19_8, c19_9, hc19⟩ := ty_ev hTu17 (Or.inl rfl)
      refine gfX9_152 C dX9_anew_68 hc19 rfl ?_
      exact x_iretP C hr hlk (Nat.le_refl _) (Nat.le_refl _) dX9_anew_71 ⟨hTu17, c19_1, rfl, trivial⟩
    · have rq7 : c6_1.toInt ≥ (9000 : Int32).toInt := by rw [Int32.lt_iff_toInt_lt] at q7; omega
      refine x_ldc C kcX9_88 dX9_anew_26 ?_
      have l_m1000000004 : (-1000000004 : Int32).toInt = -1000000004 := by decide
      exact x_iretP C hr hlk (Nat.le_refl _) (Nat.le_refl _) dX9_anew_28 ⟨hTy0, (-1000000004 : Int32), rfl, trivial⟩
  · have rq5 : r2.toInt = (0 : Int32).toInt := by rw [i_eq_iff] at q5; omega
    refine x_ldc C kcX9_221 dX9_anew_10 ?_
    have l_m1000000003 : (-1000000003 : Int32).toInt = -1000000003 := by decide
    exact x_iretP C hr hlk (Nat.le_refl _) (Nat.le_refl _) dX9_anew_12 ⟨hTy0, (-1000000003 : Int32), rfl, trivial⟩
set_option maxRecDepth 20000 in
set_option maxHeartbeats 2000000 in
theorem tc_X9_drawOf {G : GT} {l : Launch} {z n : Nat} {ln : Int} (uu0 : HpT) (hTz0 : TyC G z ln uu0) (a1 : Int32) : Mp G l z yX9_drawOf cX9_drawOf 2 (some .int) { frames := 0, cells := 0, slots := 0, locals := 0 } [.ref (z + 0), .int a1] uu0 n (fun r v => TC G z ln uu0 v ∧ ∃ x : Int32, r = some (.int x) ∧ True) := by
  refine mp_of (by decide +kernel) (Nat.le_of_ble_eq_true rfl) ?_
  intro p e s m below meth c C hr hlk hnm
  have hTy0 : TC G z ln uu0 uu0 := TC.rf hTz0
  refine x_aload_n C 0 dX9_drawOf_0 rfl rfl ?_
  refine x_aload_n C 0 dX9_drawOf_1 rfl rfl ?_
  obtain ⟨bc1, dc1, c1_10, c1_11, pc1, oc1, nc1, hc1⟩ := ty_0 hTy0
  have hbb_bc1 : bc1 = 112 ∨ bc1 = 119 := pc1
  have hbb_dc1 : dc1 = 112 ∨ dc1 = 119 := oc1
  refine gfX9_72 C dX9_drawOf_2 hc1 rfl ?_
  refine x_i2l C dX9_drawOf_5 ?_
  refine x_topl (fun g2 eg2 => ?_)
  have fg2_0 : g2.toInt = c1_10.toInt := by rw [eg2]; exact Int32.toInt_toInt64 _
  refine x_ldc2 C kcX9_267 dX9_drawOf_6 ?_
  refine x_lmul C dX9_drawOf_9 ?_
  refine x_topl (fun g3 eg3 => ?_)
  refine x_ldc2 C kcX9_269 dX9_drawOf_10 ?_
  refine x_ladd C dX9_drawOf_13 ?_
  refine x_topl (fun g4 eg4 => ?_)
  refine x_ldc2 C kcX9_271 dX9_drawOf_14 ?_
  refine x_lrem C dX9_drawOf_17 (by decide) ?_
  refine x_topl (fun g5 eg5 => ?_)
  refine x_l2i C dX9_drawOf_18 ?_
  refine x_top (fun w6 ew6 => ?_)
  obtain ⟨u7, eu7⟩ : ∃ w : HpT, w = hup uu0 0 (.inr (8, [.ref (z + 1), .ref (z + 3), .ref (z + 6), .ref (z + 98), .ref (z + 99), .ref (z + 101), .ref (z + 106), .ref (z + 109), .ref (z + bc1), .ref (z + dc1), .int w6, .int c1_11])) := ⟨_, rfl⟩
  refine pfX9_72 C dX9_drawOf_19 hc1 (Nat.le_of_ble_eq_true rfl) rfl eu7.symm ?_
  have hTu7 : TC G z ln uu0 u7 := by rw [eu7]; exact hTy0.up_0 (by omega)
  have hn8 := (congrFun eu7 0).trans (hup_s _ _ _)
  refine x_iload_n C 1 dX9_drawOf_22 rfl rfl ?_
  refine x_iconst (v := (1 : Int32)) C dX9_drawOf_23 (by decide) ?_
  have l_1 : (1 : Int32).toInt = 1 := by decide
  refine x_icmp_ge C 31 dX9_drawOf_24 (by decide) (fun q9 => ?_) (fun q9 => ?_)
  · have rq9 : a1.toInt ≥ (1 : Int32).toInt := by rw [Int32.le_iff_toInt_le] at q9; omega
    refine x_aload_n C 0 dX9_drawOf_31 rfl rfl ?_
    refine gfX9_72 C dX9_drawOf_32 hn8 rfl ?_
    refine x_ldcw C kcX9_273 dX9_drawOf_35 ?_
    have l_65536 : (65536 : Int32).toInt = 65536 := by decide
    refine x_idiv C dX9_drawOf_38 (by decide) ?_
    refine x_top (fun w10 ew10 => ?_)
    refine x_iload_n C 1 dX9_drawOf_39 rfl rfl ?_
    refine x_irem C dX9_drawOf_40 (by rw [i_eq_iff]; have l0 : (0 : Int32).toInt = 0 := (by decide); omega) ?_
    refine x_top (fun w11 ew11 => ?_)
    exact x_iretP C hr hlk (Nat.le_refl _) (Nat.le_refl _) dX9_drawOf_41 ⟨hTu7, w11, rfl, trivial⟩
  · have rq9 : a1.toInt < (1 : Int32).toInt := by rw [Int32.le_iff_toInt_le] at q9; omega
    refine x_iconst (v := (0 : Int32)) C dX9_drawOf_27 (by decide) ?_
    refine x_goto C 41 dX9_drawOf_28 (by decide) ?_
    have l_0 : (0 : Int32).toInt = 0 := by decide
    exact x_iretP C hr hlk (Nat.le_refl _) (Nat.le_refl _) dX9_drawOf_41 ⟨hTu7, (0 : Int32), rfl, trivial⟩
set_option maxRecDepth 20000 in
set_option maxHeartbeats 2000000 in
theorem tc_X9_drawSeat {G : GT} {l : Launch} {z n : Nat} {ln : Int} (uu0 : HpT) (hTz0 : TyC G z ln uu0) : Mp G l z yX9_drawSeat cX9_drawSeat 2 none { frames := 1, cells := 0, slots := 0, locals := 21 } [.ref (z + 0)] uu0 n (fun r v => TC G z ln uu0 v ∧ r = none) := by
  refine mp_of (by decide +kernel) (Nat.le_of_ble_eq_true rfl) ?_
  intro p e s m below meth c C hr hlk hnm
  have hTy0 : TC G z ln uu0 uu0 := TC.rf hTz0
  refine x_aload_n C 0 dX9_drawSeat_0 rfl rfl ?_
  obtain ⟨bc1, dc1, c1_10, c1_11, pc1, oc1, nc1, hc1⟩ := ty_0 hTy0
  have hbb_bc1 : bc1 = 112 ∨ bc1 = 119 := pc1
  have hbb_dc1 : dc1 = 112 ∨ dc1 = 119 := oc1
  refine gfX9_65 C dX9_drawSeat_1 hc1 rfl ?_
  obtain ⟨c2_0, c2_1, c2_2, c2_3, hc2, qc2_0, qc2_1, qc2_2, qc2_3⟩ := ty_br hTy0 pc1
  refine gfX9_103 C dX9_drawSeat_4 hc2 rfl ?_
  have l_0 : (0 : Int32).toInt = 0 := by decide
  refine x_if_ne C 11 dX9_drawSeat_7 (by decide) (fun q3 => ?_) (fun q3 => ?_)
  · have rq3 : ¬ c2_3.toInt = (0 : Int32).toInt := by rw [i_eq_iff] at q3; omega
    refine x_aload_n C 0 dX9_drawSeat_11 rfl rfl ?_
    refine x_aload_n C 0 dX9_drawSeat_12 rfl rfl ?_
    refine gfX9_65 C dX9_drawSeat_13 hc1 rfl ?_
    refine gfX9_103 C dX9_drawSeat_16 hc2 rfl ?_
    refine x_callVP C cl_X9_drawOf kmX9_264 (ci := 8) (b := 0) (As := [.int c2_3]) (rest := []) rfl hc1 (tc_X9_drawOf uu0 hTy0.1 c2_3) rfl rfl (Nat.le_of_ble_eq_true rfl) ⟨Nat.le_of_ble_eq_true rfl, Nat.le_of_ble_eq_true rfl⟩ ⟨Nat.le_of_ble_eq_true rfl, Nat.le_of_ble_eq_true rfl⟩ dX9_drawSeat_19 ?_
    rintro _ u5 ⟨ju5, r4, rfl, gr4⟩
    have hTu5 := hTy0.tr ju5
    refine x_norm (st2 := [.int r4]) rfl rfl rfl rfl rfl ?_
    refine x_istore_n C [(1, .int r4), (0, .ref (z + 0))] dX9_drawSeat_22 rfl (by decide) rfl ?_
    refine x_aload_n C 1 dX9_drawSeat_23 rfl rfl ?_
    obtain ⟨bc6, dc6, c6_10, c6_11, pc6, oc6, nc6, hc6⟩ := ty_0 hTu5
    have hbb_bc6 : bc6 = 112 ∨ bc6 = 119 := pc6
    have hbb_dc6 : dc6 = 112 ∨ dc6 = 119 := oc6
    refine gfX9_19 C dX9_drawSeat_24 hc6 rfl ?_
    obtain ⟨c7_0, c7_1, c7_2, c7_3, c7_4, c7_5, c7_6, c7_7, c7_8, c7_9, hc7⟩ := ty_ev hTu5 (Or.inl rfl)
    refine gfX9_167 C dX9_drawSeat_27 hc7 rfl ?_
    refine x_iload_n C 0 dX9_drawSeat_30 rfl rfl ?_
    refine x_callSP C cl_X9_holds kmX9_217 (As := [.int c7_7, .int r4]) (rest := []) (tc_X9_holds u5 hTu5.1 c7_7 r4) rfl rfl (Nat.le_of_ble_eq_true rfl) ⟨Nat.le_of_ble_eq_true rfl, Nat.le_of_ble_eq_true rfl⟩ ⟨Nat.le_of_ble_eq_true rfl, Nat.le_of_ble_eq_true rfl⟩ dX9_drawSeat_31 ?_
    rintro _ _ ⟨rfl, r8, rfl, gr8⟩
    refine x_norm (st2 := [.int r8]) rfl rfl rfl rfl rfl ?_
    refine x_if_eq C 45 dX9_drawSeat_34 (by decide) (fun q10 => ?_) (fun q10 => ?_)
    · have rq10 : r8.toInt = (0 : Int32).toInt := by rw [i_eq_iff] at q10; omega
      exact x_vretP C hr hlk (Nat.le_refl _) (Nat.le_refl _) dX9_drawSeat_45 ⟨hTu5, rfl⟩
    · have rq10 : ¬ r8.toInt = (0 : Int32).toInt := by rw [i_eq_iff] at q10; omega
      refine x_aload_n C 1 dX9_drawSeat_37 rfl rfl ?_
      refine gfX9_19 C dX9_drawSeat_38 hc6 rfl ?_
      refine x_iload_n C 0 dX9_drawSeat_41 rfl rfl ?_
      refine x_callVP C cl_X3_takeSeat kmX9_226 (ci := 2) (b := 3) (As := [.int r4]) (rest := []) rfl hc7 (tc_X3_takeSeat u5 hTu5.1 r4) rfl rfl (Nat.le_of_ble_eq_true rfl) ⟨Nat.le_of_ble_eq_true rfl, Nat.le_of_ble_eq_true rfl⟩ ⟨Nat.le_of_ble_eq_true rfl, Nat.le_of_ble_eq_true rfl⟩ dX9_drawSeat_42 ?_
      rintro _ u11 ⟨ju11, rfl⟩
      have hTu11 := hTu5.tr ju11
      refine x_norm (st2 := []) rfl rfl rfl rfl rfl ?_
      exact x_vretP C hr hlk (Nat.le_refl _) (Nat.le_refl _) dX9_drawSeat_45 ⟨hTu11, rfl⟩
  · have rq3 : c2_3.toInt = (0 : Int32).toInt := by rw [i_eq_iff] at q3; omega
    exact x_vretP C hr hlk (Nat.le_refl _) (Nat.le_refl _) dX9_drawSeat_10 ⟨hTy0, rfl⟩
set_option maxRecDepth 20000 in
set_option maxHeartbeats 2000000 in
theorem tc_X9_drawTelling {G : GT} {l : Launch} {z n : Nat} {ln : Int} (uu0 : HpT) (hTz0 : TyC G z ln uu0) : Mp G l z yX9_drawTelling cX9_drawTelling 2 none { frames := 4, cells := 0, slots := 0, locals := 89 } [.ref (z + 0)] uu0 n (fun r v => TC G z ln uu0 v ∧ r = none) := by
  refine mp_of (by decide +kernel) (Nat.le_of_ble_eq_true rfl) ?_
  intro p e s m below meth c C hr hlk hnm
  have hTy0 : TC G z ln uu0 uu0 := TC.rf hTz0
  refine x_aload_n C 0 dX9_drawTelling_0 rfl rfl ?_
  refine x_iconst (v := (4 : Int32)) C dX9_drawTelling_1 (by decide) ?_
  have l_4 : (4 : Int32).toInt = 4 := by decide
  obtain ⟨bc2, dc2, c2_10, c2_11, pc2, oc2, nc2, hc2⟩ := ty_0 hTy0
  have hbb_bc2 : bc2 = 112 ∨ bc2 = 119 := pc2
  have hbb_dc2 : dc2 = 112 ∨ dc2 = 119 := oc2
  refine x_callVP C cl_X9_drawOf kmX9_264 (ci := 8) (b := 0) (As := [.int (4 : Int32)]) (rest := []) rfl hc2 (tc_X9_drawOf uu0 hTy0.1 (4 : Int32)) rfl rfl (Nat.le_of_ble_eq_true rfl) ⟨Nat.le_of_ble_eq_true rfl, Nat.le_of_ble_eq_true rfl⟩ ⟨Nat.le_of_ble_eq_true rfl, Nat.le_of_ble_eq_true rfl⟩ dX9_drawTelling_2 ?_
  rintro _ u3 ⟨ju3, r1, rfl, gr1⟩
  have hTu3 := hTy0.tr ju3
  refine x_norm (st2 := [.int r1]) rfl rfl rfl rfl rfl ?_
  have l_0 : (0 : Int32).toInt = 0 := by decide
  refine x_if_ne C 21 dX9_drawTelling_5 (by decide) (fun q4 => ?_) (fun q4 => ?_)
  · have rq4 : ¬ r1.toInt = (0 : Int32).toInt := by rw [i_eq_iff] at q4; omega
    refine x_aload_n C 0 dX9_drawTelling_21 rfl rfl ?_
    obtain ⟨bc5, dc5, c5_10, c5_11, pc5, oc5, nc5, hc5⟩ := ty_0 hTu3
    have hbb_bc5 : bc5 = 112 ∨ bc5 = 119 := pc5
    have hbb_dc5 : dc5 = 112 ∨ dc5 = 119 := oc5
    refine gfX9_65 C dX9_drawTelling_22 hc5 rfl ?_
    obtain ⟨c6_0, c6_1, c6_2, c6_3, hc6, qc6_0, qc6_1, qc6_2, qc6_3⟩ := ty_br hTu3 pc5
    refine gfX9_123 C dX9_drawTelling_25 hc6 rfl ?_
    refine x_if_ne C 32 dX9_drawTelling_28 (by decide) (fun q7 => ?_) (fun q7 => ?_)
    · have rq7 : ¬ c6_2.toInt = (0 : Int32).toInt := by rw [i_eq_iff] at q7; omega
      refine x_aload_n C 0 dX9_drawTelling_32 rfl rfl ?_
      refine x_aload_n C 0 dX9_drawTelling_33 rfl rfl ?_
      refine gfX9_65 C dX9_drawTelling_34 hc5 rfl ?_
      refine gfX9_123 C dX9_drawTelling_37 hc6 rfl ?_
      refine x_callVP C cl_X9_drawOf kmX9_264 (ci := 8) (b := 0) (As := [.int c6_2]) (rest := []) rfl hc5 (tc_X9_drawOf u3 hTu3.1 c6_2) rfl rfl (Nat.le_of_ble_eq_true rfl) ⟨Nat.le_of_ble_eq_true rfl, Nat.le_of_ble_eq_true rfl⟩ ⟨Nat.le_of_ble_eq_true rfl, Nat.le_of_ble_eq_true rfl⟩ dX9_drawTelling_40 ?_
      rintro _ u9 ⟨ju9, r8, rfl, gr8⟩
      have hTu9 := hTu3.tr ju9
      refine x_norm (st2 := [.int r8]) rfl rfl rfl rfl rfl ?_
      refine x_istore_n C [(1, .int r8), (0, .ref (z + 0))] dX9_drawTelling_43 rfl (by decide) rfl ?_
      refine x_aload_n C 1 dX9_drawTelling_44 rfl rfl ?_
      obtain ⟨bc10, dc10, c10_10, c10_11, pc10, oc10, nc10, hc10⟩ := ty_0 hTu9
      have hbb_bc10 : bc10 = 112 ∨ bc10 = 119 := pc10
      have hbb_dc10 : dc10 = 112 ∨ dc10 = 119 := oc10
      refine gfX9_19 C dX9_drawTelling_45 hc10 rfl ?_
      refine x_iload_n C 0 dX9_drawTelling_48 rfl rfl ?_
      obtain ⟨c12_0, c12_1, c12_2, c12_3, c12_4, c12_5, c12_6, c12_7, c12_8, c12_9, hc12⟩ := ty_ev hTu9 (Or.inl rfl)
      refine x_callVP C cl_X3_canHear kmX9_229 (ci := 2) (b := 3) (As := [.int r8]) (rest := []) rfl hc12 (tc_X3_canHear u9 hTu9.1 r8) rfl rfl (Nat.le_of_ble_eq_true rfl) ⟨Nat.le_of_ble_eq_true rfl, Nat.le_of_ble_eq_true rfl⟩ ⟨Nat.le_of_ble_eq_true rfl, Nat.le_of_ble_eq_true rfl⟩ dX9_drawTelling_49 ?_
      rintro _ _ ⟨rfl, r11, rfl, gr11⟩
      refine x_norm (st2 := [.int r11]) rfl rfl rfl rfl rfl ?_
      refine x_if_eq C 68 dX9_drawTelling_52 (by decide) (fun q14 => ?_) (fun q14 => ?_)
      · have rq14 : r11.toInt = (0 : Int32).toInt := by rw [i_eq_iff] at q14; omega
        exact x_vretP C hr hlk (Nat.le_refl _) (Nat.le_refl _) dX9_drawTelling_68 ⟨hTu9, rfl⟩
      · have rq14 : ¬ r11.toInt = (0 : Int32).toInt := by rw [i_eq_iff] at q14; omega
        refine x_aload_n C 1 dX9_drawTelling_55 rfl rfl ?_
        refine gfX9_19 C dX9_drawTelling_56 hc10 rfl ?_
        refine x_aload_n C 1 dX9_drawTelling_59 rfl rfl ?_
        refine gfX9_65 C dX9_drawTelling_60 hc10 rfl ?_
        refine x_iload_n C 0 dX9_drawTelling_63 rfl rfl ?_
        refine x_callVP C cl_X3_hear kmX9_232 (ci := 2) (b := 3) (As := [.ref (z + bc10), .int r8]) (rest := []) rfl hc12 (tc_X3_hear u9 hTu9.1 bc10 pc10 r8) rfl rfl (Nat.le_of_ble_eq_true rfl) ⟨Nat.le_of_ble_eq_true rfl, Nat.le_of_ble_eq_true rfl⟩ ⟨Nat.le_of_ble_eq_true rfl, Nat.le_of_ble_eq_true rfl⟩ dX9_drawTelling_64 ?_
        rintro _ u16 ⟨ju16, r15, rfl, gr15⟩
        have hTu16 := hTu9.tr ju16
        refine x_norm (st2 := [.int r15]) rfl rfl rfl rfl rfl ?_
        refine x_pop C dX9_drawTelling_67 rfl ?_
        exact x_vretP C hr hlk (Nat.le_refl _) (Nat.le_refl _) dX9_drawTelling_68 ⟨hTu16, rfl⟩
    · have rq7 : c6_2.toInt = (0 : Int32).toInt := by rw [i_eq_iff] at q7; omega
      exact x_vretP C hr hlk (Nat.le_refl _) (Nat.le_refl _) dX9_drawTelling_31 ⟨hTu3, rfl⟩
  · have rq4 : r1.toInt = (0 : Int32).toInt := by rw [i_eq_iff] at q4; omega
    refine x_aload_n C 0 dX9_drawTelling_8 rfl rfl ?_
    obtain ⟨bc17, dc17, c17_10, c17_11, pc17, oc17, nc17, hc17⟩ := ty_0 hTu3
    have hbb_bc17 : bc17 = 112 ∨ bc17 = 119 := pc17
    have hbb_dc17 : dc17 = 112 ∨ dc17 = 119 := oc17
    refine gfX9_19 C dX9_drawTelling_9 hc17 rfl ?_
    refine x_aload_n C 0 dX9_drawTelling_12 rfl rfl ?_
    refine gfX9_65 C dX9_drawTelling_13 hc17 rfl ?_
    obtain ⟨c19_0, c19_1, c19_2, c19_3, c19_4, c19_5, c19_6, c19_7, c19_8, c19_9, hc19⟩ := ty_ev hTu3 (Or.inl rfl)
    refine x_callVP C cl_X3_leaveSeat kmX9_235 (ci := 2) (b := 3) (As := [.ref (z + bc17)]) (rest := []) rfl hc19 (tc_X3_leaveSeat u3 hTu3.1 bc17 pc17) rfl rfl (Nat.le_of_ble_eq_true rfl) ⟨Nat.le_of_ble_eq_true rfl, Nat.le_of_ble_eq_true rfl⟩ ⟨Nat.le_of_ble_eq_true rfl, Nat.le_of_ble_eq_true rfl⟩ dX9_drawTelling_16 ?_
    rintro _ u20 ⟨ju20, r18, rfl, gr18⟩
    have hTu20 := hTu3.tr ju20
    refine x_norm (st2 := [.int r18]) rfl rfl rfl rfl rfl ?_
    refine x_pop C dX9_drawTelling_19 rfl ?_
    exact x_vretP C hr hlk (Nat.le_refl _) (Nat.le_refl _) dX9_drawTelling_20 ⟨hTu20, rfl⟩
set_option maxRecDepth 20000 in
set_option maxHeartbeats 2000000 in
theorem tc_X9_driftOnce {G : GT} {l : Launch} {z n : Nat} {ln : Int} (uu0 : HpT) (hTz0 : TyC G z ln uu0) : Mp G l z yX9_driftOnce cX9_driftOnce 1 none { frames := 5, cells := 0, slots := 0, locals := 110 } [.ref (z + 0)] uu0 n (fun r v => TC G z ln uu0 v ∧ r = none) := by
  refine mp_of (by decide +kernel) (Nat.le_of_ble_eq_true rfl) ?_
  intro p e s m below meth c C hr hlk hnm
  have hTy0 : TC G z ln uu0 uu0 := TC.rf hTz0
  have J22 : ∀ (u_22 : HpT) (hT_22 : TC G z ln uu0 u_22), Xw p l e ({ frames := 5, cells := 0, slots := 0, locals := 110 } : Room) s m ([.ref (z + 0)] : List Value).toArray below meth c G z 1 (MQ below (Qp G z n (fun r v => TC G z ln uu0 v ∧ r = none)) ([.ref (z + 0)] : List Value).toArray s 0 0 (zA z)) 22 [(0, .ref (z + 0))] [] u_22 n 0 0 := by
    intro u_22 hT_22
    refine x_aload_n C 0 dX9_driftOnce_22 rfl rfl ?_
    obtain ⟨bc1, dc1, c1_10, c1_11, pc1, oc1, nc1, hc1⟩ := ty_0 hT_22
    have hbb_bc1 : bc1 = 112 ∨ bc1 = 119 := pc1
    have hbb_dc1 : dc1 = 112 ∨ dc1 = 119 := oc1
    refine gfX9_19 C dX9_driftOnce_23 hc1 rfl ?_
    refine x_aload_n C 0 dX9_driftOnce_26 rfl rfl ?_
    refine gfX9_65 C dX9_driftOnce_27 hc1 rfl ?_
    refine x_iconst (v := (1 : Int32)) C dX9_driftOnce_30 (by decide) ?_
    have l_1 : (1 : Int32).toInt = 1 := by decide
    obtain ⟨c2_0, c2_1, c2_2, c2_3, c2_4, c2_5, c2_6, c2_7, c2_8, c2_9, hc2⟩ := ty_ev hT_22 (Or.inl rfl)
    refine x_callVP C cl_X3_passMinutes kmX9_238 (ci := 2) (b := 3) (As := [.ref (z + bc1), .int (1 : Int32)]) (rest := []) rfl hc2 (tc_X3_passMinutes u_22 hT_22.1 bc1 pc1 (1 : Int32)) rfl rfl (Nat.le_of_ble_eq_true rfl) ⟨Nat.le_of_ble_eq_true rfl, Nat.le_of_ble_eq_true rfl⟩ ⟨Nat.le_of_ble_eq_true rfl, Nat.le_of_ble_eq_true rfl⟩ dX9_driftOnce_31 ?_
    rintro _ u3 ⟨ju3, rfl⟩
    have hTu3 := hT_22.tr ju3
    refine x_norm (st2 := []) rfl rfl rfl rfl rfl ?_
    exact x_vretP C hr hlk (Nat.le_refl _) (Nat.le_refl _) dX9_driftOnce_34 ⟨hTu3, rfl⟩
  refine x_aload_n C 0 dX9_driftOnce_0 rfl rfl ?_
  obtain ⟨bc4, dc4, c4_10, c4_11, pc4, oc4, nc4, hc4⟩ := ty_0 hTy0
  have hbb_bc4 : bc4 = 112 ∨ bc4 = 119 := pc4
  have hbb_dc4 : dc4 = 112 ∨ dc4 = 119 := oc4
  refine gfX9_19 C dX9_driftOnce_1 hc4 rfl ?_
  obtain ⟨c5_0, c5_1, c5_2, c5_3, c5_4, c5_5, c5_6, c5_7, c5_8, c5_9, hc5⟩ := ty_ev hTy0 (Or.inl rfl)
  refine gfX9_158 C dX9_driftOnce_4 hc5 rfl ?_
  refine x_iconst (v := (-1 : Int32)) C dX9_driftOnce_7 (by decide) ?_
  have l_m1 : (-1 : Int32).toInt = -1 := by decide
  refine x_icmp_ne C 18 dX9_driftOnce_8 (by decide) (fun q6 => ?_) (fun q6 => ?_)
  · have rq6 : ¬ c5_4.toInt = (-1 : Int32).toInt := by rw [i_eq_iff] at q6; omega
    refine x_aload_n C 0 dX9_driftOnce_18 rfl rfl ?_
    refine x_callVP C cl_X9_drawTelling kmX9_261 (ci := 8) (b := 0) (As := []) (rest := []) rfl hc4 (tc_X9_drawTelling uu0 hTy0.1) rfl rfl (Nat.le_of_ble_eq_true rfl) ⟨Nat.le_of_ble_eq_true rfl, Nat.le_of_ble_eq_true rfl⟩ ⟨Nat.le_of_ble_eq_true rfl, Nat.le_of_ble_eq_true rfl⟩ dX9_driftOnce_19 ?_
    rintro _ u7 ⟨ju7, rfl⟩
    have hTu7 := hTy0.tr ju7
    refine x_norm (st2 := []) rfl rfl rfl rfl rfl ?_
    exact J22 u7 hTu7 
  · have rq6 : c5_4.toInt = (-1 : Int32).toInt := by rw [i_eq_iff] at q6; omega
    refine x_aload_n C 0 dX9_driftOnce_11 rfl rfl ?_
    refine x_callVP C cl_X9_drawSeat kmX9_258 (ci := 8) (b := 0) (As := []) (rest := []) rfl hc4 (tc_X9_drawSeat uu0 hTy0.1) rfl rfl (Nat.le_of_ble_eq_true rfl) ⟨Nat.le_of_ble_eq_true rfl, Nat.le_of_ble_eq_true rfl⟩ ⟨Nat.le_of_ble_eq_true rfl, Nat.le_of_ble_eq_true rfl⟩ dX9_driftOnce_12 ?_
    rintro _ u8 ⟨ju8, rfl⟩
    have hTu8 := hTy0.tr ju8
    refine x_norm (st2 := []) rfl rfl rfl rfl rfl ?_
    refine x_goto C 22 dX9_driftOnce_15 (by decide) ?_
    exact J22 u8 hTu8 
set_option maxRecDepth 20000 in
set_option maxHeartbeats 2000000 in
theorem tc_X9_drift {G : GT} {l : Launch} {z n : Nat} {ln : Int} (uu0 : HpT) (hTz0 : TyC G z ln uu0) (a1 : Int32) : Mp G l z yX9_drift cX9_drift 3 (some .int) { frames := 6, cells := 0, slots := 0, locals := 130 } [.ref (z + 0), .int a1] uu0 n (fun r v => TC G z ln uu0 v ∧ ∃ x : Int32, r = some (.int x) ∧ True) := by
  refine mp_of (by decide +kernel) (Nat.le_of_ble_eq_true rfl) ?_
  intro p e s m below meth c C hr hlk hnm
  have hTy0 : TC G z ln uu0 uu0 := TC.rf hTz0
  have J44 : ∀ (d : Nat) (u_44 : HpT) (hT_44 : TC G z ln uu0 u_44) (x2_44 : Int32) (hl_x2_44 : 0 ≤ x2_44.toInt) (hh_x2_44 : x2_44.toInt ≤ 30) (nl_a1_44 : 1 ≤ a1.toInt) (nh_a1_44 : a1.toInt ≤ 30) (hd : d = (31 - x2_44.toInt).toNat), Xw p l e ({ frames := 6, cells := 0, slots := 0, locals := 130 } : Room) s m ([.ref (z + 0), .int a1] : List Value).toArray below meth c G z 3 (MQ below (Qp G z n (fun r v => TC G z ln uu0 v ∧ ∃ x : Int32, r = some (.int x) ∧ True)) ([.ref (z + 0), .int a1] : List Value).toArray s 0 0 (zA z)) 44 [(2, .int x2_44), (0, .ref (z + 0)), (1, .int a1)] [] u_44 n 0 0 := by
    intro d
    induction d using Nat.strongRecOn with
    | _ d ih44 =>
      intro u_44 hT_44 x2_44 hl_x2_44 hh_x2_44 nl_a1_44 nh_a1_44 hd44
      refine x_iload_n C 0 dX9_drift_44 rfl rfl ?_
      refine x_iload_n C 2 dX9_drift_45 rfl rfl ?_
      refine x_icmp_ge C 70 dX9_drift_46 (by decide) (fun q1 => ?_) (fun q1 => ?_)
      · have rq1 : x2_44.toInt ≥ a1.toInt := by rw [Int32.le_iff_toInt_le] at q1; omega
        refine x_aload_n C 1 dX9_drift_70 rfl rfl ?_
        obtain ⟨bc2, dc2, c2_10, c2_11, pc2, oc2, nc2, hc2⟩ := ty_0 hT_44
        have hbb_bc2 : bc2 = 112 ∨ bc2 = 119 := pc2
        have hbb_dc2 : dc2 = 112 ∨ dc2 = 119 := oc2
        refine gfX9_19 C dX9_drift_71 hc2 rfl ?_
        obtain ⟨c3_0, c3_1, c3_2, c3_3, c3_4, c3_5, c3_6, c3_7, c3_8, c3_9, hc3⟩ := ty_ev hT_44 (Or.inl rfl)
        refine gfX9_149 C dX9_drift_74 hc3 rfl ?_
        exact x_iretP C hr hlk (Nat.le_refl _) (Nat.le_refl _) dX9_drift_77 ⟨hT_44, c3_0, rfl, trivial⟩
      · have rq1 : x2_44.toInt < a1.toInt := by rw [Int32.le_iff_toInt_le] at q1; omega
        refine x_aload_n C 1 dX9_drift_49 rfl rfl ?_
        obtain ⟨bc4, dc4, c4_10, c4_11, pc4, oc4, nc4, hc4⟩ := ty_0 hT_44
        have hbb_bc4 : bc4 = 112 ∨ bc4 = 119 := pc4
        have hbb_dc4 : dc4 = 112 ∨ dc4 = 119 := oc4
        refine gfX9_26 C dX9_drift_50 hc4 rfl ?_
        refine x_aload_n C 1 dX9_drift_53 rfl rfl ?_
        refine gfX9_19 C dX9_drift_54 hc4 rfl ?_
        obtain ⟨c5_1, c5_2, hc5, qc5_0, qc5_1, qc5_2, qc5_3⟩ := ty_6 hT_44
        refine x_callVP C cl_X6_remember kmX9_222 (ci := 5) (b := 6) (As := [.ref (z + 3)]) (rest := []) rfl hc5 (tc_X6_remember u_44 hT_44.1) rfl rfl (Nat.le_of_ble_eq_true rfl) ⟨Nat.le_of_ble_eq_true rfl, Nat.le_of_ble_eq_true rfl⟩ ⟨Nat.le_of_ble_eq_true rfl, Nat.le_of_ble_eq_true rfl⟩ dX9_drift_57 ?_
        rintro _ u6 ⟨ju6, rfl⟩
        have hTu6 := hT_44.tr ju6
        refine x_norm (st2 := []) rfl rfl rfl rfl rfl ?_
        refine x_aload_n C 1 dX9_drift_60 rfl rfl ?_
        obtain ⟨bc7, dc7, c7_10, c7_11, pc7, oc7, nc7, hc7⟩ := ty_0 hTu6
        have hbb_bc7 : bc7 = 112 ∨ bc7 = 119 := pc7
        have hbb_dc7 : dc7 = 112 ∨ dc7 = 119 := oc7
        refine x_callVP C cl_X9_driftOnce kmX9_255 (ci := 8) (b := 0) (As := []) (rest := []) rfl hc7 (tc_X9_driftOnce u6 hTu6.1) rfl rfl (Nat.le_of_ble_eq_true rfl) ⟨Nat.le_of_ble_eq_true rfl, Nat.le_of_ble_eq_true rfl⟩ ⟨Nat.le_of_ble_eq_true rfl, Nat.le_of_ble_eq_true rfl⟩ dX9_drift_61 ?_
        rintro _ u8 ⟨ju8, rfl⟩
        have hTu8 := hTu6.tr ju8
        refine x_norm (st2 := []) rfl rfl rfl rfl rfl ?_
        have l_1 : (1 : Int32).toInt = 1 := by decide
        obtain ⟨w9, ew9⟩ : ∃ w : Int32, w = x2_44 + Int32.ofInt 1 := ⟨_, rfl⟩
        have fw9 : w9.toInt = x2_44.toInt + (1) := by rw [ew9]; exact i_addk (by decide) (by omega) (by omega)
        refine x_iinc (v := w9) C 0 [(2, .int w9), (0, .ref (z + 0)), (1, .int a1)] dX9_drift_64 rfl ew9.symm (by decide) rfl ?_
        refine x_goto C 44 dX9_drift_67 (by decide) ?_
        exact ih44 (31 - w9.toInt).toNat (by omega) u8 hTu8 w9 (by omega) (by omega) (by omega) (by omega) rfl
  have J11 : ∀ (u_11 : HpT) (hT_11 : TC G z ln uu0 u_11), Xw p l e ({ frames := 6, cells := 0, slots := 0, locals := 130 } : Room) s m ([.ref (z + 0), .int a1] : List Value).toArray below meth c G z 3 (MQ below (Qp G z n (fun r v => TC G z ln uu0 v ∧ ∃ x : Int32, r = some (.int x) ∧ True)) ([.ref (z + 0), .int a1] : List Value).toArray s 0 0 (zA z)) 11 [(0, .ref (z + 0)), (1, .int a1)] [] u_11 n 0 0 := by
    intro u_11 hT_11
    refine x_ldc C kcX9_80 dX9_drift_11 ?_
    have l_m1000000002 : (-1000000002 : Int32).toInt = -1000000002 := by decide
    exact x_iretP C hr hlk (Nat.le_refl _) (Nat.le_refl _) dX9_drift_13 ⟨hT_11, (-1000000002 : Int32), rfl, trivial⟩
  refine x_iload_n C 1 dX9_drift_0 rfl rfl ?_
  refine x_iconst (v := (1 : Int32)) C dX9_drift_1 (by decide) ?_
  have l_1 : (1 : Int32).toInt = 1 := by decide
  refine x_icmp_lt C 11 dX9_drift_2 (by decide) (fun q10 => ?_) (fun q10 => ?_)
  · have rq10 : a1.toInt < (1 : Int32).toInt := by rw [Int32.lt_iff_toInt_lt] at q10; omega
    exact J11 uu0 hTy0 
  · have rq10 : a1.toInt ≥ (1 : Int32).toInt := by rw [Int32.lt_iff_toInt_lt] at q10; omega
    refine x_iload_n C 1 dX9_drift_5 rfl rfl ?_
    refine x_bipush (v := (30 : Int32)) C dX9_drift_6 (by decide) ?_
    have l_30 : (30 : Int32).toInt = 30 := by decide
    refine x_icmp_le C 14 dX9_drift_8 (by decide) (fun q11 => ?_) (fun q11 => ?_)
    · have rq11 : a1.toInt ≤ (30 : Int32).toInt := by rw [Int32.le_iff_toInt_le] at q11; omega
      refine x_aload_n C 0 dX9_drift_14 rfl rfl ?_
      obtain ⟨bc12, dc12, c12_10, c12_11, pc12, oc12, nc12, hc12⟩ := ty_0 hTy0
      have hbb_bc12 : bc12 = 112 ∨ bc12 = 119 := pc12
      have hbb_dc12 : dc12 = 112 ∨ dc12 = 119 := oc12
      refine gfX9_65 C dX9_drift_15 hc12 rfl ?_
      obtain ⟨c14_0, c14_1, c14_2, c14_3, hc14, qc14_0, qc14_1, qc14_2, qc14_3⟩ := ty_br hTy0 pc12
      refine x_callVP C cl_X1_isThere kmX9_247 (ci := 0) (b := bc12) (As := []) (rest := []) rfl hc14 (tc_X1_isThere uu0 hTy0.1 bc12 pc12) rfl rfl (Nat.le_of_ble_eq_true rfl) ⟨Nat.le_of_ble_eq_true rfl, Nat.le_of_ble_eq_true rfl⟩ ⟨Nat.le_of_ble_eq_true rfl, Nat.le_of_ble_eq_true rfl⟩ dX9_drift_18 ?_
      rintro _ _ ⟨rfl, r13, rfl, gr13⟩
      refine x_norm (st2 := [.int r13]) rfl rfl rfl rfl rfl ?_
      have l_0 : (0 : Int32).toInt = 0 := by decide
      refine x_if_ne C 27 dX9_drift_21 (by decide) (fun q16 => ?_) (fun q16 => ?_)
      · have rq16 : ¬ r13.toInt = (0 : Int32).toInt := by rw [i_eq_iff] at q16; omega
        refine x_aload_n C 0 dX9_drift_27 rfl rfl ?_
        refine gfX9_19 C dX9_drift_28 hc12 rfl ?_
        obtain ⟨c17_0, c17_1, c17_2, c17_3, c17_4, c17_5, c17_6, c17_7, c17_8, c17_9, hc17⟩ := ty_ev hTy0 (Or.inl rfl)
        refine gfX9_149 C dX9_drift_31 hc17 rfl ?_
        refine x_ldc C kcX9_251 dX9_drift_34 ?_
        have l_900000 : (900000 : Int32).toInt = 900000 := by decide
        refine x_icmp_le C 42 dX9_drift_36 (by decide) (fun q18 => ?_) (fun q18 => ?_)
        · have rq18 : c17_0.toInt ≤ (900000 : Int32).toInt := by rw [Int32.le_iff_toInt_le] at q18; omega
          refine x_iconst (v := (0 : Int32)) C dX9_drift_42 (by decide) ?_
          refine x_istore_n C [(2, .int (0 : Int32)), (0, .ref (z + 0)), (1, .int a1)] dX9_drift_43 rfl (by decide) rfl ?_
          exact J44 (31 - (0 : Int32).toInt).toNat uu0 hTy0 (0 : Int32) (by omega) (by omega) (by omega) (by omega) rfl
        · have rq18 : c17_0.toInt > (900000 : Int32).toInt := by rw [Int32.le_iff_toInt_le] at q18; omega
          refine x_ldc C kcX9_88 dX9_drift_39 ?_
          have l_m1000000004 : (-1000000004 : Int32).toInt = -1000000004 := by decide
          exact x_iretP C hr hlk (Nat.le_refl _) (Nat.le_refl _) dX9_drift_41 ⟨hTy0, (-1000000004 : Int32), rfl, trivial⟩
      · have rq16 : r13.toInt = (0 : Int32).toInt := by rw [i_eq_iff] at q16; omega
        refine x_ldc C kcX9_221 dX9_drift_24 ?_
        have l_m1000000003 : (-1000000003 : Int32).toInt = -1000000003 := by decide
        exact x_iretP C hr hlk (Nat.le_refl _) (Nat.le_refl _) dX9_drift_26 ⟨hTy0, (-1000000003 : Int32), rfl, trivial⟩
    · have rq11 : a1.toInt > (30 : Int32).toInt := by rw [Int32.le_iff_toInt_le] at q11; omega
      exact J11 uu0 hTy0 
set_option maxRecDepth 20000 in
set_option maxHeartbeats 2000000 in
theorem tc_X9_undo {G : GT} {l : Launch} {z n : Nat} {ln : Int} (uu0 : HpT) (hTz0 : TyC G z ln uu0) (a1 : Int32) : Mp G l z yX9_undo cX9_undo 2 (some .int) { frames := 2, cells := 0, slots := 0, locals := 44 } [.ref (z + 0), .int a1] uu0 n (fun r v => TC G z ln uu0 v ∧ ∃ x : Int32, r = some (.int x) ∧ True) := by
  refine mp_of (by decide +kernel) (Nat.le_of_ble_eq_true rfl) ?_
  intro p e s m below meth c C hr hlk hnm
  have hTy0 : TC G z ln uu0 uu0 := TC.rf hTz0
  have J11 : ∀ (u_11 : HpT) (hT_11 : TC G z ln uu0 u_11), Xw p l e ({ frames := 2, cells := 0, slots := 0, locals := 44 } : Room) s m ([.ref (z + 0), .int a1] : List Value).toArray below meth c G z 2 (MQ below (Qp G z n (fun r v => TC G z ln uu0 v ∧ ∃ x : Int32, r = some (.int x) ∧ True)) ([.ref (z + 0), .int a1] : List Value).toArray s 0 0 (zA z)) 11 [(0, .ref (z + 0)), (1, .int a1)] [] u_11 n 0 0 := by
    intro u_11 hT_11
    refine x_ldc C kcX9_80 dX9_undo_11 ?_
    have l_m1000000002 : (-1000000002 : Int32).toInt = -1000000002 := by decide
    exact x_iretP C hr hlk (Nat.le_refl _) (Nat.le_refl _) dX9_undo_13 ⟨hT_11, (-1000000002 : Int32), rfl, trivial⟩
  refine x_iload_n C 1 dX9_undo_0 rfl rfl ?_
  refine x_iconst (v := (1 : Int32)) C dX9_undo_1 (by decide) ?_
  have l_1 : (1 : Int32).toInt = 1 := by decide
  refine x_icmp_lt C 11 dX9_undo_2 (by decide) (fun q1 => ?_) (fun q1 => ?_)
  · have rq1 : a1.toInt < (1 : Int32).toInt := by rw [Int32.lt_iff_toInt_lt] at q1; omega
    exact J11 uu0 hTy0 
  · have rq1 : a1.toInt ≥ (1 : Int32).toInt := by rw [Int32.lt_iff_toInt_lt] at q1; omega
    refine x_iload_n C 1 dX9_undo_5 rfl rfl ?_
    refine x_bipush (v := (30 : Int32)) C dX9_undo_6 (by decide) ?_
    have l_30 : (30 : Int32).toInt = 30 := by decide
    refine x_icmp_le C 14 dX9_undo_8 (by decide) (fun q2 => ?_) (fun q2 => ?_)
    · have rq2 : a1.toInt ≤ (30 : Int32).toInt := by rw [Int32.le_iff_toInt_le] at q2; omega
      refine x_iload_n C 1 dX9_undo_14 rfl rfl ?_
      refine x_aload_n C 0 dX9_undo_15 rfl rfl ?_
      obtain ⟨bc3, dc3, c3_10, c3_11, pc3, oc3, nc3, hc3⟩ := ty_0 hTy0
      have hbb_bc3 : bc3 = 112 ∨ bc3 = 119 := pc3
      have hbb_dc3 : dc3 = 112 ∨ dc3 = 119 := oc3
      refine gfX9_26 C dX9_undo_16 hc3 rfl ?_
      obtain ⟨c4_1, c4_2, hc4, qc4_0, qc4_1, qc4_2, qc4_3⟩ := ty_6 hTy0
      refine gfX9_144 C dX9_undo_19 hc4 rfl ?_
      refine x_icmp_le C 28 dX9_undo_22 (by decide) (fun q5 => ?_) (fun q5 => ?_)
      · have rq5 : a1.toInt ≤ c4_1.toInt := by rw [Int32.le_iff_toInt_le] at q5; omega
        refine x_aload_n C 0 dX9_undo_28 rfl rfl ?_
        refine gfX9_26 C dX9_undo_29 hc3 rfl ?_
        refine x_iload_n C 1 dX9_undo_32 rfl rfl ?_
        refine x_aload_n C 0 dX9_undo_33 rfl rfl ?_
        refine gfX9_19 C dX9_undo_34 hc3 rfl ?_
        refine x_callVP C cl_X6_takeBack kmX9_274 (ci := 5) (b := 6) (As := [.int a1, .ref (z + 3)]) (rest := []) rfl hc4 (tc_X6_takeBack uu0 hTy0.1 a1) rfl rfl (Nat.le_of_ble_eq_true rfl) ⟨Nat.le_of_ble_eq_true rfl, Nat.le_of_ble_eq_true rfl⟩ ⟨Nat.le_of_ble_eq_true rfl, Nat.le_of_ble_eq_true rfl⟩ dX9_undo_37 ?_
        rintro _ u6 ⟨ju6, rfl⟩
        have hTu6 := hTy0.tr ju6
        refine x_norm (st2 := []) rfl rfl rfl rfl rfl ?_
        refine x_aload_n C 0 dX9_undo_40 rfl rfl ?_
        obtain ⟨bc7, dc7, c7_10, c7_11, pc7, oc7, nc7, hc7⟩ := ty_0 hTu6
        have hbb_bc7 : bc7 = 112 ∨ bc7 = 119 := pc7
        have hbb_dc7 : dc7 = 112 ∨ dc7 = 119 := oc7
        refine gfX9_19 C dX9_undo_41 hc7 rfl ?_
        obtain ⟨c8_0, c8_1, c8_2, c8_3, c8_4, c8_5, c8_6, c8_7, c8_8, c8_9, hc8⟩ := ty_ev hTu6 (Or.inl rfl)
        refine gfX9_149 C dX9_undo_44 hc8 rfl ?_
        exact x_iretP C hr hlk (Nat.le_refl _) (Nat.le_refl _) dX9_undo_47 ⟨hTu6, c8_0, rfl, trivial⟩
      · have rq5 : a1.toInt > c4_1.toInt := by rw [Int32.le_iff_toInt_le] at q5; omega
        refine x_ldc C kcX9_221 dX9_undo_25 ?_
        have l_m1000000003 : (-1000000003 : Int32).toInt = -1000000003 := by decide
        exact x_iretP C hr hlk (Nat.le_refl _) (Nat.le_refl _) dX9_undo_27 ⟨hTy0, (-1000000003 : Int32), rfl, trivial⟩
    · have rq2 : a1.toInt > (30 : Int32).toInt := by rw [Int32.le_iff_toInt_le] at q2; omega
      exact J11 uu0 hTy0 
set_option maxRecDepth 20000 in
set_option maxHeartbeats 2000000 in
theorem tc_X9_stay {G : GT} {l : Launch} {z n : Nat} {ln : Int} (uu0 : HpT) (hTz0 : TyC G z ln uu0) (a1 : Int32) (a2 : Int32) : Mp G l z yX9_stay cX9_stay 3 (some .int) { frames := 2, cells := 0, slots := 0, locals := 43 } [.ref (z + 0), .int a1, .int a2] uu0 n (fun r v => uu0 = v ∧ ∃ x : Int32, r = some (.int x) ∧ True) := by
  refine mp_of (by decide +kernel) (Nat.le_of_ble_eq_true rfl) ?_
  intro p e s m below meth c C hr hlk hnm
  have hTy0 : TC G z ln uu0 uu0 := TC.rf hTz0
  have J22 : Xw p l e ({ frames := 2, cells := 0, slots := 0, locals := 43 } : Room) s m ([.ref (z + 0), .int a1, .int a2] : List Value).toArray below meth c G z 3 (MQ below (Qp G z n (fun r v => uu0 = v ∧ ∃ x : Int32, r = some (.int x) ∧ True)) ([.ref (z + 0), .int a1, .int a2] : List Value).toArray s 0 0 (zA z)) 22 [(0, .ref (z + 0)), (1, .int a1), (2, .int a2)] [] uu0 n 0 0 := by
    refine x_ldc C kcX9_179 dX9_stay_22 ?_
    have l_m1000000001 : (-1000000001 : Int32).toInt = -1000000001 := by decide
    exact x_iretP C hr hlk (Nat.le_refl _) (Nat.le_refl _) dX9_stay_24 ⟨rfl, (-1000000001 : Int32), rfl, trivial⟩
  refine x_aload_n C 0 dX9_stay_0 rfl rfl ?_
  obtain ⟨bc1, dc1, c1_10, c1_11, pc1, oc1, nc1, hc1⟩ := ty_0 hTy0
  have hbb_bc1 : bc1 = 112 ∨ bc1 = 119 := pc1
  have hbb_dc1 : dc1 = 112 ∨ dc1 = 119 := oc1
  refine gfX9_65 C dX9_stay_1 hc1 rfl ?_
  refine x_iload_n C 1 dX9_stay_4 rfl rfl ?_
  obtain ⟨c3_0, c3_1, c3_2, c3_3, hc3, qc3_0, qc3_1, qc3_2, qc3_3⟩ := ty_br hTy0 pc1
  refine x_callVP C cl_X1_hasTraveller kmX9_193 (ci := 0) (b := bc1) (As := [.int a1]) (rest := []) rfl hc3 (tc_X1_hasTraveller uu0 hTy0.1 bc1 pc1 a1) rfl rfl (Nat.le_of_ble_eq_true rfl) ⟨Nat.le_of_ble_eq_true rfl, Nat.le_of_ble_eq_true rfl⟩ ⟨Nat.le_of_ble_eq_true rfl, Nat.le_of_ble_eq_true rfl⟩ dX9_stay_5 ?_
  rintro _ _ ⟨rfl, r2, rfl, gr2⟩
  refine x_norm (st2 := [.int r2]) rfl rfl rfl rfl rfl ?_
  have l_0 : (0 : Int32).toInt = 0 := by decide
  refine x_if_eq C 22 dX9_stay_8 (by decide) (fun q5 => ?_) (fun q5 => ?_)
  · have rq5 : r2.toInt = (0 : Int32).toInt := by rw [i_eq_iff] at q5; omega
    exact J22  
  · have rq5 : ¬ r2.toInt = (0 : Int32).toInt := by rw [i_eq_iff] at q5; omega
    refine x_aload_n C 0 dX9_stay_11 rfl rfl ?_
    refine gfX9_65 C dX9_stay_12 hc1 rfl ?_
    refine x_iload_n C 2 dX9_stay_15 rfl rfl ?_
    refine x_callVP C cl_X1_hasMatter kmX9_176 (ci := 0) (b := bc1) (As := [.int a2]) (rest := []) rfl hc3 (tc_X1_hasMatter uu0 hTy0.1 bc1 pc1 a2) rfl rfl (Nat.le_of_ble_eq_true rfl) ⟨Nat.le_of_ble_eq_true rfl, Nat.le_of_ble_eq_true rfl⟩ ⟨Nat.le_of_ble_eq_true rfl, Nat.le_of_ble_eq_true rfl⟩ dX9_stay_16 ?_
    rintro _ _ ⟨rfl, r6, rfl, gr6⟩
    refine x_norm (st2 := [.int r6]) rfl rfl rfl rfl rfl ?_
    refine x_if_ne C 25 dX9_stay_19 (by decide) (fun q8 => ?_) (fun q8 => ?_)
    · have rq8 : ¬ r6.toInt = (0 : Int32).toInt := by rw [i_eq_iff] at q8; omega
      refine x_aload_n C 0 dX9_stay_25 rfl rfl ?_
      refine gfX9_65 C dX9_stay_26 hc1 rfl ?_
      refine x_iload_n C 1 dX9_stay_29 rfl rfl ?_
      refine x_iload_n C 2 dX9_stay_30 rfl rfl ?_
      refine x_callVP C cl_X1_stayOf kmX9_278 (ci := 0) (b := bc1) (As := [.int a1, .int a2]) (rest := []) rfl hc3 (tc_X1_stayOf uu0 hTy0.1 bc1 pc1 a1 a2) rfl rfl (Nat.le_of_ble_eq_true rfl) ⟨Nat.le_of_ble_eq_true rfl, Nat.le_of_ble_eq_true rfl⟩ ⟨Nat.le_of_ble_eq_true rfl, Nat.le_of_ble_eq_true rfl⟩ dX9_stay_31 ?_
      rintro _ _ ⟨rfl, r9, rfl, gr9⟩
      refine x_norm (st2 := [.int r9]) rfl rfl rfl rfl rfl ?_
      exact x_iretP C hr hlk (Nat.le_refl _) (Nat.le_refl _) dX9_stay_34 ⟨rfl, r9, rfl, trivial⟩
    · have rq8 : r6.toInt = (0 : Int32).toInt := by rw [i_eq_iff] at q8; omega
      exact J22  
set_option maxRecDepth 20000 in
set_option maxHeartbeats 2000000 in
theorem tc_X9_talk {G : GT} {l : Launch} {z n : Nat} {ln : Int} (uu0 : HpT) (hTz0 : TyC G z ln uu0) (a1 : Int32) (a2 : Int32) : Mp G l z yX9_talk cX9_talk 3 (some .int) { frames := 4, cells := 0, slots := 0, locals := 91 } [.ref (z + 0), .int a1, .int a2] uu0 n (fun r v => TC G z ln uu0 v ∧ ∃ x : Int32, r = some (.int x) ∧ True) := by
  refine mp_of (by decide +kernel) (Nat.le_of_ble_eq_true rfl) ?_
  intro p e s m below meth c C hr hlk hnm
  have hTy0 : TC G z ln uu0 uu0 := TC.rf hTz0
  have J23 : ∀ (u_23 : HpT) (hT_23 : TC G z ln uu0 u_23), Xw p l e ({ frames := 4, cells := 0, slots := 0, locals := 91 } : Room) s m ([.ref (z + 0), .int a1, .int a2] : List Value).toArray below meth c G z 3 (MQ below (Qp G z n (fun r v => TC G z ln uu0 v ∧ ∃ x : Int32, r = some (.int x) ∧ True)) ([.ref (z + 0), .int a1, .int a2] : List Value).toArray s 0 0 (zA z)) 23 [(0, .ref (z + 0)), (1, .int a1), (2, .int a2)] [] u_23 n 0 0 := by
    intro u_23 hT_23
    refine x_ldc C kcX9_80 dX9_talk_23 ?_
    have l_m1000000002 : (-1000000002 : Int32).toInt = -1000000002 := by decide
    exact x_iretP C hr hlk (Nat.le_refl _) (Nat.le_refl _) dX9_talk_25 ⟨hT_23, (-1000000002 : Int32), rfl, trivial⟩
  refine x_aload_n C 0 dX9_talk_0 rfl rfl ?_
  obtain ⟨bc1, dc1, c1_10, c1_11, pc1, oc1, nc1, hc1⟩ := ty_0 hTy0
  have hbb_bc1 : bc1 = 112 ∨ bc1 = 119 := pc1
  have hbb_dc1 : dc1 = 112 ∨ dc1 = 119 := oc1
  refine gfX9_65 C dX9_talk_1 hc1 rfl ?_
  refine x_iload_n C 1 dX9_talk_4 rfl rfl ?_
  obtain ⟨c3_0, c3_1, c3_2, c3_3, hc3, qc3_0, qc3_1, qc3_2, qc3_3⟩ := ty_br hTy0 pc1
  refine x_callVP C cl_X1_hasTraveller kmX9_193 (ci := 0) (b := bc1) (As := [.int a1]) (rest := []) rfl hc3 (tc_X1_hasTraveller uu0 hTy0.1 bc1 pc1 a1) rfl rfl (Nat.le_of_ble_eq_true rfl) ⟨Nat.le_of_ble_eq_true rfl, Nat.le_of_ble_eq_true rfl⟩ ⟨Nat.le_of_ble_eq_true rfl, Nat.le_of_ble_eq_true rfl⟩ dX9_talk_5 ?_
  rintro _ _ ⟨rfl, r2, rfl, gr2⟩
  refine x_norm (st2 := [.int r2]) rfl rfl rfl rfl rfl ?_
  have l_0 : (0 : Int32).toInt = 0 := by decide
  refine x_if_ne C 14 dX9_talk_8 (by decide) (fun q5 => ?_) (fun q5 => ?_)
  · have rq5 : ¬ r2.toInt = (0 : Int32).toInt := by rw [i_eq_iff] at q5; omega
    refine x_iload_n C 2 dX9_talk_14 rfl rfl ?_
    refine x_if_lt C 23 dX9_talk_15 (by decide) (fun q6 => ?_) (fun q6 => ?_)
    · have rq6 : a2.toInt < (0 : Int32).toInt := by rw [Int32.lt_iff_toInt_lt] at q6; omega
      exact J23 uu0 hTy0 
    · have rq6 : a2.toInt ≥ (0 : Int32).toInt := by rw [Int32.lt_iff_toInt_lt] at q6; omega
      refine x_iload_n C 2 dX9_talk_18 rfl rfl ?_
      refine x_iconst (v := (3 : Int32)) C dX9_talk_19 (by decide) ?_
      have l_3 : (3 : Int32).toInt = 3 := by decide
      refine x_icmp_le C 26 dX9_talk_20 (by decide) (fun q7 => ?_) (fun q7 => ?_)
      · have rq7 : a2.toInt ≤ (3 : Int32).toInt := by rw [Int32.le_iff_toInt_le] at q7; omega
        refine x_aload_n C 0 dX9_talk_26 rfl rfl ?_
        refine gfX9_39 C dX9_talk_27 hc1 rfl ?_
        refine x_aload_n C 0 dX9_talk_30 rfl rfl ?_
        refine gfX9_65 C dX9_talk_31 hc1 rfl ?_
        refine x_iload_n C 1 dX9_talk_34 rfl rfl ?_
        refine x_aload_n C 0 dX9_talk_35 rfl rfl ?_
        refine gfX9_19 C dX9_talk_36 hc1 rfl ?_
        obtain ⟨c8_0, c8_1, c8_2, c8_3, c8_4, c8_5, c8_6, c8_7, c8_8, c8_9, hc8⟩ := ty_ev hTy0 (Or.inl rfl)
        refine gfX9_134 C dX9_talk_39 hc8 rfl ?_
        obtain ⟨c9_1, c9_2, c9_3, hc9⟩ := ty_99 hTy0
        refine x_callVP C cl_X8_tryWith kmX9_282 (ci := 7) (b := 99) (As := [.ref (z + bc1), .int a1, .int c8_3]) (rest := []) rfl hc9 (tc_X8_tryWith uu0 hTy0.1 bc1 pc1 a1 c8_3) rfl rfl (Nat.le_of_ble_eq_true rfl) ⟨Nat.le_of_ble_eq_true rfl, Nat.le_of_ble_eq_true rfl⟩ ⟨Nat.le_of_ble_eq_true rfl, Nat.le_of_ble_eq_true rfl⟩ dX9_talk_42 ?_
        rintro _ u10 ⟨ju10, rfl⟩
        have hTu10 := hTy0.tr ju10.1
        refine x_norm (st2 := []) rfl rfl rfl rfl rfl ?_
        refine x_iload_n C 2 dX9_talk_45 rfl rfl ?_
        by_cases sw46 : a2.toInt < 0 ∨ 2 < a2.toInt
        · refine x_tableOut C 96 dX9_talk_46 sw46 (by decide) ?_
          refine x_aload_n C 0 dX9_talk_96 rfl rfl ?_
          have k11 := (ju10.2 0 (by omega) (by omega)).trans hc1
          refine gfX9_65 C dX9_talk_97 k11 rfl ?_
          refine x_aload_n C 0 dX9_talk_100 rfl rfl ?_
          refine gfX9_39 C dX9_talk_101 k11 rfl ?_
          obtain ⟨c12_1, c12_2, c12_3, hc12⟩ := ty_99 hTu10
          refine gfX9_286 C dX9_talk_104 hc12 rfl ?_
          have k14 := (ju10.2 bc1 (by omega) (by omega)).trans hc3
          refine x_callVP C cl_X1_payFor kmX9_293 (ci := 0) (b := bc1) (As := [.int c12_1]) (rest := []) rfl k14 (tc_X1_payFor u10 hTu10.1 bc1 pc1 c12_1) rfl rfl (Nat.le_of_ble_eq_true rfl) ⟨Nat.le_of_ble_eq_true rfl, Nat.le_of_ble_eq_true rfl⟩ ⟨Nat.le_of_ble_eq_true rfl, Nat.le_of_ble_eq_true rfl⟩ dX9_talk_107 ?_
          rintro _ _ ⟨rfl, r13, rfl, gr13⟩
          refine x_norm (st2 := [.int r13]) rfl rfl rfl rfl rfl ?_
          exact x_iretP C hr hlk (Nat.le_refl _) (Nat.le_refl _) dX9_talk_110 ⟨hTu10, r13, rfl, trivial⟩
        · rcases (by omega : a2.toInt = 0 ∨ a2.toInt = 1 ∨ a2.toInt = 2) with sx | sx | sx
          · refine x_tableIn C 72 dX9_talk_46 (by omega) (by omega) (by rw [sx]; rfl) (by decide) ?_
            refine x_aload_n C 0 dX9_talk_72 rfl rfl ?_
            have k16 := (ju10.2 0 (by omega) (by omega)).trans hc1
            refine gfX9_39 C dX9_talk_73 k16 rfl ?_
            obtain ⟨c17_1, c17_2, c17_3, hc17⟩ := ty_99 hTu10
            refine gfX9_286 C dX9_talk_76 hc17 rfl ?_
            exact x_iretP C hr hlk (Nat.le_refl _) (Nat.le_refl _) dX9_talk_79 ⟨hTu10, c17_1, rfl, trivial⟩
          · refine x_tableIn C 80 dX9_talk_46 (by omega) (by omega) (by rw [sx]; rfl) (by decide) ?_
            refine x_aload_n C 0 dX9_talk_80 rfl rfl ?_
            have k18 := (ju10.2 0 (by omega) (by omega)).trans hc1
            refine gfX9_39 C dX9_talk_81 k18 rfl ?_
            obtain ⟨c19_1, c19_2, c19_3, hc19⟩ := ty_99 hTu10
            refine gfX9_289 C dX9_talk_84 hc19 rfl ?_
            exact x_iretP C hr hlk (Nat.le_refl _) (Nat.le_refl _) dX9_talk_87 ⟨hTu10, c19_2, rfl, trivial⟩
          · refine x_tableIn C 88 dX9_talk_46 (by omega) (by omega) (by rw [sx]; rfl) (by decide) ?_
            refine x_aload_n C 0 dX9_talk_88 rfl rfl ?_
            have k20 := (ju10.2 0 (by omega) (by omega)).trans hc1
            refine gfX9_39 C dX9_talk_89 k20 rfl ?_
            obtain ⟨c21_1, c21_2, c21_3, hc21⟩ := ty_99 hTu10
            refine gfX9_292 C dX9_talk_92 hc21 rfl ?_
            exact x_iretP C hr hlk (Nat.le_refl _) (Nat.le_refl _) dX9_talk_95 ⟨hTu10, c21_3, rfl, trivial⟩
      · have rq7 : a2.toInt > (3 : Int32).toInt := by rw [Int32.le_iff_toInt_le] at q7; omega
        exact J23 uu0 hTy0 
  · have rq5 : r2.toInt = (0 : Int32).toInt := by rw [i_eq_iff] at q5; omega
    refine x_ldc C kcX9_179 dX9_talk_11 ?_
    have l_m1000000001 : (-1000000001 : Int32).toInt = -1000000001 := by decide
    exact x_iretP C hr hlk (Nat.le_refl _) (Nat.le_refl _) dX9_talk_13 ⟨hTy0, (-1000000001 : Int32), rfl, trivial⟩
set_option maxRecDepth 20000 in
set_option maxHeartbeats 2000000 in
theorem tc_X9_queue {G : GT} {l : Launch} {z n : Nat} {ln : Int} (uu0 : HpT) (hTz0 : TyC G z ln uu0) (a1 : Int32) : Mp G l z yX9_queue cX9_queue 2 (some .int) { frames := 5, cells := 0, slots := 0, locals := 115 } [.ref (z + 0), .int a1] uu0 n (fun r v => TC G z ln uu0 v ∧ ∃ x : Int32, r = some (.int x) ∧ True) := by
  refine mp_of (by decide +kernel) (Nat.le_of_ble_eq_true rfl) ?_
  intro p e s m below meth c C hr hlk hnm
  have hTy0 : TC G z ln uu0 uu0 := TC.rf hTz0
  have J9 : ∀ (u_9 : HpT) (hT_9 : TC G z ln uu0 u_9), Xw p l e ({ frames := 5, cells := 0, slots := 0, locals := 115 } : Room) s m ([.ref (z + 0), .int a1] : List Value).toArray below meth c G z 2 (MQ below (Qp G z n (fun r v => TC G z ln uu0 v ∧ ∃ x : Int32, r = some (.int x) ∧ True)) ([.ref (z + 0), .int a1] : List Value).toArray s 0 0 (zA z)) 9 [(0, .ref (z + 0)), (1, .int a1)] [] u_9 n 0 0 := by
    intro u_9 hT_9
    refine x_ldc C kcX9_80 dX9_queue_9 ?_
    have l_m1000000002 : (-1000000002 : Int32).toInt = -1000000002 := by decide
    exact x_iretP C hr hlk (Nat.le_refl _) (Nat.le_refl _) dX9_queue_11 ⟨hT_9, (-1000000002 : Int32), rfl, trivial⟩
  refine x_iload_n C 1 dX9_queue_0 rfl rfl ?_
  have l_0 : (0 : Int32).toInt = 0 := by decide
  refine x_if_lt C 9 dX9_queue_1 (by decide) (fun q1 => ?_) (fun q1 => ?_)
  · have rq1 : a1.toInt < (0 : Int32).toInt := by rw [Int32.lt_iff_toInt_lt] at q1; omega
    exact J9 uu0 hTy0 
  · have rq1 : a1.toInt ≥ (0 : Int32).toInt := by rw [Int32.lt_iff_toInt_lt] at q1; omega
    refine x_iload_n C 1 dX9_queue_4 rfl rfl ?_
    refine x_iconst (v := (1 : Int32)) C dX9_queue_5 (by decide) ?_
    have l_1 : (1 : Int32).toInt = 1 := by decide
    refine x_icmp_le C 12 dX9_queue_6 (by decide) (fun q2 => ?_) (fun q2 => ?_)
    · have rq2 : a1.toInt ≤ (1 : Int32).toInt := by rw [Int32.le_iff_toInt_le] at q2; omega
      refine x_aload_n C 0 dX9_queue_12 rfl rfl ?_
      obtain ⟨bc3, dc3, c3_10, c3_11, pc3, oc3, nc3, hc3⟩ := ty_0 hTy0
      have hbb_bc3 : bc3 = 112 ∨ bc3 = 119 := pc3
      have hbb_dc3 : dc3 = 112 ∨ dc3 = 119 := oc3
      refine gfX9_19 C dX9_queue_13 hc3 rfl ?_
      obtain ⟨c4_0, c4_1, c4_2, c4_3, c4_4, c4_5, c4_6, c4_7, c4_8, c4_9, hc4⟩ := ty_ev hTy0 (Or.inl rfl)
      refine gfX9_158 C dX9_queue_16 hc4 rfl ?_
      refine x_iconst (v := (-1 : Int32)) C dX9_queue_19 (by decide) ?_
      have l_m1 : (-1 : Int32).toInt = -1 := by decide
      refine x_icmp_eq C 26 dX9_queue_20 (by decide) (fun q5 => ?_) (fun q5 => ?_)
      · have rq5 : c4_4.toInt = (-1 : Int32).toInt := by rw [i_eq_iff] at q5; omega
        refine x_aload_n C 0 dX9_queue_26 rfl rfl ?_
        refine gfX9_46 C dX9_queue_27 hc3 rfl ?_
        refine x_aload_n C 0 dX9_queue_30 rfl rfl ?_
        refine gfX9_65 C dX9_queue_31 hc3 rfl ?_
        refine x_aload_n C 0 dX9_queue_34 rfl rfl ?_
        refine gfX9_19 C dX9_queue_35 hc3 rfl ?_
        refine x_aload_n C 0 dX9_queue_38 rfl rfl ?_
        refine gfX9_39 C dX9_queue_39 hc3 rfl ?_
        obtain ⟨c6_4, c6_5, c6_6, hc6, qc6_0, qc6_1⟩ := ty_101 hTy0
        refine x_callVP C cl_X5_fill kmX9_296 (ci := 4) (b := 101) (As := [.ref (z + bc3), .ref (z + 3), .ref (z + 99)]) (rest := []) rfl hc6 (tc_X5_fill uu0 hTy0.1 bc3 pc3) rfl rfl (Nat.le_of_ble_eq_true rfl) ⟨Nat.le_of_ble_eq_true rfl, Nat.le_of_ble_eq_true rfl⟩ ⟨Nat.le_of_ble_eq_true rfl, Nat.le_of_ble_eq_true rfl⟩ dX9_queue_42 ?_
        rintro _ u7 ⟨ju7, rfl⟩
        have hTu7 := hTy0.tr ju7
        refine x_norm (st2 := []) rfl rfl rfl rfl rfl ?_
        refine x_aload_n C 0 dX9_queue_45 rfl rfl ?_
        obtain ⟨bc8, dc8, c8_10, c8_11, pc8, oc8, nc8, hc8⟩ := ty_0 hTu7
        have hbb_bc8 : bc8 = 112 ∨ bc8 = 119 := pc8
        have hbb_dc8 : dc8 = 112 ∨ dc8 = 119 := oc8
        refine gfX9_46 C dX9_queue_46 hc8 rfl ?_
        obtain ⟨c9_4, c9_5, c9_6, hc9, qc9_0, qc9_1⟩ := ty_101 hTu7
        refine x_callVP C cl_X5_tryOrders kmX9_300 (ci := 4) (b := 101) (As := []) (rest := []) rfl hc9 (tc_X5_tryOrders u7 hTu7.1) rfl rfl (Nat.le_of_ble_eq_true rfl) ⟨Nat.le_of_ble_eq_true rfl, Nat.le_of_ble_eq_true rfl⟩ ⟨Nat.le_of_ble_eq_true rfl, Nat.le_of_ble_eq_true rfl⟩ dX9_queue_49 ?_
        rintro _ u10 ⟨ju10, rfl⟩
        have hTu10 := hTu7.tr ju10
        refine x_norm (st2 := []) rfl rfl rfl rfl rfl ?_
        refine x_iload_n C 1 dX9_queue_52 rfl rfl ?_
        refine x_if_ne C 66 dX9_queue_53 (by decide) (fun q11 => ?_) (fun q11 => ?_)
        · have rq11 : ¬ a1.toInt = (0 : Int32).toInt := by rw [i_eq_iff] at q11; omega
          refine x_aload_n C 0 dX9_queue_66 rfl rfl ?_
          obtain ⟨bc12, dc12, c12_10, c12_11, pc12, oc12, nc12, hc12⟩ := ty_0 hTu10
          have hbb_bc12 : bc12 = 112 ∨ bc12 = 119 := pc12
          have hbb_dc12 : dc12 = 112 ∨ dc12 = 119 := oc12
          refine gfX9_46 C dX9_queue_67 hc12 rfl ?_
          obtain ⟨c13_4, c13_5, c13_6, hc13, qc13_0, qc13_1⟩ := ty_101 hTu10
          refine gfX9_306 C dX9_queue_70 hc13 rfl ?_
          exact x_iretP C hr hlk (Nat.le_refl _) (Nat.le_refl _) dX9_queue_73 ⟨hTu10, c13_6, rfl, trivial⟩
        · have rq11 : a1.toInt = (0 : Int32).toInt := by rw [i_eq_iff] at q11; omega
          refine x_aload_n C 0 dX9_queue_56 rfl rfl ?_
          obtain ⟨bc14, dc14, c14_10, c14_11, pc14, oc14, nc14, hc14⟩ := ty_0 hTu10
          have hbb_bc14 : bc14 = 112 ∨ bc14 = 119 := pc14
          have hbb_dc14 : dc14 = 112 ∨ dc14 = 119 := oc14
          refine gfX9_46 C dX9_queue_57 hc14 rfl ?_
          obtain ⟨c15_4, c15_5, c15_6, hc15, qc15_0, qc15_1⟩ := ty_101 hTu10
          refine gfX9_303 C dX9_queue_60 hc15 rfl ?_
          refine x_goto C 73 dX9_queue_63 (by decide) ?_
          exact x_iretP C hr hlk (Nat.le_refl _) (Nat.le_refl _) dX9_queue_73 ⟨hTu10, c15_5, rfl, trivial⟩
      · have rq5 : ¬ c4_4.toInt = (-1 : Int32).toInt := by rw [i_eq_iff] at q5; omega
        refine x_ldc C kcX9_221 dX9_queue_23 ?_
        have l_m1000000003 : (-1000000003 : Int32).toInt = -1000000003 := by decide
        exact x_iretP C hr hlk (Nat.le_refl _) (Nat.le_refl _) dX9_queue_25 ⟨hTy0, (-1000000003 : Int32), rfl, trivial⟩
    · have rq2 : a1.toInt > (1 : Int32).toInt := by rw [Int32.le_iff_toInt_le] at q2; omega
      exact J9 uu0 hTy0 
set_option maxRecDepth 20000 in
set_option maxHeartbeats 2000000 in
theorem tc_X9_stayed {G : GT} {l : Launch} {z n : Nat} {ln : Int} (uu0 : HpT) (hTz0 : TyC G z ln uu0) (a1 : Int32) (a2 : Int32) : Mp G l z yX9_stayed cX9_stayed 3 (some .int) { frames := 1, cells := 0, slots := 0, locals := 22 } [.ref (z + 0), .int a1, .int a2] uu0 n (fun r v => TC G z ln uu0 v ∧ ∃ x : Int32, r = some (.int x) ∧ True) := by
  refine mp_of (by decide +kernel) (Nat.le_of_ble_eq_true rfl) ?_
  intro p e s m below meth c C hr hlk hnm
  have hTy0 : TC G z ln uu0 uu0 := TC.rf hTz0
  have J24 : ∀ (u_24 : HpT) (hT_24 : TC G z ln uu0 u_24), Xw p l e ({ frames := 1, cells := 0, slots := 0, locals := 22 } : Room) s m ([.ref (z + 0), .int a1, .int a2] : List Value).toArray below meth c G z 3 (MQ below (Qp G z n (fun r v => TC G z ln uu0 v ∧ ∃ x : Int32, r = some (.int x) ∧ True)) ([.ref (z + 0), .int a1, .int a2] : List Value).toArray s 0 0 (zA z)) 24 [(0, .ref (z + 0)), (1, .int a1), (2, .int a2)] [] u_24 n 0 0 := by
    intro u_24 hT_24
    refine x_ldc C kcX9_80 dX9_stayed_24 ?_
    have l_m1000000002 : (-1000000002 : Int32).toInt = -1000000002 := by decide
    exact x_iretP C hr hlk (Nat.le_refl _) (Nat.le_refl _) dX9_stayed_26 ⟨hT_24, (-1000000002 : Int32), rfl, trivial⟩
  refine x_aload_n C 0 dX9_stayed_0 rfl rfl ?_
  obtain ⟨bc1, dc1, c1_10, c1_11, pc1, oc1, nc1, hc1⟩ := ty_0 hTy0
  have hbb_bc1 : bc1 = 112 ∨ bc1 = 119 := pc1
  have hbb_dc1 : dc1 = 112 ∨ dc1 = 119 := oc1
  refine gfX9_65 C dX9_stayed_1 hc1 rfl ?_
  refine x_iload_n C 1 dX9_stayed_4 rfl rfl ?_
  obtain ⟨c3_0, c3_1, c3_2, c3_3, hc3, qc3_0, qc3_1, qc3_2, qc3_3⟩ := ty_br hTy0 pc1
  refine x_callVP C cl_X1_hasTraveller kmX9_193 (ci := 0) (b := bc1) (As := [.int a1]) (rest := []) rfl hc3 (tc_X1_hasTraveller uu0 hTy0.1 bc1 pc1 a1) rfl rfl (Nat.le_of_ble_eq_true rfl) ⟨Nat.le_of_ble_eq_true rfl, Nat.le_of_ble_eq_true rfl⟩ ⟨Nat.le_of_ble_eq_true rfl, Nat.le_of_ble_eq_true rfl⟩ dX9_stayed_5 ?_
  rintro _ _ ⟨rfl, r2, rfl, gr2⟩
  refine x_norm (st2 := [.int r2]) rfl rfl rfl rfl rfl ?_
  have l_0 : (0 : Int32).toInt = 0 := by decide
  refine x_if_ne C 14 dX9_stayed_8 (by decide) (fun q5 => ?_) (fun q5 => ?_)
  · have rq5 : ¬ r2.toInt = (0 : Int32).toInt := by rw [i_eq_iff] at q5; omega
    refine x_iload_n C 2 dX9_stayed_14 rfl rfl ?_
    refine x_if_lt C 24 dX9_stayed_15 (by decide) (fun q6 => ?_) (fun q6 => ?_)
    · have rq6 : a2.toInt < (0 : Int32).toInt := by rw [Int32.lt_iff_toInt_lt] at q6; omega
      exact J24 uu0 hTy0 
    · have rq6 : a2.toInt ≥ (0 : Int32).toInt := by rw [Int32.lt_iff_toInt_lt] at q6; omega
      refine x_iload_n C 2 dX9_stayed_18 rfl rfl ?_
      refine x_bipush (v := (100 : Int32)) C dX9_stayed_19 (by decide) ?_
      have l_100 : (100 : Int32).toInt = 100 := by decide
      refine x_icmp_le C 27 dX9_stayed_21 (by decide) (fun q7 => ?_) (fun q7 => ?_)
      · have rq7 : a2.toInt ≤ (100 : Int32).toInt := by rw [Int32.le_iff_toInt_le] at q7; omega
        refine x_aload_n C 0 dX9_stayed_27 rfl rfl ?_
        refine gfX9_55 C dX9_stayed_28 hc1 rfl ?_
        refine x_iload_n C 1 dX9_stayed_31 rfl rfl ?_
        refine x_iload_n C 2 dX9_stayed_32 rfl rfl ?_
        obtain ⟨c9_2, hc9, qc9_0, qc9_1⟩ := ty_en hTy0 (Or.inl ⟨rfl, rfl⟩)
        refine x_callVP C cl_X2_add kmX9_313 (ci := 1) (b := 106) (As := [.int a1, .int a2]) (rest := []) rfl hc9 (tc_X2_add uu0 hTy0.1 106 6 (Or.inl ⟨rfl, rfl⟩) a1 a2) rfl rfl (Nat.le_of_ble_eq_true rfl) ⟨Nat.le_of_ble_eq_true rfl, Nat.le_of_ble_eq_true rfl⟩ ⟨Nat.le_of_ble_eq_true rfl, Nat.le_of_ble_eq_true rfl⟩ dX9_stayed_33 ?_
        rintro _ u10 ⟨ju10, r8, rfl, gr8⟩
        have hTu10 := hTy0.tr ju10
        refine x_norm (st2 := [.int r8]) rfl rfl rfl rfl rfl ?_
        refine x_if_eq C 49 dX9_stayed_36 (by decide) (fun q11 => ?_) (fun q11 => ?_)
        · have rq11 : r8.toInt = (0 : Int32).toInt := by rw [i_eq_iff] at q11; omega
          refine x_ldc C kcX9_88 dX9_stayed_49 ?_
          have l_m1000000004 : (-1000000004 : Int32).toInt = -1000000004 := by decide
          exact x_iretP C hr hlk (Nat.le_refl _) (Nat.le_refl _) dX9_stayed_51 ⟨hTu10, (-1000000004 : Int32), rfl, trivial⟩
        · have rq11 : ¬ r8.toInt = (0 : Int32).toInt := by rw [i_eq_iff] at q11; omega
          refine x_aload_n C 0 dX9_stayed_39 rfl rfl ?_
          obtain ⟨bc12, dc12, c12_10, c12_11, pc12, oc12, nc12, hc12⟩ := ty_0 hTu10
          have hbb_bc12 : bc12 = 112 ∨ bc12 = 119 := pc12
          have hbb_dc12 : dc12 = 112 ∨ dc12 = 119 := oc12
          refine gfX9_55 C dX9_stayed_40 hc12 rfl ?_
          obtain ⟨c13_2, hc13, qc13_0, qc13_1⟩ := ty_en hTu10 (Or.inl ⟨rfl, rfl⟩)
          refine gfX9_141 C dX9_stayed_43 hc13 rfl ?_
          refine x_goto C 51 dX9_stayed_46 (by decide) ?_
          exact x_iretP C hr hlk (Nat.le_refl _) (Nat.le_refl _) dX9_stayed_51 ⟨hTu10, c13_2, rfl, trivial⟩
      · have rq7 : a2.toInt > (100 : Int32).toInt := by rw [Int32.le_iff_toInt_le] at q7; omega
        exact J24 uu0 hTy0 
  · have rq5 : r2.toInt = (0 : Int32).toInt := by rw [i_eq_iff] at q5; omega
    refine x_ldc C kcX9_179 dX9_stayed_11 ?_
    have l_m1000000001 : (-1000000001 : Int32).toInt = -1000000001 := by decide
    exact x_iretP C hr hlk (Nat.le_refl _) (Nat.le_refl _) dX9_stayed_13 ⟨hTy0, (-1000000001 : Int32), rfl, trivial⟩
set_option maxRecDepth 20000 in
set_option maxHeartbeats 2000000 in
theorem tc_X9_couldBe {G : GT} {l : Launch} {z n : Nat} {ln : Int} (uu0 : HpT) (hTz0 : TyC G z ln uu0) : Mp G l z yX9_couldBe cX9_couldBe 1 (some .int) { frames := 4, cells := 0, slots := 0, locals := 89 } [.ref (z + 0)] uu0 n (fun r v => uu0 = v ∧ ∃ x : Int32, r = some (.int x) ∧ True) := by
  refine mp_of (by decide +kernel) (Nat.le_of_ble_eq_true rfl) ?_
  intro p e s m below meth c C hr hlk hnm
  have hTy0 : TC G z ln uu0 uu0 := TC.rf hTz0
  refine x_aload_n C 0 dX9_couldBe_0 rfl rfl ?_
  obtain ⟨bc1, dc1, c1_10, c1_11, pc1, oc1, nc1, hc1⟩ := ty_0 hTy0
  have hbb_bc1 : bc1 = 112 ∨ bc1 = 119 := pc1
  have hbb_dc1 : dc1 = 112 ∨ dc1 = 119 := oc1
  refine gfX9_55 C dX9_couldBe_1 hc1 rfl ?_
  refine x_aload_n C 0 dX9_couldBe_4 rfl rfl ?_
  refine gfX9_65 C dX9_couldBe_5 hc1 rfl ?_
  obtain ⟨c3_2, hc3, qc3_0, qc3_1⟩ := ty_en hTy0 (Or.inl ⟨rfl, rfl⟩)
  refine x_callVP C cl_X2_fitting kmX9_315 (ci := 1) (b := 106) (As := [.ref (z + bc1)]) (rest := []) rfl hc3 (tc_X2_fitting uu0 hTy0.1 106 6 (Or.inl ⟨rfl, rfl⟩) bc1 pc1) rfl rfl (Nat.le_of_ble_eq_true rfl) ⟨Nat.le_of_ble_eq_true rfl, Nat.le_of_ble_eq_true rfl⟩ ⟨Nat.le_of_ble_eq_true rfl, Nat.le_of_ble_eq_true rfl⟩ dX9_couldBe_8 ?_
  rintro _ _ ⟨rfl, r2, rfl, gr2⟩
  refine x_norm (st2 := [.int r2]) rfl rfl rfl rfl rfl ?_
  exact x_iretP C hr hlk (Nat.le_refl _) (Nat.le_refl _) dX9_couldBe_11 ⟨rfl, r2, rfl, trivial⟩
set_option maxRecDepth 20000 in
set_option maxHeartbeats 2000000 in
theorem tc_X9_ask {G : GT} {l : Launch} {z n : Nat} {ln : Int} (uu0 : HpT) (hTz0 : TyC G z ln uu0) : Mp G l z yX9_ask cX9_ask 1 (some .int) { frames := 5, cells := 0, slots := 0, locals := 117 } [.ref (z + 0)] uu0 n (fun r v => uu0 = v ∧ ∃ x : Int32, r = some (.int x) ∧ True) := by
  refine mp_of (by decide +kernel) (Nat.le_of_ble_eq_true rfl) ?_
  intro p e s m below meth c C hr hlk hnm
  have hTy0 : TC G z ln uu0 uu0 := TC.rf hTz0
  refine x_aload_n C 0 dX9_ask_0 rfl rfl ?_
  obtain ⟨bc1, dc1, c1_10, c1_11, pc1, oc1, nc1, hc1⟩ := ty_0 hTy0
  have hbb_bc1 : bc1 = 112 ∨ bc1 = 119 := pc1
  have hbb_dc1 : dc1 = 112 ∨ dc1 = 119 := oc1
  refine gfX9_65 C dX9_ask_1 hc1 rfl ?_
  refine x_aload_n C 0 dX9_ask_4 rfl rfl ?_
  refine gfX9_55 C dX9_ask_5 hc1 rfl ?_
  refine x_aload_n C 0 dX9_ask_8 rfl rfl ?_
  refine gfX9_65 C dX9_ask_9 hc1 rfl ?_
  obtain ⟨c3_2, hc3, qc3_0, qc3_1⟩ := ty_en hTy0 (Or.inl ⟨rfl, rfl⟩)
  refine x_callVP C cl_X2_fitting kmX9_315 (ci := 1) (b := 106) (As := [.ref (z + bc1)]) (rest := [.ref (z + bc1)]) rfl hc3 (tc_X2_fitting uu0 hTy0.1 106 6 (Or.inl ⟨rfl, rfl⟩) bc1 pc1) rfl rfl (Nat.le_of_ble_eq_true rfl) ⟨Nat.le_of_ble_eq_true rfl, Nat.le_of_ble_eq_true rfl⟩ ⟨Nat.le_of_ble_eq_true rfl, Nat.le_of_ble_eq_true rfl⟩ dX9_ask_12 ?_
  rintro _ _ ⟨rfl, r2, rfl, gr2⟩
  refine x_norm (st2 := [.int r2, .ref (z + bc1)]) rfl rfl rfl rfl rfl ?_
  refine x_callSP C cl_X0_bestOf kmX9_318 (As := [.ref (z + bc1), .int r2]) (rest := []) (tc_X0_bestOf uu0 hTy0.1 bc1 pc1 r2) rfl rfl (Nat.le_of_ble_eq_true rfl) ⟨Nat.le_of_ble_eq_true rfl, Nat.le_of_ble_eq_true rfl⟩ ⟨Nat.le_of_ble_eq_true rfl, Nat.le_of_ble_eq_true rfl⟩ dX9_ask_15 ?_
  rintro _ _ ⟨rfl, r5, rfl, gr5⟩
  refine x_norm (st2 := [.int r5]) rfl rfl rfl rfl rfl ?_
  exact x_iretP C hr hlk (Nat.le_refl _) (Nat.le_refl _) dX9_ask_18 ⟨rfl, r5, rfl, trivial⟩
set_option maxRecDepth 20000 in
set_option maxHeartbeats 2000000 in
theorem tc_X9_write {G : GT} {l : Launch} {z n : Nat} {ln : Int} (uu0 : HpT) (hTz0 : TyC G z ln uu0) (a1 : Int32) (a2 : Int32) : Mp G l z yX9_write cX9_write 3 (some .int) { frames := 1, cells := 0, slots := 0, locals := 22 } [.ref (z + 0), .int a1, .int a2] uu0 n (fun r v => TC G z ln uu0 v ∧ ∃ x : Int32, r = some (.int x) ∧ True) := by
  refine mp_of (by decide +kernel) (Nat.le_of_ble_eq_true rfl) ?_
  intro p e s m below meth c C hr hlk hnm
  have hTy0 : TC G z ln uu0 uu0 := TC.rf hTz0
  have J25 : ∀ (u_25 : HpT) (hT_25 : TC G z ln uu0 u_25), Xw p l e ({ frames := 1, cells := 0, slots := 0, locals := 22 } : Room) s m ([.ref (z + 0), .int a1, .int a2] : List Value).toArray below meth c G z 3 (MQ below (Qp G z n (fun r v => TC G z ln uu0 v ∧ ∃ x : Int32, r = some (.int x) ∧ True)) ([.ref (z + 0), .int a1, .int a2] : List Value).toArray s 0 0 (zA z)) 25 [(0, .ref (z + 0)), (1, .int a1), (2, .int a2)] [] u_25 n 0 0 := by
    intro u_25 hT_25
    refine x_ldc C kcX9_80 dX9_write_25 ?_
    have l_m1000000002 : (-1000000002 : Int32).toInt = -1000000002 := by decide
    exact x_iretP C hr hlk (Nat.le_refl _) (Nat.le_refl _) dX9_write_27 ⟨hT_25, (-1000000002 : Int32), rfl, trivial⟩
  refine x_aload_n C 0 dX9_write_0 rfl rfl ?_
  obtain ⟨bc1, dc1, c1_10, c1_11, pc1, oc1, nc1, hc1⟩ := ty_0 hTy0
  have hbb_bc1 : bc1 = 112 ∨ bc1 = 119 := pc1
  have hbb_dc1 : dc1 = 112 ∨ dc1 = 119 := oc1
  refine gfX9_65 C dX9_write_1 hc1 rfl ?_
  refine x_iload_n C 1 dX9_write_4 rfl rfl ?_
  obtain ⟨c3_0, c3_1, c3_2, c3_3, hc3, qc3_0, qc3_1, qc3_2, qc3_3⟩ := ty_br hTy0 pc1
  refine x_callVP C cl_X1_hasTraveller kmX9_193 (ci := 0) (b := bc1) (As := [.int a1]) (rest := []) rfl hc3 (tc_X1_hasTraveller uu0 hTy0.1 bc1 pc1 a1) rfl rfl (Nat.le_of_ble_eq_true rfl) ⟨Nat.le_of_ble_eq_true rfl, Nat.le_of_ble_eq_true rfl⟩ ⟨Nat.le_of_ble_eq_true rfl, Nat.le_of_ble_eq_true rfl⟩ dX9_write_5 ?_
  rintro _ _ ⟨rfl, r2, rfl, gr2⟩
  refine x_norm (st2 := [.int r2]) rfl rfl rfl rfl rfl ?_
  have l_0 : (0 : Int32).toInt = 0 := by decide
  refine x_if_ne C 14 dX9_write_8 (by decide) (fun q5 => ?_) (fun q5 => ?_)
  · have rq5 : ¬ r2.toInt = (0 : Int32).toInt := by rw [i_eq_iff] at q5; omega
    refine x_iload_n C 2 dX9_write_14 rfl rfl ?_
    refine x_if_lt C 25 dX9_write_15 (by decide) (fun q6 => ?_) (fun q6 => ?_)
    · have rq6 : a2.toInt < (0 : Int32).toInt := by rw [Int32.lt_iff_toInt_lt] at q6; omega
      exact J25 uu0 hTy0 
    · have rq6 : a2.toInt ≥ (0 : Int32).toInt := by rw [Int32.lt_iff_toInt_lt] at q6; omega
      refine x_iload_n C 2 dX9_write_18 rfl rfl ?_
      refine x_sipush (v := (9999 : Int32)) C dX9_write_19 (by decide) ?_
      have l_9999 : (9999 : Int32).toInt = 9999 := by decide
      refine x_icmp_le C 28 dX9_write_22 (by decide) (fun q7 => ?_) (fun q7 => ?_)
      · have rq7 : a2.toInt ≤ (9999 : Int32).toInt := by rw [Int32.le_iff_toInt_le] at q7; omega
        refine x_aload_n C 0 dX9_write_28 rfl rfl ?_
        refine gfX9_59 C dX9_write_29 hc1 rfl ?_
        refine x_iload_n C 1 dX9_write_32 rfl rfl ?_
        refine x_iload_n C 2 dX9_write_33 rfl rfl ?_
        obtain ⟨c9_2, hc9, qc9_0, qc9_1⟩ := ty_en hTy0 (Or.inr ⟨rfl, rfl⟩)
        refine x_callVP C cl_X2_add kmX9_313 (ci := 1) (b := 109) (As := [.int a1, .int a2]) (rest := []) rfl hc9 (tc_X2_add uu0 hTy0.1 109 20 (Or.inr ⟨rfl, rfl⟩) a1 a2) rfl rfl (Nat.le_of_ble_eq_true rfl) ⟨Nat.le_of_ble_eq_true rfl, Nat.le_of_ble_eq_true rfl⟩ ⟨Nat.le_of_ble_eq_true rfl, Nat.le_of_ble_eq_true rfl⟩ dX9_write_34 ?_
        rintro _ u10 ⟨ju10, r8, rfl, gr8⟩
        have hTu10 := hTy0.tr ju10
        refine x_norm (st2 := [.int r8]) rfl rfl rfl rfl rfl ?_
        refine x_if_eq C 50 dX9_write_37 (by decide) (fun q11 => ?_) (fun q11 => ?_)
        · have rq11 : r8.toInt = (0 : Int32).toInt := by rw [i_eq_iff] at q11; omega
          refine x_ldc C kcX9_88 dX9_write_50 ?_
          have l_m1000000004 : (-1000000004 : Int32).toInt = -1000000004 := by decide
          exact x_iretP C hr hlk (Nat.le_refl _) (Nat.le_refl _) dX9_write_52 ⟨hTu10, (-1000000004 : Int32), rfl, trivial⟩
        · have rq11 : ¬ r8.toInt = (0 : Int32).toInt := by rw [i_eq_iff] at q11; omega
          refine x_aload_n C 0 dX9_write_40 rfl rfl ?_
          obtain ⟨bc12, dc12, c12_10, c12_11, pc12, oc12, nc12, hc12⟩ := ty_0 hTu10
          have hbb_bc12 : bc12 = 112 ∨ bc12 = 119 := pc12
          have hbb_dc12 : dc12 = 112 ∨ dc12 = 119 := oc12
          refine gfX9_59 C dX9_write_41 hc12 rfl ?_
          obtain ⟨c13_2, hc13, qc13_0, qc13_1⟩ := ty_en hTu10 (Or.inr ⟨rfl, rfl⟩)
          refine gfX9_141 C dX9_write_44 hc13 rfl ?_
          refine x_goto C 52 dX9_write_47 (by decide) ?_
          exact x_iretP C hr hlk (Nat.le_refl _) (Nat.le_refl _) dX9_write_52 ⟨hTu10, c13_2, rfl, trivial⟩
      · have rq7 : a2.toInt > (9999 : Int32).toInt := by rw [Int32.le_iff_toInt_le] at q7; omega
        exact J25 uu0 hTy0 
  · have rq5 : r2.toInt = (0 : Int32).toInt := by rw [i_eq_iff] at q5; omega
    refine x_ldc C kcX9_179 dX9_write_11 ?_
    have l_m1000000001 : (-1000000001 : Int32).toInt = -1000000001 := by decide
    exact x_iretP C hr hlk (Nat.le_refl _) (Nat.le_refl _) dX9_write_13 ⟨hTy0, (-1000000001 : Int32), rfl, trivial⟩
set_option maxRecDepth 20000 in
set_option maxHeartbeats 2000000 in
theorem tc_X9_judge {G : GT} {l : Launch} {z n : Nat} {ln : Int} (uu0 : HpT) (hTz0 : TyC G z ln uu0) : Mp G l z yX9_judge cX9_judge 1 (some .int) { frames := 1, cells := 0, slots := 0, locals := 23 } [.ref (z + 0)] uu0 n (fun r v => uu0 = v ∧ ∃ x : Int32, r = some (.int x) ∧ True) := by
  refine mp_of (by decide +kernel) (Nat.le_of_ble_eq_true rfl) ?_
  intro p e s m below meth c C hr hlk hnm
  have hTy0 : TC G z ln uu0 uu0 := TC.rf hTz0
  refine x_aload_n C 0 dX9_judge_0 rfl rfl ?_
  obtain ⟨bc1, dc1, c1_10, c1_11, pc1, oc1, nc1, hc1⟩ := ty_0 hTy0
  have hbb_bc1 : bc1 = 112 ∨ bc1 = 119 := pc1
  have hbb_dc1 : dc1 = 112 ∨ dc1 = 119 := oc1
  refine gfX9_59 C dX9_judge_1 hc1 rfl ?_
  refine x_aload_n C 0 dX9_judge_4 rfl rfl ?_
  refine gfX9_19 C dX9_judge_5 hc1 rfl ?_
  obtain ⟨c2_0, c2_1, c2_2, c2_3, c2_4, c2_5, c2_6, c2_7, c2_8, c2_9, hc2⟩ := ty_ev hTy0 (Or.inl rfl)
  refine gfX9_205 C dX9_judge_8 hc2 rfl ?_
  obtain ⟨c4_2, hc4, qc4_0, qc4_1⟩ := ty_en hTy0 (Or.inr ⟨rfl, rfl⟩)
  refine x_callVP C cl_X2_firstWrong kmX9_323 (ci := 1) (b := 109) (As := [.ref (z + (3 + 2))]) (rest := []) rfl hc4 (tc_X2_firstWrong uu0 hTy0.1 109 20 (Or.inr ⟨rfl, rfl⟩)) rfl rfl (Nat.le_of_ble_eq_true rfl) ⟨Nat.le_of_ble_eq_true rfl, Nat.le_of_ble_eq_true rfl⟩ ⟨Nat.le_of_ble_eq_true rfl, Nat.le_of_ble_eq_true rfl⟩ dX9_judge_11 ?_
  rintro _ _ ⟨rfl, r3, rfl, gr3⟩
  refine x_norm (st2 := [.int r3]) rfl rfl rfl rfl rfl ?_
  exact x_iretP C hr hlk (Nat.le_refl _) (Nat.le_refl _) dX9_judge_14 ⟨rfl, r3, rfl, trivial⟩
set_option maxRecDepth 20000 in
set_option maxHeartbeats 2000000 in
theorem tc_X9_tear {G : GT} {l : Launch} {z n : Nat} {ln : Int} (uu0 : HpT) (hTz0 : TyC G z ln uu0) : Mp G l z yX9_tear cX9_tear 2 (some .int) { frames := 1, cells := 0, slots := 0, locals := 20 } [.ref (z + 0)] uu0 n (fun r v => TC G z ln uu0 v ∧ ∃ x : Int32, r = some (.int x) ∧ True) := by
  refine mp_of (by decide +kernel) (Nat.le_of_ble_eq_true rfl) ?_
  intro p e s m below meth c C hr hlk hnm
  have hTy0 : TC G z ln uu0 uu0 := TC.rf hTz0
  refine x_aload_n C 0 dX9_tear_0 rfl rfl ?_
  obtain ⟨bc1, dc1, c1_10, c1_11, pc1, oc1, nc1, hc1⟩ := ty_0 hTy0
  have hbb_bc1 : bc1 = 112 ∨ bc1 = 119 := pc1
  have hbb_dc1 : dc1 = 112 ∨ dc1 = 119 := oc1
  refine gfX9_55 C dX9_tear_1 hc1 rfl ?_
  obtain ⟨c2_2, hc2, qc2_0, qc2_1⟩ := ty_en hTy0 (Or.inl ⟨rfl, rfl⟩)
  refine gfX9_141 C dX9_tear_4 hc2 rfl ?_
  refine x_aload_n C 0 dX9_tear_7 rfl rfl ?_
  refine gfX9_59 C dX9_tear_8 hc1 rfl ?_
  obtain ⟨c3_2, hc3, qc3_0, qc3_1⟩ := ty_en hTy0 (Or.inr ⟨rfl, rfl⟩)
  refine gfX9_141 C dX9_tear_11 hc3 rfl ?_
  refine x_iadd C dX9_tear_14 ?_
  refine x_top (fun w4 ew4 => ?_)
  have fw4_0 : w4.toInt = c2_2.toInt + c3_2.toInt := by rw [ew4]; exact i_add (by omega) (by omega)
  refine x_istore_n C [(1, .int w4), (0, .ref (z + 0))] dX9_tear_15 rfl (by decide) rfl ?_
  refine x_aload_n C 1 dX9_tear_16 rfl rfl ?_
  refine gfX9_55 C dX9_tear_17 hc1 rfl ?_
  refine x_callVP C cl_X2_forget kmX9_112 (ci := 1) (b := 106) (As := []) (rest := []) rfl hc2 (tc_X2_forget uu0 hTy0.1 106 6 (Or.inl ⟨rfl, rfl⟩)) rfl rfl (Nat.le_of_ble_eq_true rfl) ⟨Nat.le_of_ble_eq_true rfl, Nat.le_of_ble_eq_true rfl⟩ ⟨Nat.le_of_ble_eq_true rfl, Nat.le_of_ble_eq_true rfl⟩ dX9_tear_20 ?_
  rintro _ u5 ⟨ju5, rfl⟩
  have hTu5 := hTy0.tr ju5
  refine x_norm (st2 := []) rfl rfl rfl rfl rfl ?_
  refine x_aload_n C 1 dX9_tear_23 rfl rfl ?_
  obtain ⟨bc6, dc6, c6_10, c6_11, pc6, oc6, nc6, hc6⟩ := ty_0 hTu5
  have hbb_bc6 : bc6 = 112 ∨ bc6 = 119 := pc6
  have hbb_dc6 : dc6 = 112 ∨ dc6 = 119 := oc6
  refine gfX9_59 C dX9_tear_24 hc6 rfl ?_
  obtain ⟨c7_2, hc7, qc7_0, qc7_1⟩ := ty_en hTu5 (Or.inr ⟨rfl, rfl⟩)
  refine x_callVP C cl_X2_forget kmX9_112 (ci := 1) (b := 109) (As := []) (rest := []) rfl hc7 (tc_X2_forget u5 hTu5.1 109 20 (Or.inr ⟨rfl, rfl⟩)) rfl rfl (Nat.le_of_ble_eq_true rfl) ⟨Nat.le_of_ble_eq_true rfl, Nat.le_of_ble_eq_true rfl⟩ ⟨Nat.le_of_ble_eq_true rfl, Nat.le_of_ble_eq_true rfl⟩ dX9_tear_27 ?_
  rintro _ u8 ⟨ju8, rfl⟩
  have hTu8 := hTu5.tr ju8
  refine x_norm (st2 := []) rfl rfl rfl rfl rfl ?_
  refine x_iload_n C 0 dX9_tear_30 rfl rfl ?_
  exact x_iretP C hr hlk (Nat.le_refl _) (Nat.le_refl _) dX9_tear_31 ⟨hTu8, w4, rfl, trivial⟩
set_option maxRecDepth 20000 in
set_option maxHeartbeats 2000000 in
theorem tc_X9_seed {G : GT} {l : Launch} {z n : Nat} {ln : Int} (uu0 : HpT) (hTz0 : TyC G z ln uu0) (a1 : Int32) : Mp G l z yX9_seed cX9_seed 3 (some .int) { frames := 0, cells := 0, slots := 0, locals := 0 } [.ref (z + 0), .int a1] uu0 n (fun r v => TC G z ln uu0 v ∧ ∃ x : Int32, r = some (.int x) ∧ True) := by
  refine mp_of (by decide +kernel) (Nat.le_of_ble_eq_true rfl) ?_
  intro p e s m below meth c C hr hlk hnm
  have hTy0 : TC G z ln uu0 uu0 := TC.rf hTz0
  refine x_iload_n C 1 dX9_seed_0 rfl rfl ?_
  have l_0 : (0 : Int32).toInt = 0 := by decide
  refine x_if_ge C 7 dX9_seed_1 (by decide) (fun q1 => ?_) (fun q1 => ?_)
  · have rq1 : a1.toInt ≥ (0 : Int32).toInt := by rw [Int32.le_iff_toInt_le] at q1; omega
    refine x_aload_n C 0 dX9_seed_7 rfl rfl ?_
    obtain ⟨bc2, dc2, c2_10, c2_11, pc2, oc2, nc2, hc2⟩ := ty_0 hTy0
    have hbb_bc2 : bc2 = 112 ∨ bc2 = 119 := pc2
    have hbb_dc2 : dc2 = 112 ∨ dc2 = 119 := oc2
    refine gfX9_72 C dX9_seed_8 hc2 rfl ?_
    refine x_istore_n C [(2, .int c2_10), (0, .ref (z + 0)), (1, .int a1)] dX9_seed_11 rfl (by decide) rfl ?_
    refine x_aload_n C 1 dX9_seed_12 rfl rfl ?_
    refine x_iload_n C 2 dX9_seed_13 rfl rfl ?_
    obtain ⟨u3, eu3⟩ : ∃ w : HpT, w = hup uu0 0 (.inr (8, [.ref (z + 1), .ref (z + 3), .ref (z + 6), .ref (z + 98), .ref (z + 99), .ref (z + 101), .ref (z + 106), .ref (z + 109), .ref (z + bc2), .ref (z + dc2), .int a1, .int c2_11])) := ⟨_, rfl⟩
    refine pfX9_72 C dX9_seed_14 hc2 (Nat.le_of_ble_eq_true rfl) rfl eu3.symm ?_
    have hTu3 : TC G z ln uu0 u3 := by rw [eu3]; exact hTy0.up_0 (by omega)
    have hn4 := (congrFun eu3 0).trans (hup_s _ _ _)
    refine x_iload_n C 0 dX9_seed_17 rfl rfl ?_
    exact x_iretP C hr hlk (Nat.le_refl _) (Nat.le_refl _) dX9_seed_18 ⟨hTu3, c2_10, rfl, trivial⟩
  · have rq1 : a1.toInt < (0 : Int32).toInt := by rw [Int32.le_iff_toInt_le] at q1; omega
    refine x_ldc C kcX9_80 dX9_seed_4 ?_
    have l_m1000000002 : (-1000000002 : Int32).toInt = -1000000002 := by decide
    exact x_iretP C hr hlk (Nat.le_refl _) (Nat.le_refl _) dX9_seed_6 ⟨hTy0, (-1000000002 : Int32), rfl, trivial⟩
set_option maxRecDepth 20000 in
set_option maxHeartbeats 2000000 in
theorem tc_X9_keep {G : GT} {l : Launch} {z n : Nat} {ln : Int} (uu0 : HpT) (hTz0 : TyC G z ln uu0) (a1 : Int32) : Mp G l z yX9_keep cX9_keep 3 (some .int) { frames := 1, cells := 0, slots := 0, locals := 22 } [.ref (z + 0), .int a1] uu0 n (fun r v => TC G z ln uu0 v ∧ ∃ x : Int32, r = some (.int x) ∧ True) := by
  refine mp_of (by decide +kernel) (Nat.le_of_ble_eq_true rfl) ?_
  intro p e s m below meth c C hr hlk hnm
  have hTy0 : TC G z ln uu0 uu0 := TC.rf hTz0
  have J13 : ∀ (u_13 : HpT) (hT_13 : TC G z ln uu0 u_13), Xw p l e ({ frames := 1, cells := 0, slots := 0, locals := 22 } : Room) s m ([.ref (z + 0), .int a1] : List Value).toArray below meth c G z 3 (MQ below (Qp G z n (fun r v => TC G z ln uu0 v ∧ ∃ x : Int32, r = some (.int x) ∧ True)) ([.ref (z + 0), .int a1] : List Value).toArray s 0 0 (zA z)) 13 [(0, .ref (z + 0)), (1, .int a1)] [] u_13 n 0 0 := by
    intro u_13 hT_13
    refine x_ldc C kcX9_179 dX9_keep_13 ?_
    have l_m1000000001 : (-1000000001 : Int32).toInt = -1000000001 := by decide
    exact x_iretP C hr hlk (Nat.le_refl _) (Nat.le_refl _) dX9_keep_15 ⟨hT_13, (-1000000001 : Int32), rfl, trivial⟩
  refine x_iload_n C 1 dX9_keep_0 rfl rfl ?_
  have l_0 : (0 : Int32).toInt = 0 := by decide
  refine x_if_lt C 13 dX9_keep_1 (by decide) (fun q1 => ?_) (fun q1 => ?_)
  · have rq1 : a1.toInt < (0 : Int32).toInt := by rw [Int32.lt_iff_toInt_lt] at q1; omega
    exact J13 uu0 hTy0 
  · have rq1 : a1.toInt ≥ (0 : Int32).toInt := by rw [Int32.lt_iff_toInt_lt] at q1; omega
    refine x_iload_n C 1 dX9_keep_4 rfl rfl ?_
    refine x_aload_n C 0 dX9_keep_5 rfl rfl ?_
    obtain ⟨bc2, dc2, c2_10, c2_11, pc2, oc2, nc2, hc2⟩ := ty_0 hTy0
    have hbb_bc2 : bc2 = 112 ∨ bc2 = 119 := pc2
    have hbb_dc2 : dc2 = 112 ∨ dc2 = 119 := oc2
    refine gfX9_32 C dX9_keep_6 hc2 rfl ?_
    obtain ⟨f3, hf3, qf3_0, qf3_1⟩ := ty_98 hTy0
    refine x_alen (v := (2 : Int32)) C 4 hf3 rfl rfl dX9_keep_9 ?_
    have l_2 : (2 : Int32).toInt = 2 := by decide
    refine x_icmp_lt C 16 dX9_keep_10 (by decide) (fun q4 => ?_) (fun q4 => ?_)
    · have rq4 : a1.toInt < (2 : Int32).toInt := by rw [Int32.lt_iff_toInt_lt] at q4; omega
      refine x_aload_n C 0 dX9_keep_16 rfl rfl ?_
      refine gfX9_32 C dX9_keep_17 hc2 rfl ?_
      refine x_iload_n C 1 dX9_keep_20 rfl rfl ?_
      obtain ⟨o5, eo5, po5⟩ : ∃ o, f3 a1.toNatClampNeg = some (z + o) ∧ (o = 126 ∨ o = 130) := i_two qf3_0 qf3_1 (by omega) (by omega)
      refine x_aaldM C hf3 (i_in (by omega) (by omega)) eo5 dX9_keep_21 ?_
      refine x_astore_n C [(2, .ref (z + o5)), (0, .ref (z + 0)), (1, .int a1)] dX9_keep_22 rfl (by decide) rfl ?_
      refine x_aload_n C 0 dX9_keep_23 rfl rfl ?_
      obtain ⟨c6_1, c6_2, hc6, qc6_0, qc6_1⟩ := ty_im hTy0 po5
      refine gfX9_327 C dX9_keep_24 hc6 rfl ?_
      refine x_aload_n C 1 dX9_keep_27 rfl rfl ?_
      refine gfX9_19 C dX9_keep_28 hc2 rfl ?_
      obtain ⟨c7_0, c7_1, c7_2, c7_3, c7_4, c7_5, c7_6, c7_7, c7_8, c7_9, hc7⟩ := ty_ev hTy0 (ev_im po5)
      refine x_callVP C cl_X3_copyFrom kmX9_328 (ci := 2) (b := (o5 + 1)) (As := [.ref (z + 3)]) (rest := []) rfl hc7 (tc_X3_copyFrom uu0 hTy0.1 (o5 + 1) (ev_im po5) 3 (Or.inl rfl) (by omega)) rfl rfl (Nat.le_of_ble_eq_true rfl) ⟨Nat.le_of_ble_eq_true rfl, Nat.le_of_ble_eq_true rfl⟩ ⟨Nat.le_of_ble_eq_true rfl, Nat.le_of_ble_eq_true rfl⟩ dX9_keep_31 ?_
      rintro _ u8 ⟨ju8, rfl⟩
      have hTu8 := hTy0.tr ju8
      refine x_norm (st2 := []) rfl rfl rfl rfl rfl ?_
      refine x_aload_n C 0 dX9_keep_34 rfl rfl ?_
      refine x_aload_n C 1 dX9_keep_35 rfl rfl ?_
      obtain ⟨bc9, dc9, c9_10, c9_11, pc9, oc9, nc9, hc9⟩ := ty_0 hTu8
      have hbb_bc9 : bc9 = 112 ∨ bc9 = 119 := pc9
      have hbb_dc9 : dc9 = 112 ∨ dc9 = 119 := oc9
      refine gfX9_72 C dX9_keep_36 hc9 rfl ?_
      obtain ⟨c10_1, c10_2, hc10, qc10_0, qc10_1⟩ := ty_im hTu8 po5
      obtain ⟨u11, eu11⟩ : ∃ w : HpT, w = hup u8 o5 (.inr (3, [.ref (z + (o5 + 1)), .int c9_10, .int c10_2])) := ⟨_, rfl⟩
      refine pfX9_331 C dX9_keep_39 hc10 (Nat.le_of_ble_eq_true rfl) rfl eu11.symm ?_
      have hTu11 : TC G z ln uu0 u11 := by rw [eu11]; exact hTu8.upIm po5 (by omega)
      have hn13 := (congrFun eu11 o5).trans (hup_s _ _ _)
      refine x_aload_n C 0 dX9_keep_42 rfl rfl ?_
      refine x_iconst (v := (1 : Int32)) C dX9_keep_43 (by decide) ?_
      have l_1 : (1 : Int32).toInt = 1 := by decide
      obtain ⟨u14, eu14⟩ : ∃ w : HpT, w = hup u11 o5 (.inr (3, [.ref (z + (o5 + 1)), .int c9_10, .int (1 : Int32)])) := ⟨_, rfl⟩
      refine pfX9_113 C dX9_keep_44 (by decide) (by decide) hn13 (Nat.le_of_ble_eq_true rfl) rfl eu14.symm ?_
      have hTu14 : TC G z ln uu0 u14 := by rw [eu14]; exact hTu11.upIm po5 (by omega)
      have hn16 := (congrFun eu14 o5).trans (hup_s _ _ _)
      refine x_aload_n C 1 dX9_keep_47 rfl rfl ?_
      have k17 := (congrFun eu11 0).trans (hup_n' (by omega) hc9)
      have k18 := (congrFun eu14 0).trans (hup_n' (by omega) k17)
      refine gfX9_26 C dX9_keep_48 k18 rfl ?_
      obtain ⟨c19_1, c19_2, hc19, qc19_0, qc19_1, qc19_2, qc19_3⟩ := ty_6 hTu14
      refine x_callVP C cl_X6_forget kmX9_109 (ci := 5) (b := 6) (As := []) (rest := []) rfl hc19 (tc_X6_forget u14 hTu14.1) rfl rfl (Nat.le_of_ble_eq_true rfl) ⟨Nat.le_of_ble_eq_true rfl, Nat.le_of_ble_eq_true rfl⟩ ⟨Nat.le_of_ble_eq_true rfl, Nat.le_of_ble_eq_true rfl⟩ dX9_keep_51 ?_
      rintro _ u20 ⟨ju20, rfl⟩
      have hTu20 := hTu14.tr ju20
      refine x_norm (st2 := []) rfl rfl rfl rfl rfl ?_
      refine x_iconst (v := (1 : Int32)) C dX9_keep_54 (by decide) ?_
      exact x_iretP C hr hlk (Nat.le_refl _) (Nat.le_refl _) dX9_keep_55 ⟨hTu20, (1 : Int32), rfl, trivial⟩
    · have rq4 : a1.toInt ≥ (2 : Int32).toInt := by rw [Int32.lt_iff_toInt_lt] at q4; omega
      exact J13 uu0 hTy0 
set_option maxRecDepth 20000 in
set_option maxHeartbeats 2000000 in
theorem tc_X9_goBack {G : GT} {l : Launch} {z n : Nat} {ln : Int} (uu0 : HpT) (hTz0 : TyC G z ln uu0) (a1 : Int32) : Mp G l z yX9_goBack cX9_goBack 3 (some .int) { frames := 1, cells := 0, slots := 0, locals := 22 } [.ref (z + 0), .int a1] uu0 n (fun r v => TC G z ln uu0 v ∧ ∃ x : Int32, r = some (.int x) ∧ True) := by
  refine mp_of (by decide +kernel) (Nat.le_of_ble_eq_true rfl) ?_
  intro p e s m below meth c C hr hlk hnm
  have hTy0 : TC G z ln uu0 uu0 := TC.rf hTz0
  have J13 : ∀ (u_13 : HpT) (hT_13 : TC G z ln uu0 u_13), Xw p l e ({ frames := 1, cells := 0, slots := 0, locals := 22 } : Room) s m ([.ref (z + 0), .int a1] : List Value).toArray below meth c G z 3 (MQ below (Qp G z n (fun r v => TC G z ln uu0 v ∧ ∃ x : Int32, r = some (.int x) ∧ True)) ([.ref (z + 0), .int a1] : List Value).toArray s 0 0 (zA z)) 13 [(0, .ref (z + 0)), (1, .int a1)] [] u_13 n 0 0 := by
    intro u_13 hT_13
    refine x_ldc C kcX9_179 dX9_goBack_13 ?_
    have l_m1000000001 : (-1000000001 : Int32).toInt = -1000000001 := by decide
    exact x_iretP C hr hlk (Nat.le_refl _) (Nat.le_refl _) dX9_goBack_15 ⟨hT_13, (-1000000001 : Int32), rfl, trivial⟩
  refine x_iload_n C 1 dX9_goBack_0 rfl rfl ?_
  have l_0 : (0 : Int32).toInt = 0 := by decide
  refine x_if_lt C 13 dX9_goBack_1 (by decide) (fun q1 => ?_) (fun q1 => ?_)
  · have rq1 : a1.toInt < (0 : Int32).toInt := by rw [Int32.lt_iff_toInt_lt] at q1; omega
    exact J13 uu0 hTy0 
  · have rq1 : a1.toInt ≥ (0 : Int32).toInt := by rw [Int32.lt_iff_toInt_lt] at q1; omega
    refine x_iload_n C 1 dX9_goBack_4 rfl rfl ?_
    refine x_aload_n C 0 dX9_goBack_5 rfl rfl ?_
    obtain ⟨bc2, dc2, c2_10, c2_11, pc2, oc2, nc2, hc2⟩ := ty_0 hTy0
    have hbb_bc2 : bc2 = 112 ∨ bc2 = 119 := pc2
    have hbb_dc2 : dc2 = 112 ∨ dc2 = 119 := oc2
    refine gfX9_32 C dX9_goBack_6 hc2 rfl ?_
    obtain ⟨f3, hf3, qf3_0, qf3_1⟩ := ty_98 hTy0
    refine x_alen (v := (2 : Int32)) C 4 hf3 rfl rfl dX9_goBack_9 ?_
    have l_2 : (2 : Int32).toInt = 2 := by decide
    refine x_icmp_lt C 16 dX9_goBack_10 (by decide) (fun q4 => ?_) (fun q4 => ?_)
    · have rq4 : a1.toInt < (2 : Int32).toInt := by rw [Int32.lt_iff_toInt_lt] at q4; omega
      refine x_aload_n C 0 dX9_goBack_16 rfl rfl ?_
      refine gfX9_32 C dX9_goBack_17 hc2 rfl ?_
      refine x_iload_n C 1 dX9_goBack_20 rfl rfl ?_
      obtain ⟨o5, eo5, po5⟩ : ∃ o, f3 a1.toNatClampNeg = some (z + o) ∧ (o = 126 ∨ o = 130) := i_two qf3_0 qf3_1 (by omega) (by omega)
      refine x_aaldM C hf3 (i_in (by omega) (by omega)) eo5 dX9_goBack_21 ?_
      refine x_astore_n C [(2, .ref (z + o5)), (0, .ref (z + 0)), (1, .int a1)] dX9_goBack_22 rfl (by decide) rfl ?_
      refine x_aload_n C 0 dX9_goBack_23 rfl rfl ?_
      obtain ⟨c6_1, c6_2, hc6, qc6_0, qc6_1⟩ := ty_im hTy0 po5
      refine gfX9_113 C dX9_goBack_24 hc6 rfl ?_
      refine x_if_ne C 33 dX9_goBack_27 (by decide) (fun q7 => ?_) (fun q7 => ?_)
      · have rq7 : ¬ c6_2.toInt = (0 : Int32).toInt := by rw [i_eq_iff] at q7; omega
        refine x_aload_n C 1 dX9_goBack_33 rfl rfl ?_
        refine gfX9_19 C dX9_goBack_34 hc2 rfl ?_
        refine x_aload_n C 0 dX9_goBack_37 rfl rfl ?_
        refine gfX9_327 C dX9_goBack_38 hc6 rfl ?_
        obtain ⟨c8_0, c8_1, c8_2, c8_3, c8_4, c8_5, c8_6, c8_7, c8_8, c8_9, hc8⟩ := ty_ev hTy0 (Or.inl rfl)
        refine x_callVP C cl_X3_copyFrom kmX9_328 (ci := 2) (b := 3) (As := [.ref (z + (o5 + 1))]) (rest := []) rfl hc8 (tc_X3_copyFrom uu0 hTy0.1 3 (Or.inl rfl) (o5 + 1) (ev_im po5) (by omega)) rfl rfl (Nat.le_of_ble_eq_true rfl) ⟨Nat.le_of_ble_eq_true rfl, Nat.le_of_ble_eq_true rfl⟩ ⟨Nat.le_of_ble_eq_true rfl, Nat.le_of_ble_eq_true rfl⟩ dX9_goBack_41 ?_
        rintro _ u9 ⟨ju9, rfl⟩
        have hTu9 := hTy0.tr ju9
        refine x_norm (st2 := []) rfl rfl rfl rfl rfl ?_
        refine x_aload_n C 1 dX9_goBack_44 rfl rfl ?_
        refine x_aload_n C 0 dX9_goBack_45 rfl rfl ?_
        obtain ⟨c10_1, c10_2, hc10, qc10_0, qc10_1⟩ := ty_im hTu9 po5
        refine gfX9_331 C dX9_goBack_46 hc10 rfl ?_
        obtain ⟨bc11, dc11, c11_10, c11_11, pc11, oc11, nc11, hc11⟩ := ty_0 hTu9
        have hbb_bc11 : bc11 = 112 ∨ bc11 = 119 := pc11
        have hbb_dc11 : dc11 = 112 ∨ dc11 = 119 := oc11
        obtain ⟨u12, eu12⟩ : ∃ w : HpT, w = hup u9 0 (.inr (8, [.ref (z + 1), .ref (z + 3), .ref (z + 6), .ref (z + 98), .ref (z + 99), .ref (z + 101), .ref (z + 106), .ref (z + 109), .ref (z + bc11), .ref (z + dc11), .int c10_1, .int c11_11])) := ⟨_, rfl⟩
        refine pfX9_72 C dX9_goBack_49 hc11 (Nat.le_of_ble_eq_true rfl) rfl eu12.symm ?_
        have hTu12 : TC G z ln uu0 u12 := by rw [eu12]; exact hTu9.up_0 (by omega)
        have hn14 := (congrFun eu12 0).trans (hup_s _ _ _)
        refine x_aload_n C 1 dX9_goBack_52 rfl rfl ?_
        refine gfX9_26 C dX9_goBack_53 hn14 rfl ?_
        obtain ⟨c15_1, c15_2, hc15, qc15_0, qc15_1, qc15_2, qc15_3⟩ := ty_6 hTu12
        refine x_callVP C cl_X6_forget kmX9_109 (ci := 5) (b := 6) (As := []) (rest := []) rfl hc15 (tc_X6_forget u12 hTu12.1) rfl rfl (Nat.le_of_ble_eq_true rfl) ⟨Nat.le_of_ble_eq_true rfl, Nat.le_of_ble_eq_true rfl⟩ ⟨Nat.le_of_ble_eq_true rfl, Nat.le_of_ble_eq_true rfl⟩ dX9_goBack_56 ?_
        rintro _ u16 ⟨ju16, rfl⟩
        have hTu16 := hTu12.tr ju16
        refine x_norm (st2 := []) rfl rfl rfl rfl rfl ?_
        refine x_iconst (v := (1 : Int32)) C dX9_goBack_59 (by decide) ?_
        have l_1 : (1 : Int32).toInt = 1 := by decide
        exact x_iretP C hr hlk (Nat.le_refl _) (Nat.le_refl _) dX9_goBack_60 ⟨hTu16, (1 : Int32), rfl, trivial⟩
      · have rq7 : c6_2.toInt = (0 : Int32).toInt := by rw [i_eq_iff] at q7; omega
        refine x_ldc C kcX9_221 dX9_goBack_30 ?_
        have l_m1000000003 : (-1000000003 : Int32).toInt = -1000000003 := by decide
        exact x_iretP C hr hlk (Nat.le_refl _) (Nat.le_refl _) dX9_goBack_32 ⟨hTy0, (-1000000003 : Int32), rfl, trivial⟩
    · have rq4 : a1.toInt ≥ (2 : Int32).toInt := by rw [Int32.lt_iff_toInt_lt] at q4; omega
      exact J13 uu0 hTy0 
