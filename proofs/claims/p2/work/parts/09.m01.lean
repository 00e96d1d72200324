set_option maxRecDepth 20000 in
set_option maxHeartbeats 2000000 in
theorem tc_X10_bits {G : GT} {l : Launch} {z n : Nat} {g : Nat → Int} (uu0 : HpT) (hTz0 : TyN G z g uu0) (a0 : Int32) : Mp G l z yX10_bits cX10_bits 3 (some .int) { frames := 0, cells := 0, slots := 0, locals := 0 } [.int a0] uu0 n (fun r v => uu0 = v ∧ ∃ x : Int32, r = some (.int x) ∧ True) := by
  refine mp_of (by decide +kernel) (Nat.le_of_ble_eq_true rfl) ?_
  intro p e s m below meth c C hr hlk hnm
  have hTy0 : TN G z g uu0 uu0 := TN.rf hTz0
  have zl_a0 : -2147483648 ≤ a0.toInt := Int32.le_toInt a0
  have zh_a0 : a0.toInt ≤ 2147483647 := Int32.toInt_le a0
  have J4 : ∀ (d : Nat) (x2_4 : Int32) (x1_4 : Int32) (hd : d = ((x2_4.toBitVec.toNat : Int)).toNat), Xw p l e ({ frames := 0, cells := 0, slots := 0, locals := 0 } : Room) s m ([.int a0] : List Value).toArray below meth c G z 3 (MQ below (Qp G z n (fun r v => uu0 = v ∧ ∃ x : Int32, r = some (.int x) ∧ True)) ([.int a0] : List Value).toArray s 0 0 (zA z)) 4 [(2, .int x2_4), (1, .int x1_4), (0, .int a0)] [] uu0 n 0 0 := by
    intro d
    induction d using Nat.strongRecOn with
    | _ d ih4 =>
      intro  x2_4 x1_4 hd4
      refine x_iload_n C 0 dX10_bits_4 rfl rfl ?_
      have l_0 : (0 : Int32).toInt = 0 := by decide
      refine x_if_eq C 20 dX10_bits_5 (by decide) (fun q1 => ?_) (fun q1 => ?_)
      · have rq1 : x2_4.toInt = (0 : Int32).toInt := by rw [i_eq_iff] at q1; omega
        refine x_iload_n C 1 dX10_bits_20 rfl rfl ?_
        exact x_iretP C hr hlk (Nat.le_refl _) (Nat.le_refl _) dX10_bits_21 ⟨rfl, x1_4, rfl, trivial⟩
      · have rq1 : ¬ x2_4.toInt = (0 : Int32).toInt := by rw [i_eq_iff] at q1; omega
        have l_1 : (1 : Int32).toInt = 1 := by decide
        obtain ⟨w2, ew2⟩ : ∃ w : Int32, w = x1_4 + Int32.ofInt 1 := ⟨_, rfl⟩
        refine x_iinc (v := w2) C 1 [(1, .int w2), (2, .int x2_4), (0, .int a0)] dX10_bits_8 rfl ew2.symm (by decide) rfl ?_
        refine x_iload_n C 1 dX10_bits_11 rfl rfl ?_
        refine x_iload_n C 1 dX10_bits_12 rfl rfl ?_
        refine x_iconst (v := (1 : Int32)) C dX10_bits_13 (by decide) ?_
        refine x_isub C dX10_bits_14 ?_
        refine x_top (fun w3 ew3 => ?_)
        refine x_iand C dX10_bits_15 ?_
        refine x_top (fun w4 ew4 => ?_)
        have bl9 : w4.toBitVec.toNat < x2_4.toBitVec.toNat := by rw [ew4, ew3]; exact bits_lt (by omega)
        refine x_istore_n C [(2, .int w4), (1, .int w2), (0, .int a0)] dX10_bits_16 rfl (by decide) rfl ?_
        refine x_goto C 4 dX10_bits_17 (by decide) ?_
        exact ih4 ((w4.toBitVec.toNat : Int)).toNat (by omega)  w4 w2 rfl
  refine x_iconst (v := (0 : Int32)) C dX10_bits_0 (by decide) ?_
  refine x_istore_n C [(1, .int (0 : Int32)), (0, .int a0)] dX10_bits_1 rfl (by decide) rfl ?_
  refine x_iload_n C 1 dX10_bits_2 rfl rfl ?_
  refine x_istore_n C [(2, .int a0), (1, .int (0 : Int32)), (0, .int a0)] dX10_bits_3 rfl (by decide) rfl ?_
  have l_0 : (0 : Int32).toInt = 0 := by decide
  exact J4 ((a0.toBitVec.toNat : Int)).toNat  a0 (0 : Int32) rfl
set_option maxRecDepth 20000 in
set_option maxHeartbeats 2000000 in
theorem tc_X10_stayOf {G : GT} {l : Launch} {z n : Nat} {g : Nat → Int} (uu0 : HpT) (hTz0 : TyN G z g uu0) (a1 : Int32) (a2 : Int32) (pre0 : 0 ≤ a1.toInt) (pre1 : a1.toInt ≤ 5) (pre2 : 0 ≤ a2.toInt) (pre3 : a2.toInt ≤ 7) : Mp G l z yX10_stayOf cX10_stayOf 4 (some .int) { frames := 1, cells := 0, slots := 0, locals := 22 } [.ref (z + 134), .int a1, .int a2] uu0 n (fun r v => uu0 = v ∧ ∃ x : Int32, r = some (.int x) ∧ True) := by
  refine mp_of (by decide +kernel) (Nat.le_of_ble_eq_true rfl) ?_
  intro p e s m below meth c C hr hlk hnm
  have hTy0 : TN G z g uu0 uu0 := TN.rf hTz0
  refine x_aload_n C 0 dX10_stayOf_0 rfl rfl ?_
  obtain ⟨c1_0, c1_2, c1_3, c1_4, c1_5, c1_6, c1_7, c1_8, c1_9, c1_15, c1_16, c1_17, c1_18, c1_25, c1_26, c1_28, c1_30, c1_31, c1_32, c1_34, c1_37, hc1, qc1_0, qc1_1, qc1_2, qc1_3, qc1_4, qc1_5, qc1_6, qc1_7, qc1_8, qc1_9, qc1_10, qc1_11, qc1_12, qc1_13, qc1_14, qc1_15, qc1_16, qc1_17, qc1_18, qc1_19, qc1_20, qc1_21, qc1_22, qc1_23, qc1_24, qc1_25, qc1_26, qc1_27, qc1_28⟩ := tn_134 hTy0
  refine gfX10_44 C dX10_stayOf_1 hc1 rfl ?_
  refine x_iload_n C 1 dX10_stayOf_4 rfl rfl ?_
  obtain ⟨f2, hf2⟩ := tn_145 hTy0
  refine x_iald C hf2 (i_in (by omega) (by omega)) dX10_stayOf_5 ?_
  refine x_top (fun w3 ew3 => ?_)
  refine x_iload_n C 2 dX10_stayOf_6 rfl rfl ?_
  refine x_callSP C cl_X10_has kmX10_168 (As := [.int w3, .int a2]) (rest := []) (tc_X10_has uu0 hTy0.1 w3 a2) rfl rfl (Nat.le_of_ble_eq_true rfl) ⟨Nat.le_of_ble_eq_true rfl, Nat.le_of_ble_eq_true rfl⟩ ⟨Nat.le_of_ble_eq_true rfl, Nat.le_of_ble_eq_true rfl⟩ dX10_stayOf_7 ?_
  rintro _ _ ⟨rfl, r4, rfl, gr4⟩
  refine x_norm (st2 := [.int r4]) rfl rfl rfl rfl rfl ?_
  have l_0 : (0 : Int32).toInt = 0 := by decide
  refine x_if_ne C 15 dX10_stayOf_10 (by decide) (fun q6 => ?_) (fun q6 => ?_)
  · have rq6 : ¬ r4.toInt = (0 : Int32).toInt := by rw [i_eq_iff] at q6; omega
    refine x_aload_n C 0 dX10_stayOf_15 rfl rfl ?_
    refine gfX10_41 C dX10_stayOf_16 hc1 rfl ?_
    refine x_iload_n C 1 dX10_stayOf_19 rfl rfl ?_
    obtain ⟨f7, hf7⟩ := tn_144 hTy0
    refine x_iald C hf7 (i_in (by omega) (by omega)) dX10_stayOf_20 ?_
    refine x_top (fun w8 ew8 => ?_)
    refine x_istore_n C [(3, .int w8), (0, .ref (z + 134)), (1, .int a1), (2, .int a2)] dX10_stayOf_21 rfl (by decide) rfl ?_
    refine x_aload_n C 1 dX10_stayOf_22 rfl rfl ?_
    refine gfX10_38 C dX10_stayOf_23 hc1 rfl ?_
    refine x_iload_n C 2 dX10_stayOf_26 rfl rfl ?_
    obtain ⟨f9, hf9⟩ := tn_143 hTy0
    refine x_iald C hf9 (i_in (by omega) (by omega)) dX10_stayOf_27 ?_
    refine x_top (fun w10 ew10 => ?_)
    by_cases sw28 : w10.toInt < 0 ∨ 3 < w10.toInt
    · refine x_tableOut C 138 dX10_stayOf_28 sw28 (by decide) ?_
      refine x_iconst (v := (0 : Int32)) C dX10_stayOf_138 (by decide) ?_
      exact x_iretP C hr hlk (Nat.le_refl _) (Nat.le_refl _) dX10_stayOf_139 ⟨rfl, (0 : Int32), rfl, trivial⟩
    · rcases (by omega : w10.toInt = 0 ∨ w10.toInt = 1 ∨ w10.toInt = 2 ∨ w10.toInt = 3) with sx | sx | sx | sx
      · refine x_tableIn C 60 dX10_stayOf_28 (by omega) (by omega) (by rw [sx]; rfl) (by decide) ?_
        refine x_aload_n C 1 dX10_stayOf_60 rfl rfl ?_
        refine gfX10_32 C dX10_stayOf_61 hc1 rfl ?_
        refine x_iload_n C 3 dX10_stayOf_64 rfl rfl ?_
        obtain ⟨f11, hf11⟩ := tn_141 hTy0
        refine x_iald C hf11 (i_in (by omega) (by omega)) dX10_stayOf_65 ?_
        refine x_top (fun w12 ew12 => ?_)
        refine x_iload_n C 0 dX10_stayOf_66 rfl rfl ?_
        refine x_isub C dX10_stayOf_67 ?_
        refine x_top (fun w13 ew13 => ?_)
        refine x_iconst (v := (1 : Int32)) C dX10_stayOf_68 (by decide) ?_
        have l_1 : (1 : Int32).toInt = 1 := by decide
        refine x_icmp_le C 83 dX10_stayOf_69 (by decide) (fun q14 => ?_) (fun q14 => ?_)
        · have rq14 : w13.toInt ≤ (1 : Int32).toInt := by rw [Int32.le_iff_toInt_le] at q14; omega
          refine x_iconst (v := (1 : Int32)) C dX10_stayOf_83 (by decide) ?_
          exact x_iretP C hr hlk (Nat.le_refl _) (Nat.le_refl _) dX10_stayOf_84 ⟨rfl, (1 : Int32), rfl, trivial⟩
        · have rq14 : w13.toInt > (1 : Int32).toInt := by rw [Int32.le_iff_toInt_le] at q14; omega
          refine x_aload_n C 1 dX10_stayOf_72 rfl rfl ?_
          refine gfX10_32 C dX10_stayOf_73 hc1 rfl ?_
          refine x_iload_n C 3 dX10_stayOf_76 rfl rfl ?_
          refine x_iald C hf11 (i_in (by omega) (by omega)) dX10_stayOf_77 ?_
          refine x_top (fun w15 ew15 => ?_)
          refine x_iload_n C 0 dX10_stayOf_78 rfl rfl ?_
          refine x_isub C dX10_stayOf_79 ?_
          refine x_top (fun w16 ew16 => ?_)
          refine x_goto C 84 dX10_stayOf_80 (by decide) ?_
          exact x_iretP C hr hlk (Nat.le_refl _) (Nat.le_refl _) dX10_stayOf_84 ⟨rfl, w16, rfl, trivial⟩
      · refine x_tableIn C 85 dX10_stayOf_28 (by omega) (by omega) (by rw [sx]; rfl) (by decide) ?_
        refine x_aload_n C 1 dX10_stayOf_85 rfl rfl ?_
        refine gfX10_32 C dX10_stayOf_86 hc1 rfl ?_
        refine x_iload_n C 3 dX10_stayOf_89 rfl rfl ?_
        obtain ⟨f17, hf17⟩ := tn_141 hTy0
        refine x_iald C hf17 (i_in (by omega) (by omega)) dX10_stayOf_90 ?_
        refine x_top (fun w18 ew18 => ?_)
        exact x_iretP C hr hlk (Nat.le_refl _) (Nat.le_refl _) dX10_stayOf_91 ⟨rfl, w18, rfl, trivial⟩
      · refine x_tableIn C 92 dX10_stayOf_28 (by omega) (by omega) (by rw [sx]; rfl) (by decide) ?_
        refine x_aload_n C 1 dX10_stayOf_92 rfl rfl ?_
        refine gfX10_32 C dX10_stayOf_93 hc1 rfl ?_
        refine x_iload_n C 3 dX10_stayOf_96 rfl rfl ?_
        obtain ⟨f19, hf19⟩ := tn_141 hTy0
        refine x_iald C hf19 (i_in (by omega) (by omega)) dX10_stayOf_97 ?_
        refine x_top (fun w20 ew20 => ?_)
        refine x_iconst (v := (2 : Int32)) C dX10_stayOf_98 (by decide) ?_
        have l_2 : (2 : Int32).toInt = 2 := by decide
        refine x_idiv C dX10_stayOf_99 (by decide) ?_
        refine x_top (fun w21 ew21 => ?_)
        refine x_iload_n C 0 dX10_stayOf_100 rfl rfl ?_
        refine x_icmp_le C 117 dX10_stayOf_101 (by decide) (fun q22 => ?_) (fun q22 => ?_)
        · have rq22 : w21.toInt ≤ w8.toInt := by rw [Int32.le_iff_toInt_le] at q22; omega
          refine x_iconst (v := (0 : Int32)) C dX10_stayOf_117 (by decide) ?_
          exact x_iretP C hr hlk (Nat.le_refl _) (Nat.le_refl _) dX10_stayOf_118 ⟨rfl, (0 : Int32), rfl, trivial⟩
        · have rq22 : w21.toInt > w8.toInt := by rw [Int32.le_iff_toInt_le] at q22; omega
          refine x_aload_n C 1 dX10_stayOf_104 rfl rfl ?_
          refine gfX10_32 C dX10_stayOf_105 hc1 rfl ?_
          refine x_iload_n C 3 dX10_stayOf_108 rfl rfl ?_
          refine x_iald C hf19 (i_in (by omega) (by omega)) dX10_stayOf_109 ?_
          refine x_top (fun w23 ew23 => ?_)
          refine x_iconst (v := (2 : Int32)) C dX10_stayOf_110 (by decide) ?_
          refine x_idiv C dX10_stayOf_111 (by decide) ?_
          refine x_top (fun w24 ew24 => ?_)
          refine x_iload_n C 0 dX10_stayOf_112 rfl rfl ?_
          refine x_isub C dX10_stayOf_113 ?_
          refine x_top (fun w25 ew25 => ?_)
          refine x_goto C 118 dX10_stayOf_114 (by decide) ?_
          exact x_iretP C hr hlk (Nat.le_refl _) (Nat.le_refl _) dX10_stayOf_118 ⟨rfl, w25, rfl, trivial⟩
      · refine x_tableIn C 119 dX10_stayOf_28 (by omega) (by omega) (by rw [sx]; rfl) (by decide) ?_
        refine x_aload_n C 1 dX10_stayOf_119 rfl rfl ?_
        refine gfX10_32 C dX10_stayOf_120 hc1 rfl ?_
        refine x_iload_n C 3 dX10_stayOf_123 rfl rfl ?_
        obtain ⟨f26, hf26⟩ := tn_141 hTy0
        refine x_iald C hf26 (i_in (by omega) (by omega)) dX10_stayOf_124 ?_
        refine x_top (fun w27 ew27 => ?_)
        refine x_iconst (v := (5 : Int32)) C dX10_stayOf_125 (by decide) ?_
        refine x_aload_n C 1 dX10_stayOf_126 rfl rfl ?_
        refine gfX10_35 C dX10_stayOf_127 hc1 rfl ?_
        refine x_iload_n C 3 dX10_stayOf_130 rfl rfl ?_
        obtain ⟨f28, hf28⟩ := tn_142 hTy0
        refine x_iald C hf28 (i_in (by omega) (by omega)) dX10_stayOf_131 ?_
        refine x_top (fun w29 ew29 => ?_)
        refine x_callSP C cl_X10_bits kmX10_172 (As := [.int w29]) (rest := [.int (5 : Int32), .int w27]) (tc_X10_bits uu0 hTy0.1 w29) rfl rfl (Nat.le_of_ble_eq_true rfl) ⟨Nat.le_of_ble_eq_true rfl, Nat.le_of_ble_eq_true rfl⟩ ⟨Nat.le_of_ble_eq_true rfl, Nat.le_of_ble_eq_true rfl⟩ dX10_stayOf_132 ?_
        rintro _ _ ⟨rfl, r30, rfl, gr30⟩
        refine x_norm (st2 := [.int r30, .int (5 : Int32), .int w27]) rfl rfl rfl rfl rfl ?_
        refine x_imul C dX10_stayOf_135 ?_
        have l_5 : (5 : Int32).toInt = 5 := by decide
        refine x_top (fun w32 ew32 => ?_)
        refine x_iadd C dX10_stayOf_136 ?_
        refine x_top (fun w33 ew33 => ?_)
        exact x_iretP C hr hlk (Nat.le_refl _) (Nat.le_refl _) dX10_stayOf_137 ⟨rfl, w33, rfl, trivial⟩
  · have rq6 : r4.toInt = (0 : Int32).toInt := by rw [i_eq_iff] at q6; omega
    refine x_iconst (v := (0 : Int32)) C dX10_stayOf_13 (by decide) ?_
    exact x_iretP C hr hlk (Nat.le_refl _) (Nat.le_refl _) dX10_stayOf_14 ⟨rfl, (0 : Int32), rfl, trivial⟩
set_option maxRecDepth 20000 in
set_option maxHeartbeats 2000000 in
theorem tc_X10_favourite {G : GT} {l : Launch} {z n : Nat} {g : Nat → Int} (uu0 : HpT) (hTz0 : TyN G z g uu0) (a1 : Int32) (pre0 : 0 ≤ a1.toInt) (pre1 : a1.toInt ≤ 5) : Mp G l z yX10_favourite cX10_favourite 5 (some .int) { frames := 2, cells := 0, slots := 0, locals := 45 } [.ref (z + 134), .int a1] uu0 n (fun r v => uu0 = v ∧ ∃ x : Int32, r = some (.int x) ∧ True) := by
  refine mp_of (by decide +kernel) (Nat.le_of_ble_eq_true rfl) ?_
  intro p e s m below meth c C hr hlk hnm
  have hTy0 : TN G z g uu0 uu0 := TN.rf hTz0
  have J7 : ∀ (d : Nat) (x4_7 : Int32) (hl_x4_7 : 0 ≤ x4_7.toInt) (hh_x4_7 : x4_7.toInt ≤ 8) (x3_7 : Int32) (x2_7 : Int32) (hl_x2_7 : -1 ≤ x2_7.toInt) (hh_x2_7 : x2_7.toInt ≤ 7) (hd : d = (9 - x4_7.toInt).toNat), Xw p l e ({ frames := 2, cells := 0, slots := 0, locals := 45 } : Room) s m ([.ref (z + 134), .int a1] : List Value).toArray below meth c G z 5 (MQ below (Qp G z n (fun r v => uu0 = v ∧ ∃ x : Int32, r = some (.int x) ∧ True)) ([.ref (z + 134), .int a1] : List Value).toArray s 0 0 (zA z)) 7 [(4, .int x4_7), (3, .int x3_7), (2, .int x2_7), (0, .ref (z + 134)), (1, .int a1)] [] uu0 n 0 0 := by
    intro d
    induction d using Nat.strongRecOn with
    | _ d ih7 =>
      intro  x4_7 hl_x4_7 hh_x4_7 x3_7 x2_7 hl_x2_7 hh_x2_7 hd7
      have J56 : ∀ (x2_56 : Int32) (hl_x2_56 : -1 ≤ x2_56.toInt) (hh_x2_56 : x2_56.toInt ≤ 7) (y0_56 : Int32) (nl_x4_7_56 : 0 ≤ x4_7.toInt) (nh_x4_7_56 : x4_7.toInt ≤ 7), Xw p l e ({ frames := 2, cells := 0, slots := 0, locals := 45 } : Room) s m ([.ref (z + 134), .int a1] : List Value).toArray below meth c G z 5 (MQ below (Qp G z n (fun r v => uu0 = v ∧ ∃ x : Int32, r = some (.int x) ∧ True)) ([.ref (z + 134), .int a1] : List Value).toArray s 0 0 (zA z)) 56 [(2, .int x2_56), (4, .int x4_7), (3, .int x3_7), (0, .ref (z + 134)), (1, .int a1)] [.int y0_56] uu0 n 0 0 := by
        intro  x2_56 hl_x2_56 hh_x2_56 y0_56 nl_x4_7_56 nh_x4_7_56
        refine x_istore_n C [(3, .int y0_56), (2, .int x2_56), (4, .int x4_7), (0, .ref (z + 134)), (1, .int a1)] dX10_favourite_56 rfl (by decide) rfl ?_
        have l_1 : (1 : Int32).toInt = 1 := by decide
        obtain ⟨w1, ew1⟩ : ∃ w : Int32, w = x4_7 + Int32.ofInt 1 := ⟨_, rfl⟩
        have fw1 : w1.toInt = x4_7.toInt + (1) := by rw [ew1]; exact i_addk (by decide) (by omega) (by omega)
        refine x_iinc (v := w1) C 2 [(4, .int w1), (3, .int y0_56), (2, .int x2_56), (0, .ref (z + 134)), (1, .int a1)] dX10_favourite_57 rfl ew1.symm (by decide) rfl ?_
        refine x_goto C 7 dX10_favourite_60 (by decide) ?_
        exact ih7 (9 - w1.toInt).toNat (by omega)  w1 (by omega) (by omega) y0_56 x2_56 (by omega) (by omega) rfl
      have J33 : ∀ (y0_33 : Int32) (hl_y0_33 : -1 ≤ y0_33.toInt) (hh_y0_33 : y0_33.toInt ≤ 7) (nl_x4_7_33 : 0 ≤ x4_7.toInt) (nh_x4_7_33 : x4_7.toInt ≤ 7), Xw p l e ({ frames := 2, cells := 0, slots := 0, locals := 45 } : Room) s m ([.ref (z + 134), .int a1] : List Value).toArray below meth c G z 5 (MQ below (Qp G z n (fun r v => uu0 = v ∧ ∃ x : Int32, r = some (.int x) ∧ True)) ([.ref (z + 134), .int a1] : List Value).toArray s 0 0 (zA z)) 33 [(4, .int x4_7), (3, .int x3_7), (2, .int x2_7), (0, .ref (z + 134)), (1, .int a1)] [.int y0_33] uu0 n 0 0 := by
        intro  y0_33 hl_y0_33 hh_y0_33 nl_x4_7_33 nh_x4_7_33
        refine x_istore_n C [(2, .int y0_33), (4, .int x4_7), (3, .int x3_7), (0, .ref (z + 134)), (1, .int a1)] dX10_favourite_33 rfl (by decide) rfl ?_
        refine x_aload_n C 3 dX10_favourite_34 rfl rfl ?_
        refine x_iload_n C 4 dX10_favourite_35 rfl rfl ?_
        refine x_iload C 1 dX10_favourite_36 rfl ?_
        obtain ⟨c3_0, c3_2, c3_3, c3_4, c3_5, c3_6, c3_7, c3_8, c3_9, c3_15, c3_16, c3_17, c3_18, c3_25, c3_26, c3_28, c3_30, c3_31, c3_32, c3_34, c3_37, hc3, qc3_0, qc3_1, qc3_2, qc3_3, qc3_4, qc3_5, qc3_6, qc3_7, qc3_8, qc3_9, qc3_10, qc3_11, qc3_12, qc3_13, qc3_14, qc3_15, qc3_16, qc3_17, qc3_18, qc3_19, qc3_20, qc3_21, qc3_22, qc3_23, qc3_24, qc3_25, qc3_26, qc3_27, qc3_28⟩ := tn_134 hTy0
        refine x_callVP C cl_X10_stayOf kmX10_200 (ci := 9) (b := 134) (As := [.int a1, .int x4_7]) (rest := []) rfl hc3 (tc_X10_stayOf uu0 hTy0.1 a1 x4_7 (by omega) (by omega) (by omega) (by omega)) rfl rfl (Nat.le_of_ble_eq_true rfl) ⟨Nat.le_of_ble_eq_true rfl, Nat.le_of_ble_eq_true rfl⟩ ⟨Nat.le_of_ble_eq_true rfl, Nat.le_of_ble_eq_true rfl⟩ dX10_favourite_38 ?_
        rintro _ _ ⟨rfl, r2, rfl, gr2⟩
        refine x_norm (st2 := [.int r2]) rfl rfl rfl rfl rfl ?_
        refine x_iload_n C 2 dX10_favourite_41 rfl rfl ?_
        refine x_icmp_le C 55 dX10_favourite_42 (by decide) (fun q5 => ?_) (fun q5 => ?_)
        · have rq5 : r2.toInt ≤ x3_7.toInt := by rw [Int32.le_iff_toInt_le] at q5; omega
          refine x_iload_n C 2 dX10_favourite_55 rfl rfl ?_
          exact J56  y0_33 (by omega) (by omega) x3_7 (by omega) (by omega)
        · have rq5 : r2.toInt > x3_7.toInt := by rw [Int32.le_iff_toInt_le] at q5; omega
          refine x_aload_n C 3 dX10_favourite_45 rfl rfl ?_
          refine x_iload_n C 4 dX10_favourite_46 rfl rfl ?_
          refine x_iload C 1 dX10_favourite_47 rfl ?_
          refine x_callVP C cl_X10_stayOf kmX10_200 (ci := 9) (b := 134) (As := [.int a1, .int x4_7]) (rest := []) rfl hc3 (tc_X10_stayOf uu0 hTy0.1 a1 x4_7 (by omega) (by omega) (by omega) (by omega)) rfl rfl (Nat.le_of_ble_eq_true rfl) ⟨Nat.le_of_ble_eq_true rfl, Nat.le_of_ble_eq_true rfl⟩ ⟨Nat.le_of_ble_eq_true rfl, Nat.le_of_ble_eq_true rfl⟩ dX10_favourite_49 ?_
          rintro _ _ ⟨rfl, r6, rfl, gr6⟩
          refine x_norm (st2 := [.int r6]) rfl rfl rfl rfl rfl ?_
          refine x_goto C 56 dX10_favourite_52 (by decide) ?_
          exact J56  y0_33 (by omega) (by omega) r6 (by omega) (by omega)
      refine x_iload C 0 dX10_favourite_7 rfl ?_
      refine x_aload_n C 3 dX10_favourite_9 rfl rfl ?_
      obtain ⟨c8_0, c8_2, c8_3, c8_4, c8_5, c8_6, c8_7, c8_8, c8_9, c8_15, c8_16, c8_17, c8_18, c8_25, c8_26, c8_28, c8_30, c8_31, c8_32, c8_34, c8_37, hc8, qc8_0, qc8_1, qc8_2, qc8_3, qc8_4, qc8_5, qc8_6, qc8_7, qc8_8, qc8_9, qc8_10, qc8_11, qc8_12, qc8_13, qc8_14, qc8_15, qc8_16, qc8_17, qc8_18, qc8_19, qc8_20, qc8_21, qc8_22, qc8_23, qc8_24, qc8_25, qc8_26, qc8_27, qc8_28⟩ := tn_134 hTy0
      refine gfX10_153 C dX10_favourite_10 hc8 rfl ?_
      refine x_icmp_ge C 63 dX10_favourite_13 (by decide) (fun q9 => ?_) (fun q9 => ?_)
      · have rq9 : x4_7.toInt ≥ c8_17.toInt := by rw [Int32.le_iff_toInt_le] at q9; omega
        refine x_iload_n C 2 dX10_favourite_63 rfl rfl ?_
        exact x_iretP C hr hlk (Nat.le_refl _) (Nat.le_refl _) dX10_favourite_64 ⟨rfl, x2_7, rfl, trivial⟩
      · have rq9 : x4_7.toInt < c8_17.toInt := by rw [Int32.le_iff_toInt_le] at q9; omega
        refine x_aload_n C 3 dX10_favourite_16 rfl rfl ?_
        refine x_iload_n C 4 dX10_favourite_17 rfl rfl ?_
        refine x_iload C 0 dX10_favourite_18 rfl ?_
        refine x_callVP C cl_X10_stayOf kmX10_200 (ci := 9) (b := 134) (As := [.int a1, .int x4_7]) (rest := []) rfl hc8 (tc_X10_stayOf uu0 hTy0.1 a1 x4_7 (by omega) (by omega) (by omega) (by omega)) rfl rfl (Nat.le_of_ble_eq_true rfl) ⟨Nat.le_of_ble_eq_true rfl, Nat.le_of_ble_eq_true rfl⟩ ⟨Nat.le_of_ble_eq_true rfl, Nat.le_of_ble_eq_true rfl⟩ dX10_favourite_20 ?_
        rintro _ _ ⟨rfl, r10, rfl, gr10⟩
        refine x_norm (st2 := [.int r10]) rfl rfl rfl rfl rfl ?_
        refine x_iload_n C 1 dX10_favourite_23 rfl rfl ?_
        refine x_icmp_le C 32 dX10_favourite_24 (by decide) (fun q12 => ?_) (fun q12 => ?_)
        · have rq12 : r10.toInt ≤ x3_7.toInt := by rw [Int32.le_iff_toInt_le] at q12; omega
          refine x_iload_n C 2 dX10_favourite_32 rfl rfl ?_
          exact J33  x2_7 (by omega) (by omega) (by omega) (by omega)
        · have rq12 : r10.toInt > x3_7.toInt := by rw [Int32.le_iff_toInt_le] at q12; omega
          refine x_iload C 0 dX10_favourite_27 rfl ?_
          refine x_goto C 33 dX10_favourite_29 (by decide) ?_
          exact J33  x4_7 (by omega) (by omega) (by omega) (by omega)
  refine x_iconst (v := (-1 : Int32)) C dX10_favourite_0 (by decide) ?_
  refine x_istore_n C [(2, .int (-1 : Int32)), (0, .ref (z + 134)), (1, .int a1)] dX10_favourite_1 rfl (by decide) rfl ?_
  refine x_iconst (v := (0 : Int32)) C dX10_favourite_2 (by decide) ?_
  refine x_istore_n C [(3, .int (0 : Int32)), (2, .int (-1 : Int32)), (0, .ref (z + 134)), (1, .int a1)] dX10_favourite_3 rfl (by decide) rfl ?_
  refine x_iconst (v := (0 : Int32)) C dX10_favourite_4 (by decide) ?_
  refine x_istore C [(4, .int (0 : Int32)), (3, .int (0 : Int32)), (2, .int (-1 : Int32)), (0, .ref (z + 134)), (1, .int a1)] dX10_favourite_5 (by decide) rfl ?_
  have l_0 : (0 : Int32).toInt = 0 := by decide
  have l_m1 : (-1 : Int32).toInt = -1 := by decide
  exact J7 (9 - (0 : Int32).toInt).toNat  (0 : Int32) (by omega) (by omega) (0 : Int32) (-1 : Int32) (by omega) (by omega) rfl
set_option maxRecDepth 20000 in
set_option maxHeartbeats 2000000 in
theorem tc_X10_traveller {G : GT} {l : Launch} {z n : Nat} {g : Nat → Int} (uu0 : HpT) (hTz0 : TyN G z g uu0) (a1 : Int32) (a2 : Int32) : Mp G l z yX10_traveller cX10_traveller 3 (some .int) { frames := 3, cells := 0, slots := 0, locals := 69 } [.ref (z + 134), .int a1, .int a2] uu0 n (fun r v => uu0 = v ∧ ∃ x : Int32, r = some (.int x) ∧ True) := by
  refine mp_of (by decide +kernel) (Nat.le_of_ble_eq_true rfl) ?_
  intro p e s m below meth c C hr hlk hnm
  have hTy0 : TN G z g uu0 uu0 := TN.rf hTz0
  refine x_aload_n C 0 dX10_traveller_0 rfl rfl ?_
  refine x_iload_n C 1 dX10_traveller_1 rfl rfl ?_
  obtain ⟨c2_0, c2_2, c2_3, c2_4, c2_5, c2_6, c2_7, c2_8, c2_9, c2_15, c2_16, c2_17, c2_18, c2_25, c2_26, c2_28, c2_30, c2_31, c2_32, c2_34, c2_37, hc2, qc2_0, qc2_1, qc2_2, qc2_3, qc2_4, qc2_5, qc2_6, qc2_7, qc2_8, qc2_9, qc2_10, qc2_11, qc2_12, qc2_13, qc2_14, qc2_15, qc2_16, qc2_17, qc2_18, qc2_19, qc2_20, qc2_21, qc2_22, qc2_23, qc2_24, qc2_25, qc2_26, qc2_27, qc2_28⟩ := tn_134 hTy0
  refine x_callVP C cl_X10_isTraveller kmX10_203 (ci := 9) (b := 134) (As := [.int a1]) (rest := []) rfl hc2 (tc_X10_isTraveller uu0 hTy0.1 a1) rfl rfl (Nat.le_of_ble_eq_true rfl) ⟨Nat.le_of_ble_eq_true rfl, Nat.le_of_ble_eq_true rfl⟩ ⟨Nat.le_of_ble_eq_true rfl, Nat.le_of_ble_eq_true rfl⟩ dX10_traveller_2 ?_
  rintro _ _ ⟨rfl, r1, rfl, gr1⟩
  refine x_norm (st2 := [.int r1]) rfl rfl rfl rfl rfl ?_
  have l_0 : (0 : Int32).toInt = 0 := by decide
  refine x_if_ne C 11 dX10_traveller_5 (by decide) (fun q4 => ?_) (fun q4 => ?_)
  · have rq4 : ¬ r1.toInt = (0 : Int32).toInt := by rw [i_eq_iff] at q4; omega
    refine x_iload_n C 2 dX10_traveller_11 rfl rfl ?_
    by_cases sw12 : a2.toInt < 0 ∨ 6 < a2.toInt
    · refine x_tableOut C 135 dX10_traveller_12 sw12 (by decide) ?_
      refine x_ldc C kcX10_86 dX10_traveller_135 ?_
      have l_m1000000002 : (-1000000002 : Int32).toInt = -1000000002 := by decide
      exact x_iretP C hr hlk (Nat.le_refl _) (Nat.le_refl _) dX10_traveller_137 ⟨rfl, (-1000000002 : Int32), rfl, trivial⟩
    · rcases (by omega : a2.toInt = 0 ∨ a2.toInt = 1 ∨ a2.toInt = 2 ∨ a2.toInt = 3 ∨ a2.toInt = 4 ∨ a2.toInt = 5 ∨ a2.toInt = 6) with sx | sx | sx | sx | sx | sx | sx
      · refine x_tableIn C 56 dX10_traveller_12 (by omega) (by omega) (by rw [sx]; rfl) (by decide) ?_
        refine x_aload_n C 0 dX10_traveller_56 rfl rfl ?_
        refine gfX10_38 C dX10_traveller_57 hc2 rfl ?_
        refine x_iload_n C 1 dX10_traveller_60 rfl rfl ?_
        obtain ⟨f5, hf5⟩ := tn_143 hTy0
        refine x_iald C hf5 (i_in (by omega) (by omega)) dX10_traveller_61 ?_
        refine x_top (fun w6 ew6 => ?_)
        exact x_iretP C hr hlk (Nat.le_refl _) (Nat.le_refl _) dX10_traveller_62 ⟨rfl, w6, rfl, trivial⟩
      · refine x_tableIn C 63 dX10_traveller_12 (by omega) (by omega) (by rw [sx]; rfl) (by decide) ?_
        refine x_aload_n C 0 dX10_traveller_63 rfl rfl ?_
        refine gfX10_41 C dX10_traveller_64 hc2 rfl ?_
        refine x_iload_n C 1 dX10_traveller_67 rfl rfl ?_
        obtain ⟨f7, hf7⟩ := tn_144 hTy0
        refine x_iald C hf7 (i_in (by omega) (by omega)) dX10_traveller_68 ?_
        refine x_top (fun w8 ew8 => ?_)
        exact x_iretP C hr hlk (Nat.le_refl _) (Nat.le_refl _) dX10_traveller_69 ⟨rfl, w8, rfl, trivial⟩
      · refine x_tableIn C 70 dX10_traveller_12 (by omega) (by omega) (by rw [sx]; rfl) (by decide) ?_
        refine x_aload_n C 0 dX10_traveller_70 rfl rfl ?_
        refine gfX10_44 C dX10_traveller_71 hc2 rfl ?_
        refine x_iload_n C 1 dX10_traveller_74 rfl rfl ?_
        obtain ⟨f9, hf9⟩ := tn_145 hTy0
        refine x_iald C hf9 (i_in (by omega) (by omega)) dX10_traveller_75 ?_
        refine x_top (fun w10 ew10 => ?_)
        exact x_iretP C hr hlk (Nat.le_refl _) (Nat.le_refl _) dX10_traveller_76 ⟨rfl, w10, rfl, trivial⟩
      · refine x_tableIn C 77 dX10_traveller_12 (by omega) (by omega) (by rw [sx]; rfl) (by decide) ?_
        refine x_aload_n C 0 dX10_traveller_77 rfl rfl ?_
        refine gfX10_47 C dX10_traveller_78 hc2 rfl ?_
        refine x_bipush (v := (13 : Int32)) C dX10_traveller_81 (by decide) ?_
        refine x_iload_n C 1 dX10_traveller_83 rfl rfl ?_
        refine x_iadd C dX10_traveller_84 ?_
        have l_13 : (13 : Int32).toInt = 13 := by decide
        refine x_top (fun w11 ew11 => ?_)
        have fw11_0 : w11.toInt = (13 : Int32).toInt + a1.toInt := by rw [ew11]; exact i_add (by omega) (by omega)
        obtain ⟨f12, hf12, qf12_0⟩ := tn_146 hTy0
        refine x_iald C hf12 (i_in (by omega) (by omega)) dX10_traveller_85 ?_
        refine x_top (fun w13 ew13 => ?_)
        have fw13_0 : (w11.toInt = 4 → -1 ≤ w13.toInt ∧ w13.toInt ≤ 6 * g 0 - 1) ∧ (w11.toInt = 6 → -1 ≤ w13.toInt ∧ w13.toInt ≤ 7) := by rw [ew13]; exact ap_get (P := fun (i x : Int) => (i = 4 → -1 ≤ x ∧ x ≤ 6 * g 0 - 1) ∧ (i = 6 → -1 ≤ x ∧ x ≤ 7)) qf12_0 (by omega) (by omega)
        exact x_iretP C hr hlk (Nat.le_refl _) (Nat.le_refl _) dX10_traveller_86 ⟨rfl, w13, rfl, trivial⟩
      · refine x_tableIn C 87 dX10_traveller_12 (by omega) (by omega) (by rw [sx]; rfl) (by decide) ?_
        refine x_aload_n C 0 dX10_traveller_87 rfl rfl ?_
        refine gfX10_47 C dX10_traveller_88 hc2 rfl ?_
        refine x_bipush (v := (19 : Int32)) C dX10_traveller_91 (by decide) ?_
        refine x_iload_n C 1 dX10_traveller_93 rfl rfl ?_
        refine x_iadd C dX10_traveller_94 ?_
        have l_19 : (19 : Int32).toInt = 19 := by decide
        refine x_top (fun w14 ew14 => ?_)
        have fw14_0 : w14.toInt = (19 : Int32).toInt + a1.toInt := by rw [ew14]; exact i_add (by omega) (by omega)
        obtain ⟨f15, hf15, qf15_0⟩ := tn_146 hTy0
        refine x_iald C hf15 (i_in (by omega) (by omega)) dX10_traveller_95 ?_
        refine x_top (fun w16 ew16 => ?_)
        have fw16_0 : (w14.toInt = 4 → -1 ≤ w16.toInt ∧ w16.toInt ≤ 6 * g 0 - 1) ∧ (w14.toInt = 6 → -1 ≤ w16.toInt ∧ w16.toInt ≤ 7) := by rw [ew16]; exact ap_get (P := fun (i x : Int) => (i = 4 → -1 ≤ x ∧ x ≤ 6 * g 0 - 1) ∧ (i = 6 → -1 ≤ x ∧ x ≤ 7)) qf15_0 (by omega) (by omega)
        exact x_iretP C hr hlk (Nat.le_refl _) (Nat.le_refl _) dX10_traveller_96 ⟨rfl, w16, rfl, trivial⟩
      · refine x_tableIn C 97 dX10_traveller_12 (by omega) (by omega) (by rw [sx]; rfl) (by decide) ?_
        refine x_aload_n C 0 dX10_traveller_97 rfl rfl ?_
        refine gfX10_47 C dX10_traveller_98 hc2 rfl ?_
        refine x_bipush (v := (7 : Int32)) C dX10_traveller_101 (by decide) ?_
        refine x_iload_n C 1 dX10_traveller_103 rfl rfl ?_
        refine x_iadd C dX10_traveller_104 ?_
        have l_7 : (7 : Int32).toInt = 7 := by decide
        refine x_top (fun w17 ew17 => ?_)
        have fw17_0 : w17.toInt = (7 : Int32).toInt + a1.toInt := by rw [ew17]; exact i_add (by omega) (by omega)
        obtain ⟨f18, hf18, qf18_0⟩ := tn_146 hTy0
        refine x_iald C hf18 (i_in (by omega) (by omega)) dX10_traveller_105 ?_
        refine x_top (fun w19 ew19 => ?_)
        have fw19_0 : (w17.toInt = 4 → -1 ≤ w19.toInt ∧ w19.toInt ≤ 6 * g 0 - 1) ∧ (w17.toInt = 6 → -1 ≤ w19.toInt ∧ w19.toInt ≤ 7) := by rw [ew19]; exact ap_get (P := fun (i x : Int) => (i = 4 → -1 ≤ x ∧ x ≤ 6 * g 0 - 1) ∧ (i = 6 → -1 ≤ x ∧ x ≤ 7)) qf18_0 (by omega) (by omega)
        refine x_if_ne C 127 dX10_traveller_106 (by decide) (fun q20 => ?_) (fun q20 => ?_)
        · have rq20 : ¬ w19.toInt = (0 : Int32).toInt := by rw [i_eq_iff] at q20; omega
          refine x_iconst (v := (0 : Int32)) C dX10_traveller_127 (by decide) ?_
          exact x_iretP C hr hlk (Nat.le_refl _) (Nat.le_refl _) dX10_traveller_128 ⟨rfl, (0 : Int32), rfl, trivial⟩
        · have rq20 : w19.toInt = (0 : Int32).toInt := by rw [i_eq_iff] at q20; omega
          refine x_aload_n C 0 dX10_traveller_109 rfl rfl ?_
          refine x_iload_n C 1 dX10_traveller_110 rfl rfl ?_
          refine x_callVP C cl_X10_limit kmX10_206 (ci := 9) (b := 134) (As := [.int a1]) (rest := []) rfl hc2 (tc_X10_limit uu0 hTy0.1 a1 (by omega) (by omega)) rfl rfl (Nat.le_of_ble_eq_true rfl) ⟨Nat.le_of_ble_eq_true rfl, Nat.le_of_ble_eq_true rfl⟩ ⟨Nat.le_of_ble_eq_true rfl, Nat.le_of_ble_eq_true rfl⟩ dX10_traveller_111 ?_
          rintro _ _ ⟨rfl, r21, rfl, gr21⟩
          refine x_norm (st2 := [.int r21]) rfl rfl rfl rfl rfl ?_
          refine x_aload_n C 0 dX10_traveller_114 rfl rfl ?_
          refine gfX10_47 C dX10_traveller_115 hc2 rfl ?_
          refine x_bipush (v := (19 : Int32)) C dX10_traveller_118 (by decide) ?_
          refine x_iload_n C 1 dX10_traveller_120 rfl rfl ?_
          refine x_iadd C dX10_traveller_121 ?_
          have l_19 : (19 : Int32).toInt = 19 := by decide
          refine x_top (fun w23 ew23 => ?_)
          have fw23_0 : w23.toInt = (19 : Int32).toInt + a1.toInt := by rw [ew23]; exact i_add (by omega) (by omega)
          refine x_iald C hf18 (i_in (by omega) (by omega)) dX10_traveller_122 ?_
          refine x_top (fun w24 ew24 => ?_)
          have fw24_0 : (w23.toInt = 4 → -1 ≤ w24.toInt ∧ w24.toInt ≤ 6 * g 0 - 1) ∧ (w23.toInt = 6 → -1 ≤ w24.toInt ∧ w24.toInt ≤ 7) := by rw [ew24]; exact ap_get (P := fun (i x : Int) => (i = 4 → -1 ≤ x ∧ x ≤ 6 * g 0 - 1) ∧ (i = 6 → -1 ≤ x ∧ x ≤ 7)) qf18_0 (by omega) (by omega)
          refine x_isub C dX10_traveller_123 ?_
          refine x_top (fun w25 ew25 => ?_)
          refine x_goto C 128 dX10_traveller_124 (by decide) ?_
          exact x_iretP C hr hlk (Nat.le_refl _) (Nat.le_refl _) dX10_traveller_128 ⟨rfl, w25, rfl, trivial⟩
      · refine x_tableIn C 129 dX10_traveller_12 (by omega) (by omega) (by rw [sx]; rfl) (by decide) ?_
        refine x_aload_n C 0 dX10_traveller_129 rfl rfl ?_
        refine x_iload_n C 1 dX10_traveller_130 rfl rfl ?_
        refine x_callVP C cl_X10_favourite kmX10_209 (ci := 9) (b := 134) (As := [.int a1]) (rest := []) rfl hc2 (tc_X10_favourite uu0 hTy0.1 a1 (by omega) (by omega)) rfl rfl (Nat.le_of_ble_eq_true rfl) ⟨Nat.le_of_ble_eq_true rfl, Nat.le_of_ble_eq_true rfl⟩ ⟨Nat.le_of_ble_eq_true rfl, Nat.le_of_ble_eq_true rfl⟩ dX10_traveller_131 ?_
        rintro _ _ ⟨rfl, r26, rfl, gr26⟩
        refine x_norm (st2 := [.int r26]) rfl rfl rfl rfl rfl ?_
        exact x_iretP C hr hlk (Nat.le_refl _) (Nat.le_refl _) dX10_traveller_134 ⟨rfl, r26, rfl, trivial⟩
  · have rq4 : r1.toInt = (0 : Int32).toInt := by rw [i_eq_iff] at q4; omega
    refine x_ldc C kcX10_193 dX10_traveller_8 ?_
    have l_m1000000001 : (-1000000001 : Int32).toInt = -1000000001 := by decide
    exact x_iretP C hr hlk (Nat.le_refl _) (Nat.le_refl _) dX10_traveller_10 ⟨rfl, (-1000000001 : Int32), rfl, trivial⟩
set_option maxRecDepth 20000 in
set_option maxHeartbeats 2000000 in
theorem tc_X10_payFor {G : GT} {l : Launch} {z n : Nat} {g : Nat → Int} (uu0 : HpT) (hTz0 : TyN G z g uu0) (a1 : Int32) (pre0 : g 0 = 1) : Mp G l z yX10_payFor cX10_payFor 2 (some .int) { frames := 0, cells := 0, slots := 0, locals := 0 } [.ref (z + 134), .int a1] uu0 n (fun r v => uu0 = v ∧ ∃ x : Int32, r = some (.int x) ∧ True) := by
  refine mp_of (by decide +kernel) (Nat.le_of_ble_eq_true rfl) ?_
  intro p e s m below meth c C hr hlk hnm
  have hTy0 : TN G z g uu0 uu0 := TN.rf hTz0
  refine x_iload_n C 1 dX10_payFor_0 rfl rfl ?_
  refine x_aload_n C 0 dX10_payFor_1 rfl rfl ?_
  obtain ⟨c1_0, c1_2, c1_3, c1_4, c1_5, c1_6, c1_7, c1_8, c1_9, c1_15, c1_16, c1_17, c1_18, c1_25, c1_26, c1_28, c1_30, c1_31, c1_32, c1_34, c1_37, hc1, qc1_0, qc1_1, qc1_2, qc1_3, qc1_4, qc1_5, qc1_6, qc1_7, qc1_8, qc1_9, qc1_10, qc1_11, qc1_12, qc1_13, qc1_14, qc1_15, qc1_16, qc1_17, qc1_18, qc1_19, qc1_20, qc1_21, qc1_22, qc1_23, qc1_24, qc1_25, qc1_26, qc1_27, qc1_28⟩ := tn_134 hTy0
  refine gfX10_147 C dX10_payFor_2 hc1 rfl ?_
  refine x_idiv C dX10_payFor_5 (by rw [i_eq_iff]; have l0 : (0 : Int32).toInt = 0 := (by decide); omega) ?_
  refine x_top (fun w2 ew2 => ?_)
  refine x_aload_n C 0 dX10_payFor_6 rfl rfl ?_
  refine gfX10_150 C dX10_payFor_7 hc1 rfl ?_
  refine x_imul C dX10_payFor_10 ?_
  refine x_top (fun w3 ew3 => ?_)
  exact x_iretP C hr hlk (Nat.le_refl _) (Nat.le_refl _) dX10_payFor_11 ⟨rfl, w3, rfl, trivial⟩
set_option maxRecDepth 20000 in
set_option maxHeartbeats 2000000 in
theorem tc_X10_remember {G : GT} {l : Launch} {z n : Nat} {g : Nat → Int} (uu0 : HpT) (hTz0 : TyN G z g uu0) (pre0 : g 0 = 1) : Mp G l z yX10_remember cX10_remember 2 none { frames := 0, cells := 0, slots := 0, locals := 0 } [.ref (z + 134)] uu0 n (fun r v => TN G z g uu0 v ∧ (seOf v).toInt = (seOf uu0).toInt ∧ r = none) := by
  refine mp_of (by decide +kernel) (Nat.le_of_ble_eq_true rfl) ?_
  intro p e s m below meth c C hr hlk hnm
  have hTy0 : TN G z g uu0 uu0 := TN.rf hTz0
  obtain ⟨f1, hf1, qf1_0⟩ := tn_146 hTy0
  have sh2 : (seOf uu0).toInt = (f1 4).toInt := by rw [seOf_eq hf1]
  have sq3 := qf1_0 4 (by decide)
  have J66 : ∀ (u_66 : HpT) (hT_66 : TN G z g uu0 u_66) (x1_66 : Int32) (hl_x1_66 : 25 ≤ x1_66.toInt) (hh_x1_66 : x1_66.toInt ≤ 29) (y0_66 : Int32) (hl_y0_66 : 0 ≤ y0_66.toInt) (hh_y0_66 : y0_66.toInt ≤ 1) (y1_66 : Int32) (hl_y1_66 : 0 ≤ y1_66.toInt) (hh_y1_66 : y1_66.toInt ≤ 30) (i0_66 : (seOf u_66).toInt = (seOf uu0).toInt) (i1_66 : y0_66.toInt + y1_66.toInt ≤ 30), Xw p l e ({ frames := 0, cells := 0, slots := 0, locals := 0 } : Room) s m ([.ref (z + 134)] : List Value).toArray below meth c G z 2 (MQ below (Qp G z n (fun r v => TN G z g uu0 v ∧ (seOf v).toInt = (seOf uu0).toInt ∧ r = none)) ([.ref (z + 134)] : List Value).toArray s 0 0 (zA z)) 66 [(1, .int x1_66), (0, .ref (z + 134))] [.int y0_66, .int y1_66, .ref (z + 134)] u_66 n 0 0 := by
    intro u_66 hT_66 x1_66 hl_x1_66 hh_x1_66 y0_66 hl_y0_66 hh_y0_66 y1_66 hl_y1_66 hh_y1_66 i0_66 i1_66
    obtain ⟨f4, hf4, qf4_0⟩ := tn_146 hT_66
    have sh5 : (seOf u_66).toInt = (f4 4).toInt := by rw [seOf_eq hf4]
    have sq6 := qf4_0 4 (by decide)
    refine x_iadd C dX10_remember_66 ?_
    refine x_top (fun w7 ew7 => ?_)
    have fw7_0 : w7.toInt = y1_66.toInt + y0_66.toInt := by rw [ew7]; exact i_add (by omega) (by omega)
    obtain ⟨c8_0, c8_2, c8_3, c8_4, c8_5, c8_6, c8_7, c8_8, c8_9, c8_15, c8_16, c8_17, c8_18, c8_25, c8_26, c8_28, c8_30, c8_31, c8_32, c8_34, c8_37, hc8, qc8_0, qc8_1, qc8_2, qc8_3, qc8_4, qc8_5, qc8_6, qc8_7, qc8_8, qc8_9, qc8_10, qc8_11, qc8_12, qc8_13, qc8_14, qc8_15, qc8_16, qc8_17, qc8_18, qc8_19, qc8_20, qc8_21, qc8_22, qc8_23, qc8_24, qc8_25, qc8_26, qc8_27, qc8_28⟩ := tn_134 hT_66
    obtain ⟨u9, eu9⟩ : ∃ w : HpT, w = hup u_66 134 (.inr (9, [.int c8_0, .ref (z + 135), .int c8_2, .int c8_3, .int c8_4, .int c8_5, .int c8_6, .int c8_7, .int c8_8, .int c8_9, .ref (z + 136), .ref (z + 137), .ref (z + 138), .ref (z + 139), .ref (z + 140), .int c8_15, .int c8_16, .int c8_17, .int c8_18, .ref (z + 141), .ref (z + 142), .ref (z + 143), .ref (z + 144), .ref (z + 145), .ref (z + 146), .int w7, .int c8_26, .ref (z + 147), .long c8_28, .ref (z + 148), .int c8_30, .int c8_31, .int c8_32, .ref (z + 149), .int c8_34, .ref (z + 150), .ref (z + 151), .int c8_37, .ref (z + 152), .ref (z + 153), .ref (z + 154), .ref (z + 155), .ref (z + 156)])) := ⟨_, rfl⟩
    refine pfX10_159 C dX10_remember_67 hc8 (Nat.le_of_ble_eq_true rfl) rfl eu9.symm ?_
    have hTu9 : TN G z g uu0 u9 := by rw [eu9]; exact hT_66.up_134 (by omega)
    have hn11 := (congrFun eu9 134).trans (hup_s _ _ _)
    have k12 := (congrFun eu9 146).trans (hup_n' (by omega) hf4)
    have sh13 : (seOf u9).toInt = (f4 4).toInt := by rw [seOf_eq k12]
    have sq14 := qf4_0 4 (by decide)
    exact x_vretP C hr hlk (Nat.le_refl _) (Nat.le_refl _) dX10_remember_70 ⟨hTu9, by omega, rfl⟩
  have J2 : ∀ (d : Nat) (u_2 : HpT) (hT_2 : TN G z g uu0 u_2) (x1_2 : Int32) (hl_x1_2 : 0 ≤ x1_2.toInt) (hh_x1_2 : x1_2.toInt ≤ 29) (i0_2 : (seOf u_2).toInt = (seOf uu0).toInt) (hd : d = (30 - x1_2.toInt).toNat), Xw p l e ({ frames := 0, cells := 0, slots := 0, locals := 0 } : Room) s m ([.ref (z + 134)] : List Value).toArray below meth c G z 2 (MQ below (Qp G z n (fun r v => TN G z g uu0 v ∧ (seOf v).toInt = (seOf uu0).toInt ∧ r = none)) ([.ref (z + 134)] : List Value).toArray s 0 0 (zA z)) 2 [(1, .int x1_2), (0, .ref (z + 134))] [] u_2 n 0 0 := by
    intro d
    induction d using Nat.strongRecOn with
    | _ d ih2 =>
      intro u_2 hT_2 x1_2 hl_x1_2 hh_x1_2 i0_2 hd2
      obtain ⟨f15, hf15, qf15_0⟩ := tn_146 hT_2
      have sh16 : (seOf u_2).toInt = (f15 4).toInt := by rw [seOf_eq hf15]
      have sq17 := qf15_0 4 (by decide)
      refine x_iload_n C 0 dX10_remember_2 rfl rfl ?_
      refine x_bipush (v := (25 : Int32)) C dX10_remember_3 (by decide) ?_
      have l_25 : (25 : Int32).toInt = 25 := by decide
      refine x_icmp_ge C 34 dX10_remember_5 (by decide) (fun q18 => ?_) (fun q18 => ?_)
      · have rq18 : x1_2.toInt ≥ (25 : Int32).toInt := by rw [Int32.le_iff_toInt_le] at q18; omega
        refine x_aload_n C 1 dX10_remember_34 rfl rfl ?_
        refine x_aload_n C 1 dX10_remember_35 rfl rfl ?_
        obtain ⟨c19_0, c19_2, c19_3, c19_4, c19_5, c19_6, c19_7, c19_8, c19_9, c19_15, c19_16, c19_17, c19_18, c19_25, c19_26, c19_28, c19_30, c19_31, c19_32, c19_34, c19_37, hc19, qc19_0, qc19_1, qc19_2, qc19_3, qc19_4, qc19_5, qc19_6, qc19_7, qc19_8, qc19_9, qc19_10, qc19_11, qc19_12, qc19_13, qc19_14, qc19_15, qc19_16, qc19_17, qc19_18, qc19_19, qc19_20, qc19_21, qc19_22, qc19_23, qc19_24, qc19_25, qc19_26, qc19_27, qc19_28⟩ := tn_134 hT_2
        refine gfX10_212 C dX10_remember_36 hc19 rfl ?_
        refine x_iconst (v := (1 : Int32)) C dX10_remember_39 (by decide) ?_
        refine x_iadd C dX10_remember_40 ?_
        have l_1 : (1 : Int32).toInt = 1 := by decide
        refine x_top (fun w20 ew20 => ?_)
        have fw20_0 : w20.toInt = c19_26.toInt + (1 : Int32).toInt := by rw [ew20]; exact i_add (by omega) (by omega)
        refine x_bipush (v := (30 : Int32)) C dX10_remember_41 (by decide) ?_
        have l_30 : (30 : Int32).toInt = 30 := by decide
        refine x_irem C dX10_remember_43 (by decide) ?_
        refine x_top (fun w21 ew21 => ?_)
        have fw21_0 : w21.toInt = w20.toInt % 30 := by rw [ew21]; exact i_remk (by decide) (by decide) (by omega)
        obtain ⟨u22, eu22⟩ : ∃ w : HpT, w = hup u_2 134 (.inr (9, [.int c19_0, .ref (z + 135), .int c19_2, .int c19_3, .int c19_4, .int c19_5, .int c19_6, .int c19_7, .int c19_8, .int c19_9, .ref (z + 136), .ref (z + 137), .ref (z + 138), .ref (z + 139), .ref (z + 140), .int c19_15, .int c19_16, .int c19_17, .int c19_18, .ref (z + 141), .ref (z + 142), .ref (z + 143), .ref (z + 144), .ref (z + 145), .ref (z + 146), .int c19_25, .int w21, .ref (z + 147), .long c19_28, .ref (z + 148), .int c19_30, .int c19_31, .int c19_32, .ref (z + 149), .int c19_34, .ref (z + 150), .ref (z + 151), .int c19_37, .ref (z + 152), .ref (z + 153), .ref (z + 154), .ref (z + 155), .ref (z + 156)])) := ⟨_, rfl⟩
        refine pfX10_212 C dX10_remember_44 hc19 (Nat.le_of_ble_eq_true rfl) rfl eu22.symm ?_
        have hTu22 : TN G z g uu0 u22 := by rw [eu22]; exact hT_2.up_134 (by omega)
        have hn24 := (congrFun eu22 134).trans (hup_s _ _ _)
        refine x_aload_n C 1 dX10_remember_47 rfl rfl ?_
        refine x_dup C dX10_remember_48 rfl ?_
        refine gfX10_159 C dX10_remember_49 hn24 rfl ?_
        refine x_aload_n C 1 dX10_remember_52 rfl rfl ?_
        refine gfX10_159 C dX10_remember_53 hn24 rfl ?_
        refine x_bipush (v := (30 : Int32)) C dX10_remember_56 (by decide) ?_
        refine x_icmp_ge C 65 dX10_remember_58 (by decide) (fun q25 => ?_) (fun q25 => ?_)
        · have rq25 : c19_25.toInt ≥ (30 : Int32).toInt := by rw [Int32.le_iff_toInt_le] at q25; omega
          refine x_iconst (v := (0 : Int32)) C dX10_remember_65 (by decide) ?_
          have k26 := (congrFun eu22 146).trans (hup_n' (by omega) hf15)
          have sh27 : (seOf u22).toInt = (f15 4).toInt := by rw [seOf_eq k26]
          have sq28 := qf15_0 4 (by decide)
          have l_0 : (0 : Int32).toInt = 0 := by decide
          exact J66 u22 hTu22 x1_2 (by omega) (by omega) (0 : Int32) (by omega) (by omega) c19_25 (by omega) (by omega) (by omega) (by omega)
        · have rq25 : c19_25.toInt < (30 : Int32).toInt := by rw [Int32.le_iff_toInt_le] at q25; omega
          refine x_iconst (v := (1 : Int32)) C dX10_remember_61 (by decide) ?_
          refine x_goto C 66 dX10_remember_62 (by decide) ?_
          have k29 := (congrFun eu22 146).trans (hup_n' (by omega) hf15)
          have sh30 : (seOf u22).toInt = (f15 4).toInt := by rw [seOf_eq k29]
          have sq31 := qf15_0 4 (by decide)
          exact J66 u22 hTu22 x1_2 (by omega) (by omega) (1 : Int32) (by omega) (by omega) c19_25 (by omega) (by omega) (by omega) (by omega)
      · have rq18 : x1_2.toInt < (25 : Int32).toInt := by rw [Int32.le_iff_toInt_le] at q18; omega
        refine x_aload_n C 1 dX10_remember_8 rfl rfl ?_
        obtain ⟨c32_0, c32_2, c32_3, c32_4, c32_5, c32_6, c32_7, c32_8, c32_9, c32_15, c32_16, c32_17, c32_18, c32_25, c32_26, c32_28, c32_30, c32_31, c32_32, c32_34, c32_37, hc32, qc32_0, qc32_1, qc32_2, qc32_3, qc32_4, qc32_5, qc32_6, qc32_7, qc32_8, qc32_9, qc32_10, qc32_11, qc32_12, qc32_13, qc32_14, qc32_15, qc32_16, qc32_17, qc32_18, qc32_19, qc32_20, qc32_21, qc32_22, qc32_23, qc32_24, qc32_25, qc32_26, qc32_27, qc32_28⟩ := tn_134 hT_2
        refine gfX10_50 C dX10_remember_9 hc32 rfl ?_
        refine x_bipush (v := (25 : Int32)) C dX10_remember_12 (by decide) ?_
        refine x_aload_n C 1 dX10_remember_14 rfl rfl ?_
        refine gfX10_212 C dX10_remember_15 hc32 rfl ?_
        refine x_imul C dX10_remember_18 ?_
        refine x_top (fun w33 ew33 => ?_)
        have fw33_0 : w33.toInt = 25 * c32_26.toInt := by rw [ew33]; exact i_mulkl (by decide) (by omega) (by omega)
        refine x_iload_n C 0 dX10_remember_19 rfl rfl ?_
        refine x_iadd C dX10_remember_20 ?_
        refine x_top (fun w34 ew34 => ?_)
        have fw34_0 : w34.toInt = w33.toInt + x1_2.toInt := by rw [ew34]; exact i_add (by omega) (by omega)
        refine x_aload_n C 1 dX10_remember_21 rfl rfl ?_
        refine gfX10_47 C dX10_remember_22 hc32 rfl ?_
        refine x_iload_n C 0 dX10_remember_25 rfl rfl ?_
        refine x_iald C hf15 (i_in (by omega) (by omega)) dX10_remember_26 ?_
        refine x_top (fun w35 ew35 => ?_)
        have fw35_0 : (x1_2.toInt = 4 → -1 ≤ w35.toInt ∧ w35.toInt ≤ 6 * g 0 - 1) ∧ (x1_2.toInt = 6 → -1 ≤ w35.toInt ∧ w35.toInt ≤ 7) := by rw [ew35]; exact ap_get (P := fun (i x : Int) => (i = 4 → -1 ≤ x ∧ x ≤ 6 * g 0 - 1) ∧ (i = 6 → -1 ≤ x ∧ x ≤ 7)) qf15_0 (by omega) (by omega)
        obtain ⟨f36, hf36, qf36_0⟩ := tn_147 hT_2
        have qf37_0 : ∀ j : Nat, j < 750 → (fun (i x : Int) => (i % 25 = 4 → -1 ≤ x ∧ x ≤ 5) ∧ (i % 25 = 6 → -1 ≤ x ∧ x ≤ 7)) j ((upd f36 w34.toNatClampNeg w35) j).toInt := ap_upd (P := fun (i x : Int) => (i % 25 = 4 → -1 ≤ x ∧ x ≤ 5) ∧ (i % 25 = 6 → -1 ≤ x ∧ x ≤ 7)) qf36_0 (by omega) (show (w34.toInt % 25 = 4 → -1 ≤ w35.toInt ∧ w35.toInt ≤ 5) ∧ (w34.toInt % 25 = 6 → -1 ≤ w35.toInt ∧ w35.toInt ≤ 7) from by omega)
        refine x_iast C hf36 (i_in (by omega) (by omega)) dX10_remember_27 ?_
        obtain ⟨u38, eu38⟩ : ∃ w : HpT, w = hup u_2 147 (aI G 750 (upd f36 w34.toNatClampNeg w35)) := ⟨_, rfl⟩
        refine x_heap (u2 := u38) eu38.symm ?_
        have hTu38 : TN G z g uu0 u38 := by rw [eu38]; exact hT_2.up_147 qf37_0
        have hn41 := (congrFun eu38 147).trans (hup_s _ _ _)
        generalize (upd f36 w34.toNatClampNeg w35) = f37 at *
        have l_1 : (1 : Int32).toInt = 1 := by decide
        obtain ⟨w42, ew42⟩ : ∃ w : Int32, w = x1_2 + Int32.ofInt 1 := ⟨_, rfl⟩
        have fw42 : w42.toInt = x1_2.toInt + (1) := by rw [ew42]; exact i_addk (by decide) (by omega) (by omega)
        refine x_iinc (v := w42) C 0 [(1, .int w42), (0, .ref (z + 134))] dX10_remember_28 rfl ew42.symm (by decide) rfl ?_
        refine x_goto C 2 dX10_remember_31 (by decide) ?_
        have k43 := (congrFun eu38 146).trans (hup_n' (by omega) hf15)
        have sh44 : (seOf u38).toInt = (f15 4).toInt := by rw [seOf_eq k43]
        have sq45 := qf15_0 4 (by decide)
        exact ih2 (30 - w42.toInt).toNat (by omega) u38 hTu38 w42 (by omega) (by omega) (by omega) rfl
  refine x_iconst (v := (0 : Int32)) C dX10_remember_0 (by decide) ?_
  refine x_istore_n C [(1, .int (0 : Int32)), (0, .ref (z + 134))] dX10_remember_1 rfl (by decide) rfl ?_
  have sh46 : (seOf uu0).toInt = (f1 4).toInt := by rw [seOf_eq hf1]
  have sq47 := qf1_0 4 (by decide)
  have l_0 : (0 : Int32).toInt = 0 := by decide
  exact J2 (30 - (0 : Int32).toInt).toNat uu0 hTy0 (0 : Int32) (by omega) (by omega) (by omega) rfl
set_option maxRecDepth 20000 in
set_option maxHeartbeats 2000000 in
theorem tc_X10_passes {G : GT} {l : Launch} {z n : Nat} {g : Nat → Int} (uu0 : HpT) (hTz0 : TyN G z g uu0) (a1 : Int32) : Mp G l z yX10_passes cX10_passes 5 none { frames := 1, cells := 0, slots := 0, locals := 21 } [.ref (z + 134), .int a1] uu0 n (fun r v => TN G z g uu0 v ∧ (seOf v).toInt = (seOf uu0).toInt ∧ r = none) := by
  refine mp_of (by decide +kernel) (Nat.le_of_ble_eq_true rfl) ?_
  intro p e s m below meth c C hr hlk hnm
  have hTy0 : TN G z g uu0 uu0 := TN.rf hTz0
  have zl_a1 : -2147483648 ≤ a1.toInt := Int32.le_toInt a1
  have zh_a1 : a1.toInt ≤ 2147483647 := Int32.toInt_le a1
  obtain ⟨f1, hf1, qf1_0⟩ := tn_146 hTy0
  have sh2 : (seOf uu0).toInt = (f1 4).toInt := by rw [seOf_eq hf1]
  have sq3 := qf1_0 4 (by decide)
  have J2 : ∀ (d : Nat) (u_2 : HpT) (hT_2 : TN G z g uu0 u_2) (x2_2 : Int32) (hl_x2_2 : 0 ≤ x2_2.toInt) (i0_2 : (seOf u_2).toInt = (seOf uu0).toInt) (hd : d = (a1.toInt - x2_2.toInt).toNat), Xw p l e ({ frames := 1, cells := 0, slots := 0, locals := 21 } : Room) s m ([.ref (z + 134), .int a1] : List Value).toArray below meth c G z 5 (MQ below (Qp G z n (fun r v => TN G z g uu0 v ∧ (seOf v).toInt = (seOf uu0).toInt ∧ r = none)) ([.ref (z + 134), .int a1] : List Value).toArray s 0 0 (zA z)) 2 [(2, .int x2_2), (0, .ref (z + 134)), (1, .int a1)] [] u_2 n 0 0 := by
    intro d
    induction d using Nat.strongRecOn with
    | _ d ih2 =>
      intro u_2 hT_2 x2_2 hl_x2_2 i0_2 hd2
      obtain ⟨f4, hf4, qf4_0⟩ := tn_146 hT_2
      have sh5 : (seOf u_2).toInt = (f4 4).toInt := by rw [seOf_eq hf4]
      have sq6 := qf4_0 4 (by decide)
      have J9 : ∀ (d : Nat) (u_9 : HpT) (hT_9 : TN G z g uu0 u_9) (x3_9 : Int32) (hl_x3_9 : 0 ≤ x3_9.toInt) (hh_x3_9 : x3_9.toInt ≤ 6) (nl_a1_9 : 1 ≤ a1.toInt) (nl_x2_2_9 : 0 ≤ x2_2.toInt) (nh_x2_2_9 : x2_2.toInt ≤ 2147483646) (i0_9 : (seOf u_9).toInt = (seOf uu0).toInt) (i1_9 : x2_2.toInt < a1.toInt) (hd : d = (7 - x3_9.toInt).toNat), Xw p l e ({ frames := 1, cells := 0, slots := 0, locals := 21 } : Room) s m ([.ref (z + 134), .int a1] : List Value).toArray below meth c G z 5 (MQ below (Qp G z n (fun r v => TN G z g uu0 v ∧ (seOf v).toInt = (seOf uu0).toInt ∧ r = none)) ([.ref (z + 134), .int a1] : List Value).toArray s 0 0 (zA z)) 9 [(3, .int x3_9), (2, .int x2_2), (0, .ref (z + 134)), (1, .int a1)] [] u_9 n 0 0 := by
        intro d
        induction d using Nat.strongRecOn with
        | _ d ih9 =>
          intro u_9 hT_9 x3_9 hl_x3_9 hh_x3_9 nl_a1_9 nl_x2_2_9 nh_x2_2_9 i0_9 i1_9 hd9
          obtain ⟨f7, hf7, qf7_0⟩ := tn_146 hT_9
          have sh8 : (seOf u_9).toInt = (f7 4).toInt := by rw [seOf_eq hf7]
          have sq9 := qf7_0 4 (by decide)
          have J101 : ∀ (u_101 : HpT) (hT_101 : TN G z g uu0 u_101) (x4_101 : Int32) (hl_x4_101 : 0 ≤ x4_101.toInt) (hh_x4_101 : x4_101.toInt ≤ 1) (y0_101 : Int32) (y1_101 : Int32) (hl_y1_101 : 7 ≤ y1_101.toInt) (hh_y1_101 : y1_101.toInt ≤ 12) (nl_a1_101 : 1 ≤ a1.toInt) (nl_x2_2_101 : 0 ≤ x2_2.toInt) (nh_x2_2_101 : x2_2.toInt ≤ 2147483646) (nl_x3_9_101 : 0 ≤ x3_9.toInt) (nh_x3_9_101 : x3_9.toInt ≤ 5) (i0_101 : (seOf u_101).toInt = (seOf uu0).toInt) (i1_101 : x2_2.toInt < a1.toInt), Xw p l e ({ frames := 1, cells := 0, slots := 0, locals := 21 } : Room) s m ([.ref (z + 134), .int a1] : List Value).toArray below meth c G z 5 (MQ below (Qp G z n (fun r v => TN G z g uu0 v ∧ (seOf v).toInt = (seOf uu0).toInt ∧ r = none)) ([.ref (z + 134), .int a1] : List Value).toArray s 0 0 (zA z)) 101 [(4, .int x4_101), (3, .int x3_9), (2, .int x2_2), (0, .ref (z + 134)), (1, .int a1)] [.int y0_101, .int y1_101, .ref (z + 146)] u_101 n 0 0 := by
            intro u_101 hT_101 x4_101 hl_x4_101 hh_x4_101 y0_101 y1_101 hl_y1_101 hh_y1_101 nl_a1_101 nl_x2_2_101 nh_x2_2_101 nl_x3_9_101 nh_x3_9_101 i0_101 i1_101
            obtain ⟨f10, hf10, qf10_0⟩ := tn_146 hT_101
            have sh11 : (seOf u_101).toInt = (f10 4).toInt := by rw [seOf_eq hf10]
            have sq12 := qf10_0 4 (by decide)
            have qf13_0 : ∀ j : Nat, j < 25 → (fun (i x : Int) => (i = 4 → -1 ≤ x ∧ x ≤ 6 * g 0 - 1) ∧ (i = 6 → -1 ≤ x ∧ x ≤ 7)) j ((upd f10 y1_101.toNatClampNeg y0_101) j).toInt := ap_upd (P := fun (i x : Int) => (i = 4 → -1 ≤ x ∧ x ≤ 6 * g 0 - 1) ∧ (i = 6 → -1 ≤ x ∧ x ≤ 7)) qf10_0 (by omega) (show (y1_101.toInt = 4 → -1 ≤ y0_101.toInt ∧ y0_101.toInt ≤ 6 * g 0 - 1) ∧ (y1_101.toInt = 6 → -1 ≤ y0_101.toInt ∧ y0_101.toInt ≤ 7) from by omega)
            refine x_iast C hf10 (i_in (by omega) (by omega)) dX10_passes_101 ?_
            obtain ⟨u14, eu14⟩ : ∃ w : HpT, w = hup u_101 146 (aI G 25 (upd f10 y1_101.toNatClampNeg y0_101)) := ⟨_, rfl⟩
            refine x_heap (u2 := u14) eu14.symm ?_
            have hTu14 : TN G z g uu0 u14 := by rw [eu14]; exact hT_101.up_146 qf13_0
            have hn15 := (congrFun eu14 146).trans (hup_s _ _ _)
            have s416 : ((upd f10 y1_101.toNatClampNeg y0_101) 4).toInt = (f10 4).toInt := by rw [now4_n (by omega) (by omega)]
            generalize (upd f10 y1_101.toNatClampNeg y0_101) = f13 at *
            have l_1 : (1 : Int32).toInt = 1 := by decide
            obtain ⟨w17, ew17⟩ : ∃ w : Int32, w = x3_9 + Int32.ofInt 1 := ⟨_, rfl⟩
            have fw17 : w17.toInt = x3_9.toInt + (1) := by rw [ew17]; exact i_addk (by decide) (by omega) (by omega)
            refine x_iinc (v := w17) C 1 [(3, .int w17), (4, .int x4_101), (2, .int x2_2), (0, .ref (z + 134)), (1, .int a1)] dX10_passes_102 rfl ew17.symm (by decide) rfl ?_
            refine x_goto C 9 dX10_passes_105 (by decide) ?_
            refine x_mv (lo2 := [(3, .int w17), (2, .int x2_2), (0, .ref (z + 134)), (1, .int a1)]) [0, 2, 3, 4] rfl ?_
            have sh18 : (seOf u14).toInt = (f13 4).toInt := by rw [seOf_eq hn15]
            have sq19 := qf13_0 4 (by decide)
            exact ih9 (7 - w17.toInt).toNat (by omega) u14 hTu14 w17 (by omega) (by omega) (by omega) (by omega) (by omega) (by omega) (by omega) rfl
          have J92 : ∀ (u_92 : HpT) (hT_92 : TN G z g uu0 u_92) (x4_92 : Int32) (hl_x4_92 : 0 ≤ x4_92.toInt) (hh_x4_92 : x4_92.toInt ≤ 1) (y0_92 : Int32) (hl_y0_92 : 7 ≤ y0_92.toInt) (hh_y0_92 : y0_92.toInt ≤ 12) (nl_a1_92 : 1 ≤ a1.toInt) (nl_x2_2_92 : 0 ≤ x2_2.toInt) (nh_x2_2_92 : x2_2.toInt ≤ 2147483646) (nl_x3_9_92 : 0 ≤ x3_9.toInt) (nh_x3_9_92 : x3_9.toInt ≤ 5) (i0_92 : (seOf u_92).toInt = (seOf uu0).toInt) (i1_92 : x2_2.toInt < a1.toInt), Xw p l e ({ frames := 1, cells := 0, slots := 0, locals := 21 } : Room) s m ([.ref (z + 134), .int a1] : List Value).toArray below meth c G z 5 (MQ below (Qp G z n (fun r v => TN G z g uu0 v ∧ (seOf v).toInt = (seOf uu0).toInt ∧ r = none)) ([.ref (z + 134), .int a1] : List Value).toArray s 0 0 (zA z)) 92 [(4, .int x4_92), (3, .int x3_9), (2, .int x2_2), (0, .ref (z + 134)), (1, .int a1)] [.int y0_92, .ref (z + 146)] u_92 n 0 0 := by
            intro u_92 hT_92 x4_92 hl_x4_92 hh_x4_92 y0_92 hl_y0_92 hh_y0_92 nl_a1_92 nl_x2_2_92 nh_x2_2_92 nl_x3_9_92 nh_x3_9_92 i0_92 i1_92
            obtain ⟨f20, hf20, qf20_0⟩ := tn_146 hT_92
            have sh21 : (seOf u_92).toInt = (f20 4).toInt := by rw [seOf_eq hf20]
            have sq22 := qf20_0 4 (by decide)
            refine x_aload_n C 3 dX10_passes_92 rfl rfl ?_
            obtain ⟨c23_0, c23_2, c23_3, c23_4, c23_5, c23_6, c23_7, c23_8, c23_9, c23_15, c23_16, c23_17, c23_18, c23_25, c23_26, c23_28, c23_30, c23_31, c23_32, c23_34, c23_37, hc23, qc23_0, qc23_1, qc23_2, qc23_3, qc23_4, qc23_5, qc23_6, qc23_7, qc23_8, qc23_9, qc23_10, qc23_11, qc23_12, qc23_13, qc23_14, qc23_15, qc23_16, qc23_17, qc23_18, qc23_19, qc23_20, qc23_21, qc23_22, qc23_23, qc23_24, qc23_25, qc23_26, qc23_27, qc23_28⟩ := tn_134 hT_92
            refine gfX10_47 C dX10_passes_93 hc23 rfl ?_
            refine x_bipush (v := (7 : Int32)) C dX10_passes_96 (by decide) ?_
            refine x_iload_n C 1 dX10_passes_98 rfl rfl ?_
            refine x_iadd C dX10_passes_99 ?_
            have l_7 : (7 : Int32).toInt = 7 := by decide
            refine x_top (fun w24 ew24 => ?_)
            have fw24_0 : w24.toInt = (7 : Int32).toInt + x3_9.toInt := by rw [ew24]; exact i_add (by omega) (by omega)
            refine x_iald C hf20 (i_in (by omega) (by omega)) dX10_passes_100 ?_
            refine x_top (fun w25 ew25 => ?_)
            have fw25_0 : (w24.toInt = 4 → -1 ≤ w25.toInt ∧ w25.toInt ≤ 6 * g 0 - 1) ∧ (w24.toInt = 6 → -1 ≤ w25.toInt ∧ w25.toInt ≤ 7) := by rw [ew25]; exact ap_get (P := fun (i x : Int) => (i = 4 → -1 ≤ x ∧ x ≤ 6 * g 0 - 1) ∧ (i = 6 → -1 ≤ x ∧ x ≤ 7)) qf20_0 (by omega) (by omega)
            have sh26 : (seOf u_92).toInt = (f20 4).toInt := by rw [seOf_eq hf20]
            have sq27 := qf20_0 4 (by decide)
            exact J101 u_92 hT_92 x4_92 (by omega) (by omega) w25 y0_92 (by omega) (by omega) (by omega) (by omega) (by omega) (by omega) (by omega) (by omega) (by omega)
          have J56 : ∀ (u_56 : HpT) (hT_56 : TN G z g uu0 u_56) (x4_56 : Int32) (hl_x4_56 : 0 ≤ x4_56.toInt) (hh_x4_56 : x4_56.toInt ≤ 1) (y0_56 : Int32) (hl_y0_56 : 0 ≤ y0_56.toInt) (hh_y0_56 : y0_56.toInt ≤ 1) (y1_56 : Int32) (y2_56 : Int32) (hl_y2_56 : 19 ≤ y2_56.toInt) (hh_y2_56 : y2_56.toInt ≤ 24) (nl_a1_56 : 1 ≤ a1.toInt) (nl_x2_2_56 : 0 ≤ x2_2.toInt) (nh_x2_2_56 : x2_2.toInt ≤ 2147483646) (nl_x3_9_56 : 0 ≤ x3_9.toInt) (nh_x3_9_56 : x3_9.toInt ≤ 5) (i0_56 : (seOf u_56).toInt = (seOf uu0).toInt) (i1_56 : x2_2.toInt < a1.toInt), Xw p l e ({ frames := 1, cells := 0, slots := 0, locals := 21 } : Room) s m ([.ref (z + 134), .int a1] : List Value).toArray below meth c G z 5 (MQ below (Qp G z n (fun r v => TN G z g uu0 v ∧ (seOf v).toInt = (seOf uu0).toInt ∧ r = none)) ([.ref (z + 134), .int a1] : List Value).toArray s 0 0 (zA z)) 56 [(4, .int x4_56), (3, .int x3_9), (2, .int x2_2), (0, .ref (z + 134)), (1, .int a1)] [.int y0_56, .int y1_56, .int y2_56, .ref (z + 146)] u_56 n 0 0 := by
            intro u_56 hT_56 x4_56 hl_x4_56 hh_x4_56 y0_56 hl_y0_56 hh_y0_56 y1_56 y2_56 hl_y2_56 hh_y2_56 nl_a1_56 nl_x2_2_56 nh_x2_2_56 nl_x3_9_56 nh_x3_9_56 i0_56 i1_56
            obtain ⟨f28, hf28, qf28_0⟩ := tn_146 hT_56
            have sh29 : (seOf u_56).toInt = (f28 4).toInt := by rw [seOf_eq hf28]
            have sq30 := qf28_0 4 (by decide)
            refine x_iadd C dX10_passes_56 ?_
            refine x_top (fun w31 ew31 => ?_)
            have qf32_0 : ∀ j : Nat, j < 25 → (fun (i x : Int) => (i = 4 → -1 ≤ x ∧ x ≤ 6 * g 0 - 1) ∧ (i = 6 → -1 ≤ x ∧ x ≤ 7)) j ((upd f28 y2_56.toNatClampNeg w31) j).toInt := ap_upd (P := fun (i x : Int) => (i = 4 → -1 ≤ x ∧ x ≤ 6 * g 0 - 1) ∧ (i = 6 → -1 ≤ x ∧ x ≤ 7)) qf28_0 (by omega) (show (y2_56.toInt = 4 → -1 ≤ w31.toInt ∧ w31.toInt ≤ 6 * g 0 - 1) ∧ (y2_56.toInt = 6 → -1 ≤ w31.toInt ∧ w31.toInt ≤ 7) from by omega)
            refine x_iast C hf28 (i_in (by omega) (by omega)) dX10_passes_57 ?_
            obtain ⟨u33, eu33⟩ : ∃ w : HpT, w = hup u_56 146 (aI G 25 (upd f28 y2_56.toNatClampNeg w31)) := ⟨_, rfl⟩
            refine x_heap (u2 := u33) eu33.symm ?_
            have hTu33 : TN G z g uu0 u33 := by rw [eu33]; exact hT_56.up_146 qf32_0
            have hn34 := (congrFun eu33 146).trans (hup_s _ _ _)
            have s435 : ((upd f28 y2_56.toNatClampNeg w31) 4).toInt = (f28 4).toInt := by rw [now4_n (by omega) (by omega)]
            generalize (upd f28 y2_56.toNatClampNeg w31) = f32 at *
            refine x_aload_n C 3 dX10_passes_58 rfl rfl ?_
            obtain ⟨c36_0, c36_2, c36_3, c36_4, c36_5, c36_6, c36_7, c36_8, c36_9, c36_15, c36_16, c36_17, c36_18, c36_25, c36_26, c36_28, c36_30, c36_31, c36_32, c36_34, c36_37, hc36, qc36_0, qc36_1, qc36_2, qc36_3, qc36_4, qc36_5, qc36_6, qc36_7, qc36_8, qc36_9, qc36_10, qc36_11, qc36_12, qc36_13, qc36_14, qc36_15, qc36_16, qc36_17, qc36_18, qc36_19, qc36_20, qc36_21, qc36_22, qc36_23, qc36_24, qc36_25, qc36_26, qc36_27, qc36_28⟩ := tn_134 hTu33
            refine gfX10_47 C dX10_passes_59 hc36 rfl ?_
            refine x_bipush (v := (7 : Int32)) C dX10_passes_62 (by decide) ?_
            refine x_iload_n C 1 dX10_passes_64 rfl rfl ?_
            refine x_iadd C dX10_passes_65 ?_
            have l_7 : (7 : Int32).toInt = 7 := by decide
            refine x_top (fun w37 ew37 => ?_)
            have fw37_0 : w37.toInt = (7 : Int32).toInt + x3_9.toInt := by rw [ew37]; exact i_add (by omega) (by omega)
            refine x_iload C 0 dX10_passes_66 rfl ?_
            have l_0 : (0 : Int32).toInt = 0 := by decide
            refine x_if_eq C 92 dX10_passes_68 (by decide) (fun q38 => ?_) (fun q38 => ?_)
            · have rq38 : x4_56.toInt = (0 : Int32).toInt := by rw [i_eq_iff] at q38; omega
              have sh39 : (seOf u33).toInt = (f32 4).toInt := by rw [seOf_eq hn34]
              have sq40 := qf32_0 4 (by decide)
              exact J92 u33 hTu33 x4_56 (by omega) (by omega) w37 (by omega) (by omega) (by omega) (by omega) (by omega) (by omega) (by omega) (by omega) (by omega)
            · have rq38 : ¬ x4_56.toInt = (0 : Int32).toInt := by rw [i_eq_iff] at q38; omega
              refine x_aload_n C 3 dX10_passes_71 rfl rfl ?_
              refine gfX10_47 C dX10_passes_72 hc36 rfl ?_
              refine x_bipush (v := (19 : Int32)) C dX10_passes_75 (by decide) ?_
              refine x_iload_n C 1 dX10_passes_77 rfl rfl ?_
              refine x_iadd C dX10_passes_78 ?_
              have l_19 : (19 : Int32).toInt = 19 := by decide
              refine x_top (fun w41 ew41 => ?_)
              have fw41_0 : w41.toInt = (19 : Int32).toInt + x3_9.toInt := by rw [ew41]; exact i_add (by omega) (by omega)
              refine x_iald C hn34 (i_in (by omega) (by omega)) dX10_passes_79 ?_
              refine x_top (fun w42 ew42 => ?_)
              have fw42_0 : (w41.toInt = 4 → -1 ≤ w42.toInt ∧ w42.toInt ≤ 6 * g 0 - 1) ∧ (w41.toInt = 6 → -1 ≤ w42.toInt ∧ w42.toInt ≤ 7) := by rw [ew42]; exact ap_get (P := fun (i x : Int) => (i = 4 → -1 ≤ x ∧ x ≤ 6 * g 0 - 1) ∧ (i = 6 → -1 ≤ x ∧ x ≤ 7)) qf32_0 (by omega) (by omega)
              refine x_aload_n C 3 dX10_passes_80 rfl rfl ?_
              refine x_iload_n C 1 dX10_passes_81 rfl rfl ?_
              refine x_callVP C cl_X10_limit kmX10_206 (ci := 9) (b := 134) (As := [.int x3_9]) (rest := [.int w42, .int w37, .ref (z + 146)]) rfl hc36 (tc_X10_limit u33 hTu33.1 x3_9 (by omega) (by omega)) rfl rfl (Nat.le_of_ble_eq_true rfl) ⟨Nat.le_of_ble_eq_true rfl, Nat.le_of_ble_eq_true rfl⟩ ⟨Nat.le_of_ble_eq_true rfl, Nat.le_of_ble_eq_true rfl⟩ dX10_passes_82 ?_
              rintro _ _ ⟨rfl, r43, rfl, gr43⟩
              refine x_norm (st2 := [.int r43, .int w42, .int w37, .ref (z + 146)]) rfl rfl rfl rfl rfl ?_
              refine x_icmp_le C 92 dX10_passes_85 (by decide) (fun q45 => ?_) (fun q45 => ?_)
              · have rq45 : w42.toInt ≤ r43.toInt := by rw [Int32.le_iff_toInt_le] at q45; omega
                have sh46 : (seOf u33).toInt = (f32 4).toInt := by rw [seOf_eq hn34]
                have sq47 := qf32_0 4 (by decide)
                exact J92 u33 hTu33 x4_56 (by omega) (by omega) w37 (by omega) (by omega) (by omega) (by omega) (by omega) (by omega) (by omega) (by omega) (by omega)
              · have rq45 : w42.toInt > r43.toInt := by rw [Int32.le_iff_toInt_le] at q45; omega
                refine x_iconst (v := (3 : Int32)) C dX10_passes_88 (by decide) ?_
                refine x_goto C 101 dX10_passes_89 (by decide) ?_
                have sh48 : (seOf u33).toInt = (f32 4).toInt := by rw [seOf_eq hn34]
                have sq49 := qf32_0 4 (by decide)
                have l_3 : (3 : Int32).toInt = 3 := by decide
                exact J101 u33 hTu33 x4_56 (by omega) (by omega) (3 : Int32) w37 (by omega) (by omega) (by omega) (by omega) (by omega) (by omega) (by omega) (by omega) (by omega)
          have J34 : ∀ (u_34 : HpT) (hT_34 : TN G z g uu0 u_34) (y0_34 : Int32) (hl_y0_34 : 0 ≤ y0_34.toInt) (hh_y0_34 : y0_34.toInt ≤ 1) (nl_a1_34 : 1 ≤ a1.toInt) (nl_x2_2_34 : 0 ≤ x2_2.toInt) (nh_x2_2_34 : x2_2.toInt ≤ 2147483646) (nl_x3_9_34 : 0 ≤ x3_9.toInt) (nh_x3_9_34 : x3_9.toInt ≤ 5) (i0_34 : (seOf u_34).toInt = (seOf uu0).toInt) (i1_34 : x2_2.toInt < a1.toInt), Xw p l e ({ frames := 1, cells := 0, slots := 0, locals := 21 } : Room) s m ([.ref (z + 134), .int a1] : List Value).toArray below meth c G z 5 (MQ below (Qp G z n (fun r v => TN G z g uu0 v ∧ (seOf v).toInt = (seOf uu0).toInt ∧ r = none)) ([.ref (z + 134), .int a1] : List Value).toArray s 0 0 (zA z)) 34 [(3, .int x3_9), (2, .int x2_2), (0, .ref (z + 134)), (1, .int a1)] [.int y0_34] u_34 n 0 0 := by
            intro u_34 hT_34 y0_34 hl_y0_34 hh_y0_34 nl_a1_34 nl_x2_2_34 nh_x2_2_34 nl_x3_9_34 nh_x3_9_34 i0_34 i1_34
            obtain ⟨f50, hf50, qf50_0⟩ := tn_146 hT_34
            have sh51 : (seOf u_34).toInt = (f50 4).toInt := by rw [seOf_eq hf50]
            have sq52 := qf50_0 4 (by decide)
            refine x_istore C [(4, .int y0_34), (3, .int x3_9), (2, .int x2_2), (0, .ref (z + 134)), (1, .int a1)] dX10_passes_34 (by decide) rfl ?_
            refine x_aload_n C 3 dX10_passes_36 rfl rfl ?_
            obtain ⟨c53_0, c53_2, c53_3, c53_4, c53_5, c53_6, c53_7, c53_8, c53_9, c53_15, c53_16, c53_17, c53_18, c53_25, c53_26, c53_28, c53_30, c53_31, c53_32, c53_34, c53_37, hc53, qc53_0, qc53_1, qc53_2, qc53_3, qc53_4, qc53_5, qc53_6, qc53_7, qc53_8, qc53_9, qc53_10, qc53_11, qc53_12, qc53_13, qc53_14, qc53_15, qc53_16, qc53_17, qc53_18, qc53_19, qc53_20, qc53_21, qc53_22, qc53_23, qc53_24, qc53_25, qc53_26, qc53_27, qc53_28⟩ := tn_134 hT_34
            refine gfX10_47 C dX10_passes_37 hc53 rfl ?_
            refine x_bipush (v := (19 : Int32)) C dX10_passes_40 (by decide) ?_
            refine x_iload_n C 1 dX10_passes_42 rfl rfl ?_
            refine x_iadd C dX10_passes_43 ?_
            have l_19 : (19 : Int32).toInt = 19 := by decide
            refine x_top (fun w54 ew54 => ?_)
            have fw54_0 : w54.toInt = (19 : Int32).toInt + x3_9.toInt := by rw [ew54]; exact i_add (by omega) (by omega)
            refine x_dup2 C dX10_passes_44 rfl rfl ?_
            refine x_iald C hf50 (i_in (by omega) (by omega)) dX10_passes_45 ?_
            refine x_top (fun w55 ew55 => ?_)
            have fw55_0 : (w54.toInt = 4 → -1 ≤ w55.toInt ∧ w55.toInt ≤ 6 * g 0 - 1) ∧ (w54.toInt = 6 → -1 ≤ w55.toInt ∧ w55.toInt ≤ 7) := by rw [ew55]; exact ap_get (P := fun (i x : Int) => (i = 4 → -1 ≤ x ∧ x ≤ 6 * g 0 - 1) ∧ (i = 6 → -1 ≤ x ∧ x ≤ 7)) qf50_0 (by omega) (by omega)
            refine x_iload C 0 dX10_passes_46 rfl ?_
            have l_0 : (0 : Int32).toInt = 0 := by decide
            refine x_if_eq C 55 dX10_passes_48 (by decide) (fun q56 => ?_) (fun q56 => ?_)
            · have rq56 : y0_34.toInt = (0 : Int32).toInt := by rw [i_eq_iff] at q56; omega
              refine x_iconst (v := (0 : Int32)) C dX10_passes_55 (by decide) ?_
              have sh57 : (seOf u_34).toInt = (f50 4).toInt := by rw [seOf_eq hf50]
              have sq58 := qf50_0 4 (by decide)
              exact J56 u_34 hT_34 y0_34 (by omega) (by omega) (0 : Int32) (by omega) (by omega) w55 w54 (by omega) (by omega) (by omega) (by omega) (by omega) (by omega) (by omega) (by omega) (by omega)
            · have rq56 : ¬ y0_34.toInt = (0 : Int32).toInt := by rw [i_eq_iff] at q56; omega
              refine x_iconst (v := (1 : Int32)) C dX10_passes_51 (by decide) ?_
              refine x_goto C 56 dX10_passes_52 (by decide) ?_
              have sh59 : (seOf u_34).toInt = (f50 4).toInt := by rw [seOf_eq hf50]
              have sq60 := qf50_0 4 (by decide)
              have l_1 : (1 : Int32).toInt = 1 := by decide
              exact J56 u_34 hT_34 y0_34 (by omega) (by omega) (1 : Int32) (by omega) (by omega) w55 w54 (by omega) (by omega) (by omega) (by omega) (by omega) (by omega) (by omega) (by omega) (by omega)
          refine x_iload_n C 0 dX10_passes_9 rfl rfl ?_
          refine x_aload_n C 2 dX10_passes_10 rfl rfl ?_
          obtain ⟨c61_0, c61_2, c61_3, c61_4, c61_5, c61_6, c61_7, c61_8, c61_9, c61_15, c61_16, c61_17, c61_18, c61_25, c61_26, c61_28, c61_30, c61_31, c61_32, c61_34, c61_37, hc61, qc61_0, qc61_1, qc61_2, qc61_3, qc61_4, qc61_5, qc61_6, qc61_7, qc61_8, qc61_9, qc61_10, qc61_11, qc61_12, qc61_13, qc61_14, qc61_15, qc61_16, qc61_17, qc61_18, qc61_19, qc61_20, qc61_21, qc61_22, qc61_23, qc61_24, qc61_25, qc61_26, qc61_27, qc61_28⟩ := tn_134 hT_9
          refine gfX10_156 C dX10_passes_11 hc61 rfl ?_
          refine x_icmp_ge C 108 dX10_passes_14 (by decide) (fun q62 => ?_) (fun q62 => ?_)
          · have rq62 : x3_9.toInt ≥ c61_18.toInt := by rw [Int32.le_iff_toInt_le] at q62; omega
            refine x_aload_n C 2 dX10_passes_108 rfl rfl ?_
            refine gfX10_47 C dX10_passes_109 hc61 rfl ?_
            refine x_iconst (v := (0 : Int32)) C dX10_passes_112 (by decide) ?_
            refine x_dup2 C dX10_passes_113 rfl rfl ?_
            have l_0 : (0 : Int32).toInt = 0 := by decide
            refine x_iald C hf7 (i_in (by omega) (by omega)) dX10_passes_114 ?_
            refine x_top (fun w63 ew63 => ?_)
            have fw63_0 : ((0 : Int32).toInt = 4 → -1 ≤ w63.toInt ∧ w63.toInt ≤ 6 * g 0 - 1) ∧ ((0 : Int32).toInt = 6 → -1 ≤ w63.toInt ∧ w63.toInt ≤ 7) := by rw [ew63]; exact ap_get (P := fun (i x : Int) => (i = 4 → -1 ≤ x ∧ x ≤ 6 * g 0 - 1) ∧ (i = 6 → -1 ≤ x ∧ x ≤ 7)) qf7_0 (by omega) (by omega)
            refine x_iconst (v := (1 : Int32)) C dX10_passes_115 (by decide) ?_
            refine x_iadd C dX10_passes_116 ?_
            have l_1 : (1 : Int32).toInt = 1 := by decide
            refine x_top (fun w64 ew64 => ?_)
            have qf65_0 : ∀ j : Nat, j < 25 → (fun (i x : Int) => (i = 4 → -1 ≤ x ∧ x ≤ 6 * g 0 - 1) ∧ (i = 6 → -1 ≤ x ∧ x ≤ 7)) j ((upd f7 (0 : Int32).toNatClampNeg w64) j).toInt := ap_upd (P := fun (i x : Int) => (i = 4 → -1 ≤ x ∧ x ≤ 6 * g 0 - 1) ∧ (i = 6 → -1 ≤ x ∧ x ≤ 7)) qf7_0 (by omega) (show ((0 : Int32).toInt = 4 → -1 ≤ w64.toInt ∧ w64.toInt ≤ 6 * g 0 - 1) ∧ ((0 : Int32).toInt = 6 → -1 ≤ w64.toInt ∧ w64.toInt ≤ 7) from by omega)
            refine x_iast C hf7 (i_in (by omega) (by omega)) dX10_passes_117 ?_
            obtain ⟨u66, eu66⟩ : ∃ w : HpT, w = hup u_9 146 (aI G 25 (upd f7 (0 : Int32).toNatClampNeg w64)) := ⟨_, rfl⟩
            refine x_heap (u2 := u66) eu66.symm ?_
            have hTu66 : TN G z g uu0 u66 := by rw [eu66]; exact hT_9.up_146 qf65_0
            have hn68 := (congrFun eu66 146).trans (hup_s _ _ _)
            have s469 : ((upd f7 (0 : Int32).toNatClampNeg w64) 4).toInt = (f7 4).toInt := by rw [now4_n (by omega) (by omega)]
            generalize (upd f7 (0 : Int32).toNatClampNeg w64) = f65 at *
            obtain ⟨w70, ew70⟩ : ∃ w : Int32, w = x2_2 + Int32.ofInt 1 := ⟨_, rfl⟩
            have fw70 : w70.toInt = x2_2.toInt + (1) := by rw [ew70]; exact i_addk (by decide) (by omega) (by omega)
            refine x_iinc (v := w70) C 1 [(2, .int w70), (3, .int x3_9), (0, .ref (z + 134)), (1, .int a1)] dX10_passes_118 rfl ew70.symm (by decide) rfl ?_
            refine x_goto C 2 dX10_passes_121 (by decide) ?_
            refine x_mv (lo2 := [(2, .int w70), (0, .ref (z + 134)), (1, .int a1)]) [0, 2, 3] rfl ?_
            have sh71 : (seOf u66).toInt = (f65 4).toInt := by rw [seOf_eq hn68]
            have sq72 := qf65_0 4 (by decide)
            exact ih2 (a1.toInt - w70.toInt).toNat (by omega) u66 hTu66 w70 (by omega) (by omega) rfl
          · have rq62 : x3_9.toInt < c61_18.toInt := by rw [Int32.le_iff_toInt_le] at q62; omega
            refine x_aload_n C 2 dX10_passes_17 rfl rfl ?_
            refine gfX10_47 C dX10_passes_18 hc61 rfl ?_
            refine x_bipush (v := (7 : Int32)) C dX10_passes_21 (by decide) ?_
            refine x_iload_n C 0 dX10_passes_23 rfl rfl ?_
            refine x_iadd C dX10_passes_24 ?_
            have l_7 : (7 : Int32).toInt = 7 := by decide
            refine x_top (fun w73 ew73 => ?_)
            have fw73_0 : w73.toInt = (7 : Int32).toInt + x3_9.toInt := by rw [ew73]; exact i_add (by omega) (by omega)
            refine x_iald C hf7 (i_in (by omega) (by omega)) dX10_passes_25 ?_
            refine x_top (fun w74 ew74 => ?_)
            have fw74_0 : (w73.toInt = 4 → -1 ≤ w74.toInt ∧ w74.toInt ≤ 6 * g 0 - 1) ∧ (w73.toInt = 6 → -1 ≤ w74.toInt ∧ w74.toInt ≤ 7) := by rw [ew74]; exact ap_get (P := fun (i x : Int) => (i = 4 → -1 ≤ x ∧ x ≤ 6 * g 0 - 1) ∧ (i = 6 → -1 ≤ x ∧ x ≤ 7)) qf7_0 (by omega) (by omega)
            have l_0 : (0 : Int32).toInt = 0 := by decide
            refine x_if_ne C 33 dX10_passes_26 (by decide) (fun q75 => ?_) (fun q75 => ?_)
            · have rq75 : ¬ w74.toInt = (0 : Int32).toInt := by rw [i_eq_iff] at q75; omega
              refine x_iconst (v := (0 : Int32)) C dX10_passes_33 (by decide) ?_
              have sh76 : (seOf u_9).toInt = (f7 4).toInt := by rw [seOf_eq hf7]
              have sq77 := qf7_0 4 (by decide)
              exact J34 u_9 hT_9 (0 : Int32) (by omega) (by omega) (by omega) (by omega) (by omega) (by omega) (by omega) (by omega) (by omega)
            · have rq75 : w74.toInt = (0 : Int32).toInt := by rw [i_eq_iff] at q75; omega
              refine x_iconst (v := (1 : Int32)) C dX10_passes_29 (by decide) ?_
              refine x_goto C 34 dX10_passes_30 (by decide) ?_
              have sh78 : (seOf u_9).toInt = (f7 4).toInt := by rw [seOf_eq hf7]
              have sq79 := qf7_0 4 (by decide)
              have l_1 : (1 : Int32).toInt = 1 := by decide
              exact J34 u_9 hT_9 (1 : Int32) (by omega) (by omega) (by omega) (by omega) (by omega) (by omega) (by omega) (by omega) (by omega)
      refine x_iload_n C 0 dX10_passes_2 rfl rfl ?_
      refine x_iload_n C 2 dX10_passes_3 rfl rfl ?_
      refine x_icmp_ge C 124 dX10_passes_4 (by decide) (fun q80 => ?_) (fun q80 => ?_)
      · have rq80 : x2_2.toInt ≥ a1.toInt := by rw [Int32.le_iff_toInt_le] at q80; omega
        have sh81 : (seOf u_2).toInt = (f4 4).toInt := by rw [seOf_eq hf4]
        have sq82 := qf4_0 4 (by decide)
        exact x_vretP C hr hlk (Nat.le_refl _) (Nat.le_refl _) dX10_passes_124 ⟨hT_2, by omega, rfl⟩
      · have rq80 : x2_2.toInt < a1.toInt := by rw [Int32.le_iff_toInt_le] at q80; omega
        refine x_iconst (v := (0 : Int32)) C dX10_passes_7 (by decide) ?_
        refine x_istore_n C [(3, .int (0 : Int32)), (2, .int x2_2), (0, .ref (z + 134)), (1, .int a1)] dX10_passes_8 rfl (by decide) rfl ?_
        have sh83 : (seOf u_2).toInt = (f4 4).toInt := by rw [seOf_eq hf4]
        have sq84 := qf4_0 4 (by decide)
        have l_0 : (0 : Int32).toInt = 0 := by decide
        exact J9 (7 - (0 : Int32).toInt).toNat u_2 hT_2 (0 : Int32) (by omega) (by omega) (by omega) (by omega) (by omega) (by omega) (by omega) rfl
  refine x_iconst (v := (0 : Int32)) C dX10_passes_0 (by decide) ?_
  refine x_istore_n C [(2, .int (0 : Int32)), (0, .ref (z + 134)), (1, .int a1)] dX10_passes_1 rfl (by decide) rfl ?_
  have sh85 : (seOf uu0).toInt = (f1 4).toInt := by rw [seOf_eq hf1]
  have sq86 := qf1_0 4 (by decide)
  have l_0 : (0 : Int32).toInt = 0 := by decide
  exact J2 (a1.toInt - (0 : Int32).toInt).toNat uu0 hTy0 (0 : Int32) (by omega) (by omega) rfl
set_option maxRecDepth 20000 in
set_option maxHeartbeats 2000000 in
theorem tc_X10_seats {G : GT} {l : Launch} {z n : Nat} {g : Nat → Int} (uu0 : HpT) (hTz0 : TyN G z g uu0) (a1 : Int32) (pre0 : 0 ≤ a1.toInt) (pre1 : a1.toInt ≤ 5) (pre2 : g 0 = 1) : Mp G l z yX10_seats cX10_seats 2 none { frames := 0, cells := 0, slots := 0, locals := 0 } [.ref (z + 134), .int a1] uu0 n (fun r v => TN G z g uu0 v ∧ r = none) := by
  refine mp_of (by decide +kernel) (Nat.le_of_ble_eq_true rfl) ?_
  intro p e s m below meth c C hr hlk hnm
  have hTy0 : TN G z g uu0 uu0 := TN.rf hTz0
  refine x_aload_n C 0 dX10_seats_0 rfl rfl ?_
  obtain ⟨c1_0, c1_2, c1_3, c1_4, c1_5, c1_6, c1_7, c1_8, c1_9, c1_15, c1_16, c1_17, c1_18, c1_25, c1_26, c1_28, c1_30, c1_31, c1_32, c1_34, c1_37, hc1, qc1_0, qc1_1, qc1_2, qc1_3, qc1_4, qc1_5, qc1_6, qc1_7, qc1_8, qc1_9, qc1_10, qc1_11, qc1_12, qc1_13, qc1_14, qc1_15, qc1_16, qc1_17, qc1_18, qc1_19, qc1_20, qc1_21, qc1_22, qc1_23, qc1_24, qc1_25, qc1_26, qc1_27, qc1_28⟩ := tn_134 hTy0
  refine gfX10_47 C dX10_seats_1 hc1 rfl ?_
  refine x_bipush (v := (7 : Int32)) C dX10_seats_4 (by decide) ?_
  refine x_iload_n C 1 dX10_seats_6 rfl rfl ?_
  refine x_iadd C dX10_seats_7 ?_
  have l_7 : (7 : Int32).toInt = 7 := by decide
  refine x_top (fun w2 ew2 => ?_)
  have fw2_0 : w2.toInt = (7 : Int32).toInt + a1.toInt := by rw [ew2]; exact i_add (by omega) (by omega)
  refine x_iconst (v := (1 : Int32)) C dX10_seats_8 (by decide) ?_
  obtain ⟨f3, hf3, qf3_0⟩ := tn_146 hTy0
  have l_1 : (1 : Int32).toInt = 1 := by decide
  have qf4_0 : ∀ j : Nat, j < 25 → (fun (i x : Int) => (i = 4 → -1 ≤ x ∧ x ≤ 6 * g 0 - 1) ∧ (i = 6 → -1 ≤ x ∧ x ≤ 7)) j ((upd f3 w2.toNatClampNeg (1 : Int32)) j).toInt := ap_upd (P := fun (i x : Int) => (i = 4 → -1 ≤ x ∧ x ≤ 6 * g 0 - 1) ∧ (i = 6 → -1 ≤ x ∧ x ≤ 7)) qf3_0 (by omega) (show (w2.toInt = 4 → -1 ≤ (1 : Int32).toInt ∧ (1 : Int32).toInt ≤ 6 * g 0 - 1) ∧ (w2.toInt = 6 → -1 ≤ (1 : Int32).toInt ∧ (1 : Int32).toInt ≤ 7) from by omega)
  refine x_iast C hf3 (i_in (by omega) (by omega)) dX10_seats_9 ?_
  obtain ⟨u5, eu5⟩ : ∃ w : HpT, w = hup uu0 146 (aI G 25 (upd f3 w2.toNatClampNeg (1 : Int32))) := ⟨_, rfl⟩
  refine x_heap (u2 := u5) eu5.symm ?_
  have hTu5 : TN G z g uu0 u5 := by rw [eu5]; exact hTy0.up_146 qf4_0
  have hn7 := (congrFun eu5 146).trans (hup_s _ _ _)
  have s48 : ((upd f3 w2.toNatClampNeg (1 : Int32)) 4).toInt = (f3 4).toInt := by rw [now4_n (by omega) (by omega)]
  generalize (upd f3 w2.toNatClampNeg (1 : Int32)) = f4 at *
  refine x_aload_n C 0 dX10_seats_10 rfl rfl ?_
  have k9 := (congrFun eu5 134).trans (hup_n' (by omega) hc1)
  refine gfX10_47 C dX10_seats_11 k9 rfl ?_
  refine x_iconst (v := (4 : Int32)) C dX10_seats_14 (by decide) ?_
  refine x_iload_n C 1 dX10_seats_15 rfl rfl ?_
  have l_4 : (4 : Int32).toInt = 4 := by decide
  have qf10_0 : ∀ j : Nat, j < 25 → (fun (i x : Int) => (i = 4 → -1 ≤ x ∧ x ≤ 6 * g 0 - 1) ∧ (i = 6 → -1 ≤ x ∧ x ≤ 7)) j ((upd f4 (4 : Int32).toNatClampNeg a1) j).toInt := ap_upd (P := fun (i x : Int) => (i = 4 → -1 ≤ x ∧ x ≤ 6 * g 0 - 1) ∧ (i = 6 → -1 ≤ x ∧ x ≤ 7)) qf4_0 (by omega) (show ((4 : Int32).toInt = 4 → -1 ≤ a1.toInt ∧ a1.toInt ≤ 6 * g 0 - 1) ∧ ((4 : Int32).toInt = 6 → -1 ≤ a1.toInt ∧ a1.toInt ≤ 7) from by omega)
  refine x_iast C hn7 (i_in (by omega) (by omega)) dX10_seats_16 ?_
  obtain ⟨u11, eu11⟩ : ∃ w : HpT, w = hup u5 146 (aI G 25 (upd f4 (4 : Int32).toNatClampNeg a1)) := ⟨_, rfl⟩
  refine x_heap (u2 := u11) eu11.symm ?_
  have hTu11 : TN G z g uu0 u11 := by rw [eu11]; exact hTu5.up_146 qf10_0
  have hn13 := (congrFun eu11 146).trans (hup_s _ _ _)
  have s414 : ((upd f4 (4 : Int32).toNatClampNeg a1) 4).toInt = a1.toInt := by rw [now4_s]
  generalize (upd f4 (4 : Int32).toNatClampNeg a1) = f10 at *
  refine x_aload_n C 0 dX10_seats_17 rfl rfl ?_
  have k15 := (congrFun eu11 134).trans (hup_n' (by omega) k9)
  refine gfX10_47 C dX10_seats_18 k15 rfl ?_
  refine x_iconst (v := (5 : Int32)) C dX10_seats_21 (by decide) ?_
  refine x_iconst (v := (0 : Int32)) C dX10_seats_22 (by decide) ?_
  have l_5 : (5 : Int32).toInt = 5 := by decide
  have l_0 : (0 : Int32).toInt = 0 := by decide
  have qf16_0 : ∀ j : Nat, j < 25 → (fun (i x : Int) => (i = 4 → -1 ≤ x ∧ x ≤ 6 * g 0 - 1) ∧ (i = 6 → -1 ≤ x ∧ x ≤ 7)) j ((upd f10 (5 : Int32).toNatClampNeg (0 : Int32)) j).toInt := ap_upd (P := fun (i x : Int) => (i = 4 → -1 ≤ x ∧ x ≤ 6 * g 0 - 1) ∧ (i = 6 → -1 ≤ x ∧ x ≤ 7)) qf10_0 (by omega) (show ((5 : Int32).toInt = 4 → -1 ≤ (0 : Int32).toInt ∧ (0 : Int32).toInt ≤ 6 * g 0 - 1) ∧ ((5 : Int32).toInt = 6 → -1 ≤ (0 : Int32).toInt ∧ (0 : Int32).toInt ≤ 7) from by omega)
  refine x_iast C hn13 (i_in (by omega) (by omega)) dX10_seats_23 ?_
  obtain ⟨u17, eu17⟩ : ∃ w : HpT, w = hup u11 146 (aI G 25 (upd f10 (5 : Int32).toNatClampNeg (0 : Int32))) := ⟨_, rfl⟩
  refine x_heap (u2 := u17) eu17.symm ?_
  have hTu17 : TN G z g uu0 u17 := by rw [eu17]; exact hTu11.up_146 qf16_0
  have hn19 := (congrFun eu17 146).trans (hup_s _ _ _)
  have s420 : ((upd f10 (5 : Int32).toNatClampNeg (0 : Int32)) 4).toInt = (f10 4).toInt := by rw [now4_n (by omega) (by omega)]
  generalize (upd f10 (5 : Int32).toNatClampNeg (0 : Int32)) = f16 at *
  refine x_aload_n C 0 dX10_seats_24 rfl rfl ?_
  have k21 := (congrFun eu17 134).trans (hup_n' (by omega) k15)
  refine gfX10_47 C dX10_seats_25 k21 rfl ?_
  refine x_bipush (v := (6 : Int32)) C dX10_seats_28 (by decide) ?_
  refine x_iconst (v := (-1 : Int32)) C dX10_seats_30 (by decide) ?_
  have l_6 : (6 : Int32).toInt = 6 := by decide
  have l_m1 : (-1 : Int32).toInt = -1 := by decide
  have qf22_0 : ∀ j : Nat, j < 25 → (fun (i x : Int) => (i = 4 → -1 ≤ x ∧ x ≤ 6 * g 0 - 1) ∧ (i = 6 → -1 ≤ x ∧ x ≤ 7)) j ((upd f16 (6 : Int32).toNatClampNeg (-1 : Int32)) j).toInt := ap_upd (P := fun (i x : Int) => (i = 4 → -1 ≤ x ∧ x ≤ 6 * g 0 - 1) ∧ (i = 6 → -1 ≤ x ∧ x ≤ 7)) qf16_0 (by omega) (show ((6 : Int32).toInt = 4 → -1 ≤ (-1 : Int32).toInt ∧ (-1 : Int32).toInt ≤ 6 * g 0 - 1) ∧ ((6 : Int32).toInt = 6 → -1 ≤ (-1 : Int32).toInt ∧ (-1 : Int32).toInt ≤ 7) from by omega)
  refine x_iast C hn19 (i_in (by omega) (by omega)) dX10_seats_31 ?_
  obtain ⟨u23, eu23⟩ : ∃ w : HpT, w = hup u17 146 (aI G 25 (upd f16 (6 : Int32).toNatClampNeg (-1 : Int32))) := ⟨_, rfl⟩
  refine x_heap (u2 := u23) eu23.symm ?_
  have hTu23 : TN G z g uu0 u23 := by rw [eu23]; exact hTu17.up_146 qf22_0
  have hn25 := (congrFun eu23 146).trans (hup_s _ _ _)
  have s426 : ((upd f16 (6 : Int32).toNatClampNeg (-1 : Int32)) 4).toInt = (f16 4).toInt := by rw [now4_n (by omega) (by omega)]
  generalize (upd f16 (6 : Int32).toNatClampNeg (-1 : Int32)) = f22 at *
  exact x_vretP C hr hlk (Nat.le_refl _) (Nat.le_refl _) dX10_seats_32 ⟨hTu23, rfl⟩
set_option maxRecDepth 20000 in
set_option maxHeartbeats 2000000 in
theorem tc_X10_seat {G : GT} {l : Launch} {z n : Nat} {g : Nat → Int} (uu0 : HpT) (hTz0 : TyN G z g uu0) (a1 : Int32) : Mp G l z yX10_seat cX10_seat 2 (some .int) { frames := 2, cells := 0, slots := 0, locals := 43 } [.ref (z + 134), .int a1] uu0 n (fun r v => TN G z g uu0 v ∧ ∃ x : Int32, r = some (.int x) ∧ True) := by
  refine mp_of (by decide +kernel) (Nat.le_of_ble_eq_true rfl) ?_
  intro p e s m below meth c C hr hlk hnm
  have hTy0 : TN G z g uu0 uu0 := TN.rf hTz0
  have J33 : ∀ (u_33 : HpT) (hT_33 : TN G z g uu0 u_33) (nl_a1_33 : 0 ≤ a1.toInt) (nh_a1_33 : a1.toInt ≤ 5), Xw p l e ({ frames := 2, cells := 0, slots := 0, locals := 43 } : Room) s m ([.ref (z + 134), .int a1] : List Value).toArray below meth c G z 2 (MQ below (Qp G z n (fun r v => TN G z g uu0 v ∧ ∃ x : Int32, r = some (.int x) ∧ True)) ([.ref (z + 134), .int a1] : List Value).toArray s 0 0 (zA z)) 33 [(0, .ref (z + 134)), (1, .int a1)] [] u_33 n 0 0 := by
    intro u_33 hT_33 nl_a1_33 nh_a1_33
    refine x_ldc C kcX10_215 dX10_seat_33 ?_
    have l_m1000000003 : (-1000000003 : Int32).toInt = -1000000003 := by decide
    exact x_iretP C hr hlk (Nat.le_refl _) (Nat.le_refl _) dX10_seat_35 ⟨hT_33, (-1000000003 : Int32), rfl, trivial⟩
  refine x_aload_n C 0 dX10_seat_0 rfl rfl ?_
  refine x_iload_n C 1 dX10_seat_1 rfl rfl ?_
  obtain ⟨c2_0, c2_2, c2_3, c2_4, c2_5, c2_6, c2_7, c2_8, c2_9, c2_15, c2_16, c2_17, c2_18, c2_25, c2_26, c2_28, c2_30, c2_31, c2_32, c2_34, c2_37, hc2, qc2_0, qc2_1, qc2_2, qc2_3, qc2_4, qc2_5, qc2_6, qc2_7, qc2_8, qc2_9, qc2_10, qc2_11, qc2_12, qc2_13, qc2_14, qc2_15, qc2_16, qc2_17, qc2_18, qc2_19, qc2_20, qc2_21, qc2_22, qc2_23, qc2_24, qc2_25, qc2_26, qc2_27, qc2_28⟩ := tn_134 hTy0
  refine x_callVP C cl_X10_isTraveller kmX10_203 (ci := 9) (b := 134) (As := [.int a1]) (rest := []) rfl hc2 (tc_X10_isTraveller uu0 hTy0.1 a1) rfl rfl (Nat.le_of_ble_eq_true rfl) ⟨Nat.le_of_ble_eq_true rfl, Nat.le_of_ble_eq_true rfl⟩ ⟨Nat.le_of_ble_eq_true rfl, Nat.le_of_ble_eq_true rfl⟩ dX10_seat_2 ?_
  rintro _ _ ⟨rfl, r1, rfl, gr1⟩
  refine x_norm (st2 := [.int r1]) rfl rfl rfl rfl rfl ?_
  have l_0 : (0 : Int32).toInt = 0 := by decide
  refine x_if_ne C 11 dX10_seat_5 (by decide) (fun q4 => ?_) (fun q4 => ?_)
  · have rq4 : ¬ r1.toInt = (0 : Int32).toInt := by rw [i_eq_iff] at q4; omega
    refine x_aload_n C 0 dX10_seat_11 rfl rfl ?_
    refine gfX10_47 C dX10_seat_12 hc2 rfl ?_
    refine x_iconst (v := (4 : Int32)) C dX10_seat_15 (by decide) ?_
    obtain ⟨f5, hf5, qf5_0⟩ := tn_146 hTy0
    have l_4 : (4 : Int32).toInt = 4 := by decide
    refine x_iald C hf5 (i_in (by omega) (by omega)) dX10_seat_16 ?_
    refine x_top (fun w6 ew6 => ?_)
    have fw6_0 : ((4 : Int32).toInt = 4 → -1 ≤ w6.toInt ∧ w6.toInt ≤ 6 * g 0 - 1) ∧ ((4 : Int32).toInt = 6 → -1 ≤ w6.toInt ∧ w6.toInt ≤ 7) := by rw [ew6]; exact ap_get (P := fun (i x : Int) => (i = 4 → -1 ≤ x ∧ x ≤ 6 * g 0 - 1) ∧ (i = 6 → -1 ≤ x ∧ x ≤ 7)) qf5_0 (by omega) (by omega)
    have s47 : w6.toInt = (f5 4).toInt := by rw [ew6]; exact congrArg (fun q => (f5 q).toInt) (by decide)
    refine x_iconst (v := (-1 : Int32)) C dX10_seat_17 (by decide) ?_
    have l_m1 : (-1 : Int32).toInt = -1 := by decide
    refine x_icmp_ne C 33 dX10_seat_18 (by decide) (fun q8 => ?_) (fun q8 => ?_)
    · have rq8 : ¬ w6.toInt = (-1 : Int32).toInt := by rw [i_eq_iff] at q8; omega
      exact J33 uu0 hTy0 (by omega) (by omega)
    · have rq8 : w6.toInt = (-1 : Int32).toInt := by rw [i_eq_iff] at q8; omega
      refine x_aload_n C 0 dX10_seat_21 rfl rfl ?_
      refine gfX10_47 C dX10_seat_22 hc2 rfl ?_
      refine x_bipush (v := (7 : Int32)) C dX10_seat_25 (by decide) ?_
      refine x_iload_n C 1 dX10_seat_27 rfl rfl ?_
      refine x_iadd C dX10_seat_28 ?_
      have l_7 : (7 : Int32).toInt = 7 := by decide
      refine x_top (fun w9 ew9 => ?_)
      have fw9_0 : w9.toInt = (7 : Int32).toInt + a1.toInt := by rw [ew9]; exact i_add (by omega) (by omega)
      refine x_iald C hf5 (i_in (by omega) (by omega)) dX10_seat_29 ?_
      refine x_top (fun w10 ew10 => ?_)
      have fw10_0 : (w9.toInt = 4 → -1 ≤ w10.toInt ∧ w10.toInt ≤ 6 * g 0 - 1) ∧ (w9.toInt = 6 → -1 ≤ w10.toInt ∧ w10.toInt ≤ 7) := by rw [ew10]; exact ap_get (P := fun (i x : Int) => (i = 4 → -1 ≤ x ∧ x ≤ 6 * g 0 - 1) ∧ (i = 6 → -1 ≤ x ∧ x ≤ 7)) qf5_0 (by omega) (by omega)
      refine x_if_eq C 36 dX10_seat_30 (by decide) (fun q11 => ?_) (fun q11 => ?_)
      · have rq11 : w10.toInt = (0 : Int32).toInt := by rw [i_eq_iff] at q11; omega
        refine x_aload_n C 0 dX10_seat_36 rfl rfl ?_
        have sh12 : (seOf uu0).toInt = (f5 4).toInt := by rw [seOf_eq hf5]
        have sq13 := qf5_0 4 (by decide)
        refine x_callVP C cl_X10_remember kmX10_216 (ci := 9) (b := 134) (As := []) (rest := []) rfl hc2 (tc_X10_remember uu0 hTy0.1 (by omega)) rfl rfl (Nat.le_of_ble_eq_true rfl) ⟨Nat.le_of_ble_eq_true rfl, Nat.le_of_ble_eq_true rfl⟩ ⟨Nat.le_of_ble_eq_true rfl, Nat.le_of_ble_eq_true rfl⟩ dX10_seat_37 ?_
        rintro _ u14 ⟨ju14, pvu14, rfl⟩
        have hTu14 := hTy0.tr ju14
        refine x_norm (st2 := []) rfl rfl rfl rfl rfl ?_
        refine x_aload_n C 0 dX10_seat_40 rfl rfl ?_
        refine x_iload_n C 1 dX10_seat_41 rfl rfl ?_
        obtain ⟨c15_0, c15_2, c15_3, c15_4, c15_5, c15_6, c15_7, c15_8, c15_9, c15_15, c15_16, c15_17, c15_18, c15_25, c15_26, c15_28, c15_30, c15_31, c15_32, c15_34, c15_37, hc15, qc15_0, qc15_1, qc15_2, qc15_3, qc15_4, qc15_5, qc15_6, qc15_7, qc15_8, qc15_9, qc15_10, qc15_11, qc15_12, qc15_13, qc15_14, qc15_15, qc15_16, qc15_17, qc15_18, qc15_19, qc15_20, qc15_21, qc15_22, qc15_23, qc15_24, qc15_25, qc15_26, qc15_27, qc15_28⟩ := tn_134 hTu14
        refine x_callVP C cl_X10_seats kmX10_219 (ci := 9) (b := 134) (As := [.int a1]) (rest := []) rfl hc15 (tc_X10_seats u14 hTu14.1 a1 (by omega) (by omega) (by omega)) rfl rfl (Nat.le_of_ble_eq_true rfl) ⟨Nat.le_of_ble_eq_true rfl, Nat.le_of_ble_eq_true rfl⟩ ⟨Nat.le_of_ble_eq_true rfl, Nat.le_of_ble_eq_true rfl⟩ dX10_seat_42 ?_
        rintro _ u16 ⟨ju16, rfl⟩
        have hTu16 := hTu14.tr ju16
        refine x_norm (st2 := []) rfl rfl rfl rfl rfl ?_
        refine x_aload_n C 0 dX10_seat_45 rfl rfl ?_
        obtain ⟨c17_0, c17_2, c17_3, c17_4, c17_5, c17_6, c17_7, c17_8, c17_9, c17_15, c17_16, c17_17, c17_18, c17_25, c17_26, c17_28, c17_30, c17_31, c17_32, c17_34, c17_37, hc17, qc17_0, qc17_1, qc17_2, qc17_3, qc17_4, qc17_5, qc17_6, qc17_7, qc17_8, qc17_9, qc17_10, qc17_11, qc17_12, qc17_13, qc17_14, qc17_15, qc17_16, qc17_17, qc17_18, qc17_19, qc17_20, qc17_21, qc17_22, qc17_23, qc17_24, qc17_25, qc17_26, qc17_27, qc17_28⟩ := tn_134 hTu16
        refine gfX10_47 C dX10_seat_46 hc17 rfl ?_
        refine x_bipush (v := (19 : Int32)) C dX10_seat_49 (by decide) ?_
        refine x_iload_n C 1 dX10_seat_51 rfl rfl ?_
        refine x_iadd C dX10_seat_52 ?_
        have l_19 : (19 : Int32).toInt = 19 := by decide
        refine x_top (fun w18 ew18 => ?_)
        have fw18_0 : w18.toInt = (19 : Int32).toInt + a1.toInt := by rw [ew18]; exact i_add (by omega) (by omega)
        obtain ⟨f19, hf19, qf19_0⟩ := tn_146 hTu16
        refine x_iald C hf19 (i_in (by omega) (by omega)) dX10_seat_53 ?_
        refine x_top (fun w20 ew20 => ?_)
        have fw20_0 : (w18.toInt = 4 → -1 ≤ w20.toInt ∧ w20.toInt ≤ 6 * g 0 - 1) ∧ (w18.toInt = 6 → -1 ≤ w20.toInt ∧ w20.toInt ≤ 7) := by rw [ew20]; exact ap_get (P := fun (i x : Int) => (i = 4 → -1 ≤ x ∧ x ≤ 6 * g 0 - 1) ∧ (i = 6 → -1 ≤ x ∧ x ≤ 7)) qf19_0 (by omega) (by omega)
        exact x_iretP C hr hlk (Nat.le_refl _) (Nat.le_refl _) dX10_seat_54 ⟨hTu16, w20, rfl, trivial⟩
      · have rq11 : ¬ w10.toInt = (0 : Int32).toInt := by rw [i_eq_iff] at q11; omega
        exact J33 uu0 hTy0 (by omega) (by omega)
  · have rq4 : r1.toInt = (0 : Int32).toInt := by rw [i_eq_iff] at q4; omega
    refine x_ldc C kcX10_193 dX10_seat_8 ?_
    have l_m1000000001 : (-1000000001 : Int32).toInt = -1000000001 := by decide
    exact x_iretP C hr hlk (Nat.le_refl _) (Nat.le_refl _) dX10_seat_10 ⟨hTy0, (-1000000001 : Int32), rfl, trivial⟩
set_option maxRecDepth 20000 in
set_option maxHeartbeats 2000000 in
theorem tc_X10_rises {G : GT} {l : Launch} {z n : Nat} {g : Nat → Int} (uu0 : HpT) (hTz0 : TyN G z g uu0) (pre0 : 0 ≤ (seOf uu0).toInt) : Mp G l z yX10_rises cX10_rises 4 (some .int) { frames := 1, cells := 0, slots := 0, locals := 21 } [.ref (z + 134)] uu0 n (fun r v => TN G z g uu0 v ∧ ∃ x : Int32, r = some (.int x) ∧ True) := by
  refine mp_of (by decide +kernel) (Nat.le_of_ble_eq_true rfl) ?_
  intro p e s m below meth c C hr hlk hnm
  have hTy0 : TN G z g uu0 uu0 := TN.rf hTz0
  obtain ⟨f1, hf1, qf1_0⟩ := tn_146 hTy0
  have sh2 : (seOf uu0).toInt = (f1 4).toInt := by rw [seOf_eq hf1]
  have sq3 := qf1_0 4 (by decide)
  have J126 : ∀ (u_126 : HpT) (hT_126 : TN G z g uu0 u_126) (x3_126 : Int32) (x2_126 : Int32) (x1_126 : Int32) (hl_x1_126 : 0 ≤ x1_126.toInt) (hh_x1_126 : x1_126.toInt ≤ 5) (y0_126 : Int32) (y1_126 : Int32), Xw p l e ({ frames := 1, cells := 0, slots := 0, locals := 21 } : Room) s m ([.ref (z + 134)] : List Value).toArray below meth c G z 4 (MQ below (Qp G z n (fun r v => TN G z g uu0 v ∧ ∃ x : Int32, r = some (.int x) ∧ True)) ([.ref (z + 134)] : List Value).toArray s 0 0 (zA z)) 126 [(3, .int x3_126), (2, .int x2_126), (1, .int x1_126), (0, .ref (z + 134))] [.int y0_126, .int y1_126, .int (3 : Int32), .ref (z + 146)] u_126 n 0 0 := by
    intro u_126 hT_126 x3_126 x2_126 x1_126 hl_x1_126 hh_x1_126 y0_126 y1_126
    refine x_ior C dX10_rises_126 ?_
    refine x_top (fun w4 ew4 => ?_)
    obtain ⟨f5, hf5, qf5_0⟩ := tn_146 hT_126
    have l_3 : (3 : Int32).toInt = 3 := by decide
    have qf6_0 : ∀ j : Nat, j < 25 → (fun (i x : Int) => (i = 4 → -1 ≤ x ∧ x ≤ 6 * g 0 - 1) ∧ (i = 6 → -1 ≤ x ∧ x ≤ 7)) j ((upd f5 (3 : Int32).toNatClampNeg w4) j).toInt := ap_upd (P := fun (i x : Int) => (i = 4 → -1 ≤ x ∧ x ≤ 6 * g 0 - 1) ∧ (i = 6 → -1 ≤ x ∧ x ≤ 7)) qf5_0 (by omega) (show ((3 : Int32).toInt = 4 → -1 ≤ w4.toInt ∧ w4.toInt ≤ 6 * g 0 - 1) ∧ ((3 : Int32).toInt = 6 → -1 ≤ w4.toInt ∧ w4.toInt ≤ 7) from by omega)
    refine x_iast C hf5 (i_in (by omega) (by omega)) dX10_rises_127 ?_
    obtain ⟨u7, eu7⟩ : ∃ w : HpT, w = hup u_126 146 (aI G 25 (upd f5 (3 : Int32).toNatClampNeg w4)) := ⟨_, rfl⟩
    refine x_heap (u2 := u7) eu7.symm ?_
    have hTu7 : TN G z g uu0 u7 := by rw [eu7]; exact hT_126.up_146 qf6_0
    have hn8 := (congrFun eu7 146).trans (hup_s _ _ _)
    have s49 : ((upd f5 (3 : Int32).toNatClampNeg w4) 4).toInt = (f5 4).toInt := by rw [now4_n (by omega) (by omega)]
    generalize (upd f5 (3 : Int32).toNatClampNeg w4) = f6 at *
    refine x_iload_n C 1 dX10_rises_128 rfl rfl ?_
    exact x_iretP C hr hlk (Nat.le_refl _) (Nat.le_refl _) dX10_rises_129 ⟨hTu7, x2_126, rfl, trivial⟩
  have J52 : ∀ (u_52 : HpT) (hT_52 : TN G z g uu0 u_52) (x2_52 : Int32) (x1_52 : Int32) (hl_x1_52 : 0 ≤ x1_52.toInt) (hh_x1_52 : x1_52.toInt ≤ 5) (y0_52 : Int32), Xw p l e ({ frames := 1, cells := 0, slots := 0, locals := 21 } : Room) s m ([.ref (z + 134)] : List Value).toArray below meth c G z 4 (MQ below (Qp G z n (fun r v => TN G z g uu0 v ∧ ∃ x : Int32, r = some (.int x) ∧ True)) ([.ref (z + 134)] : List Value).toArray s 0 0 (zA z)) 52 [(2, .int x2_52), (1, .int x1_52), (0, .ref (z + 134))] [.int y0_52, .int (2 : Int32), .ref (z + 146)] u_52 n 0 0 := by
    intro u_52 hT_52 x2_52 x1_52 hl_x1_52 hh_x1_52 y0_52
    obtain ⟨f10, hf10, qf10_0⟩ := tn_146 hT_52
    have l_2 : (2 : Int32).toInt = 2 := by decide
    have qf11_0 : ∀ j : Nat, j < 25 → (fun (i x : Int) => (i = 4 → -1 ≤ x ∧ x ≤ 6 * g 0 - 1) ∧ (i = 6 → -1 ≤ x ∧ x ≤ 7)) j ((upd f10 (2 : Int32).toNatClampNeg y0_52) j).toInt := ap_upd (P := fun (i x : Int) => (i = 4 → -1 ≤ x ∧ x ≤ 6 * g 0 - 1) ∧ (i = 6 → -1 ≤ x ∧ x ≤ 7)) qf10_0 (by omega) (show ((2 : Int32).toInt = 4 → -1 ≤ y0_52.toInt ∧ y0_52.toInt ≤ 6 * g 0 - 1) ∧ ((2 : Int32).toInt = 6 → -1 ≤ y0_52.toInt ∧ y0_52.toInt ≤ 7) from by omega)
    refine x_iast C hf10 (i_in (by omega) (by omega)) dX10_rises_52 ?_
    obtain ⟨u12, eu12⟩ : ∃ w : HpT, w = hup u_52 146 (aI G 25 (upd f10 (2 : Int32).toNatClampNeg y0_52)) := ⟨_, rfl⟩
    refine x_heap (u2 := u12) eu12.symm ?_
    have hTu12 : TN G z g uu0 u12 := by rw [eu12]; exact hT_52.up_146 qf11_0
    have hn13 := (congrFun eu12 146).trans (hup_s _ _ _)
    have s414 : ((upd f10 (2 : Int32).toNatClampNeg y0_52) 4).toInt = (f10 4).toInt := by rw [now4_n (by omega) (by omega)]
    generalize (upd f10 (2 : Int32).toNatClampNeg y0_52) = f11 at *
    refine x_aload_n C 2 dX10_rises_53 rfl rfl ?_
    obtain ⟨c15_0, c15_2, c15_3, c15_4, c15_5, c15_6, c15_7, c15_8, c15_9, c15_15, c15_16, c15_17, c15_18, c15_25, c15_26, c15_28, c15_30, c15_31, c15_32, c15_34, c15_37, hc15, qc15_0, qc15_1, qc15_2, qc15_3, qc15_4, qc15_5, qc15_6, qc15_7, qc15_8, qc15_9, qc15_10, qc15_11, qc15_12, qc15_13, qc15_14, qc15_15, qc15_16, qc15_17, qc15_18, qc15_19, qc15_20, qc15_21, qc15_22, qc15_23, qc15_24, qc15_25, qc15_26, qc15_27, qc15_28⟩ := tn_134 hTu12
    refine gfX10_47 C dX10_rises_54 hc15 rfl ?_
    refine x_bipush (v := (7 : Int32)) C dX10_rises_57 (by decide) ?_
    refine x_iload_n C 1 dX10_rises_59 rfl rfl ?_
    refine x_iadd C dX10_rises_60 ?_
    have l_7 : (7 : Int32).toInt = 7 := by decide
    refine x_top (fun w16 ew16 => ?_)
    have fw16_0 : w16.toInt = (7 : Int32).toInt + x1_52.toInt := by rw [ew16]; exact i_add (by omega) (by omega)
    refine x_iconst (v := (2 : Int32)) C dX10_rises_61 (by decide) ?_
    have qf17_0 : ∀ j : Nat, j < 25 → (fun (i x : Int) => (i = 4 → -1 ≤ x ∧ x ≤ 6 * g 0 - 1) ∧ (i = 6 → -1 ≤ x ∧ x ≤ 7)) j ((upd f11 w16.toNatClampNeg (2 : Int32)) j).toInt := ap_upd (P := fun (i x : Int) => (i = 4 → -1 ≤ x ∧ x ≤ 6 * g 0 - 1) ∧ (i = 6 → -1 ≤ x ∧ x ≤ 7)) qf11_0 (by omega) (show (w16.toInt = 4 → -1 ≤ (2 : Int32).toInt ∧ (2 : Int32).toInt ≤ 6 * g 0 - 1) ∧ (w16.toInt = 6 → -1 ≤ (2 : Int32).toInt ∧ (2 : Int32).toInt ≤ 7) from by omega)
    refine x_iast C hn13 (i_in (by omega) (by omega)) dX10_rises_62 ?_
    obtain ⟨u18, eu18⟩ : ∃ w : HpT, w = hup u12 146 (aI G 25 (upd f11 w16.toNatClampNeg (2 : Int32))) := ⟨_, rfl⟩
    refine x_heap (u2 := u18) eu18.symm ?_
    have hTu18 : TN G z g uu0 u18 := by rw [eu18]; exact hTu12.up_146 qf17_0
    have hn20 := (congrFun eu18 146).trans (hup_s _ _ _)
    have s421 : ((upd f11 w16.toNatClampNeg (2 : Int32)) 4).toInt = (f11 4).toInt := by rw [now4_n (by omega) (by omega)]
    generalize (upd f11 w16.toNatClampNeg (2 : Int32)) = f17 at *
    refine x_aload_n C 2 dX10_rises_63 rfl rfl ?_
    have k22 := (congrFun eu18 134).trans (hup_n' (by omega) hc15)
    refine gfX10_47 C dX10_rises_64 k22 rfl ?_
    refine x_iconst (v := (4 : Int32)) C dX10_rises_67 (by decide) ?_
    refine x_iconst (v := (-1 : Int32)) C dX10_rises_68 (by decide) ?_
    have l_4 : (4 : Int32).toInt = 4 := by decide
    have l_m1 : (-1 : Int32).toInt = -1 := by decide
    have qf23_0 : ∀ j : Nat, j < 25 → (fun (i x : Int) => (i = 4 → -1 ≤ x ∧ x ≤ 6 * g 0 - 1) ∧ (i = 6 → -1 ≤ x ∧ x ≤ 7)) j ((upd f17 (4 : Int32).toNatClampNeg (-1 : Int32)) j).toInt := ap_upd (P := fun (i x : Int) => (i = 4 → -1 ≤ x ∧ x ≤ 6 * g 0 - 1) ∧ (i = 6 → -1 ≤ x ∧ x ≤ 7)) qf17_0 (by omega) (show ((4 : Int32).toInt = 4 → -1 ≤ (-1 : Int32).toInt ∧ (-1 : Int32).toInt ≤ 6 * g 0 - 1) ∧ ((4 : Int32).toInt = 6 → -1 ≤ (-1 : Int32).toInt ∧ (-1 : Int32).toInt ≤ 7) from by omega)
    refine x_iast C hn20 (i_in (by omega) (by omega)) dX10_rises_69 ?_
    obtain ⟨u24, eu24⟩ : ∃ w : HpT, w = hup u18 146 (aI G 25 (upd f17 (4 : Int32).toNatClampNeg (-1 : Int32))) := ⟨_, rfl⟩
    refine x_heap (u2 := u24) eu24.symm ?_
    have hTu24 : TN G z g uu0 u24 := by rw [eu24]; exact hTu18.up_146 qf23_0
    have hn26 := (congrFun eu24 146).trans (hup_s _ _ _)
    have s427 : ((upd f17 (4 : Int32).toNatClampNeg (-1 : Int32)) 4).toInt = (-1 : Int32).toInt := by rw [now4_s]
    generalize (upd f17 (4 : Int32).toNatClampNeg (-1 : Int32)) = f23 at *
    refine x_aload_n C 2 dX10_rises_70 rfl rfl ?_
    have k28 := (congrFun eu24 134).trans (hup_n' (by omega) k22)
    refine gfX10_47 C dX10_rises_71 k28 rfl ?_
    refine x_iconst (v := (5 : Int32)) C dX10_rises_74 (by decide) ?_
    refine x_iconst (v := (0 : Int32)) C dX10_rises_75 (by decide) ?_
    have l_5 : (5 : Int32).toInt = 5 := by decide
    have l_0 : (0 : Int32).toInt = 0 := by decide
    have qf29_0 : ∀ j : Nat, j < 25 → (fun (i x : Int) => (i = 4 → -1 ≤ x ∧ x ≤ 6 * g 0 - 1) ∧ (i = 6 → -1 ≤ x ∧ x ≤ 7)) j ((upd f23 (5 : Int32).toNatClampNeg (0 : Int32)) j).toInt := ap_upd (P := fun (i x : Int) => (i = 4 → -1 ≤ x ∧ x ≤ 6 * g 0 - 1) ∧ (i = 6 → -1 ≤ x ∧ x ≤ 7)) qf23_0 (by omega) (show ((5 : Int32).toInt = 4 → -1 ≤ (0 : Int32).toInt ∧ (0 : Int32).toInt ≤ 6 * g 0 - 1) ∧ ((5 : Int32).toInt = 6 → -1 ≤ (0 : Int32).toInt ∧ (0 : Int32).toInt ≤ 7) from by omega)
    refine x_iast C hn26 (i_in (by omega) (by omega)) dX10_rises_76 ?_
    obtain ⟨u30, eu30⟩ : ∃ w : HpT, w = hup u24 146 (aI G 25 (upd f23 (5 : Int32).toNatClampNeg (0 : Int32))) := ⟨_, rfl⟩
    refine x_heap (u2 := u30) eu30.symm ?_
    have hTu30 : TN G z g uu0 u30 := by rw [eu30]; exact hTu24.up_146 qf29_0
    have hn32 := (congrFun eu30 146).trans (hup_s _ _ _)
    have s433 : ((upd f23 (5 : Int32).toNatClampNeg (0 : Int32)) 4).toInt = (f23 4).toInt := by rw [now4_n (by omega) (by omega)]
    generalize (upd f23 (5 : Int32).toNatClampNeg (0 : Int32)) = f29 at *
    refine x_aload_n C 2 dX10_rises_77 rfl rfl ?_
    have k34 := (congrFun eu30 134).trans (hup_n' (by omega) k28)
    refine gfX10_47 C dX10_rises_78 k34 rfl ?_
    refine x_bipush (v := (6 : Int32)) C dX10_rises_81 (by decide) ?_
    refine x_iconst (v := (-1 : Int32)) C dX10_rises_83 (by decide) ?_
    have l_6 : (6 : Int32).toInt = 6 := by decide
    have qf35_0 : ∀ j : Nat, j < 25 → (fun (i x : Int) => (i = 4 → -1 ≤ x ∧ x ≤ 6 * g 0 - 1) ∧ (i = 6 → -1 ≤ x ∧ x ≤ 7)) j ((upd f29 (6 : Int32).toNatClampNeg (-1 : Int32)) j).toInt := ap_upd (P := fun (i x : Int) => (i = 4 → -1 ≤ x ∧ x ≤ 6 * g 0 - 1) ∧ (i = 6 → -1 ≤ x ∧ x ≤ 7)) qf29_0 (by omega) (show ((6 : Int32).toInt = 4 → -1 ≤ (-1 : Int32).toInt ∧ (-1 : Int32).toInt ≤ 6 * g 0 - 1) ∧ ((6 : Int32).toInt = 6 → -1 ≤ (-1 : Int32).toInt ∧ (-1 : Int32).toInt ≤ 7) from by omega)
    refine x_iast C hn32 (i_in (by omega) (by omega)) dX10_rises_84 ?_
    obtain ⟨u36, eu36⟩ : ∃ w : HpT, w = hup u30 146 (aI G 25 (upd f29 (6 : Int32).toNatClampNeg (-1 : Int32))) := ⟨_, rfl⟩
    refine x_heap (u2 := u36) eu36.symm ?_
    have hTu36 : TN G z g uu0 u36 := by rw [eu36]; exact hTu30.up_146 qf35_0
    have hn38 := (congrFun eu36 146).trans (hup_s _ _ _)
    have s439 : ((upd f29 (6 : Int32).toNatClampNeg (-1 : Int32)) 4).toInt = (f29 4).toInt := by rw [now4_n (by omega) (by omega)]
    generalize (upd f29 (6 : Int32).toNatClampNeg (-1 : Int32)) = f35 at *
    refine x_aload_n C 2 dX10_rises_85 rfl rfl ?_
    have k40 := (congrFun eu36 134).trans (hup_n' (by omega) k34)
    refine gfX10_44 C dX10_rises_86 k40 rfl ?_
    refine x_iload_n C 1 dX10_rises_89 rfl rfl ?_
    obtain ⟨f41, hf41⟩ := tn_145 hTu36
    refine x_iald C hf41 (i_in (by omega) (by omega)) dX10_rises_90 ?_
    refine x_top (fun w42 ew42 => ?_)
    refine x_aload_n C 2 dX10_rises_91 rfl rfl ?_
    refine gfX10_47 C dX10_rises_92 k40 rfl ?_
    refine x_iconst (v := (3 : Int32)) C dX10_rises_95 (by decide) ?_
    have l_3 : (3 : Int32).toInt = 3 := by decide
    refine x_iald C hn38 (i_in (by omega) (by omega)) dX10_rises_96 ?_
    refine x_top (fun w43 ew43 => ?_)
    have fw43_0 : ((3 : Int32).toInt = 4 → -1 ≤ w43.toInt ∧ w43.toInt ≤ 6 * g 0 - 1) ∧ ((3 : Int32).toInt = 6 → -1 ≤ w43.toInt ∧ w43.toInt ≤ 7) := by rw [ew43]; exact ap_get (P := fun (i x : Int) => (i = 4 → -1 ≤ x ∧ x ≤ 6 * g 0 - 1) ∧ (i = 6 → -1 ≤ x ∧ x ≤ 7)) qf35_0 (by omega) (by omega)
    refine x_iconst (v := (-1 : Int32)) C dX10_rises_97 (by decide) ?_
    refine x_ixor C dX10_rises_98 ?_
    refine x_top (fun w44 ew44 => ?_)
    refine x_iand C dX10_rises_99 ?_
    refine x_top (fun w45 ew45 => ?_)
    refine x_istore_n C [(3, .int w45), (2, .int x2_52), (1, .int x1_52), (0, .ref (z + 134))] dX10_rises_100 rfl (by decide) rfl ?_
    refine x_aload_n C 3 dX10_rises_101 rfl rfl ?_
    refine gfX10_47 C dX10_rises_102 k40 rfl ?_
    refine x_iconst (v := (3 : Int32)) C dX10_rises_105 (by decide) ?_
    refine x_dup2 C dX10_rises_106 rfl rfl ?_
    refine x_iald C hn38 (i_in (by omega) (by omega)) dX10_rises_107 ?_
    refine x_top (fun w46 ew46 => ?_)
    have fw46_0 : ((3 : Int32).toInt = 4 → -1 ≤ w46.toInt ∧ w46.toInt ≤ 6 * g 0 - 1) ∧ ((3 : Int32).toInt = 6 → -1 ≤ w46.toInt ∧ w46.toInt ≤ 7) := by rw [ew46]; exact ap_get (P := fun (i x : Int) => (i = 4 → -1 ≤ x ∧ x ≤ 6 * g 0 - 1) ∧ (i = 6 → -1 ≤ x ∧ x ≤ 7)) qf35_0 (by omega) (by omega)
    refine x_aload_n C 3 dX10_rises_108 rfl rfl ?_
    refine gfX10_38 C dX10_rises_109 k40 rfl ?_
    refine x_iload_n C 2 dX10_rises_112 rfl rfl ?_
    obtain ⟨f47, hf47⟩ := tn_143 hTu36
    refine x_iald C hf47 (i_in (by omega) (by omega)) dX10_rises_113 ?_
    refine x_top (fun w48 ew48 => ?_)
    refine x_iconst (v := (3 : Int32)) C dX10_rises_114 (by decide) ?_
    refine x_icmp_ne C 125 dX10_rises_115 (by decide) (fun q49 => ?_) (fun q49 => ?_)
    · have rq49 : ¬ w48.toInt = (3 : Int32).toInt := by rw [i_eq_iff] at q49; omega
      refine x_iconst (v := (0 : Int32)) C dX10_rises_125 (by decide) ?_
      exact J126 u36 hTu36 w45 x2_52 x1_52 (by omega) (by omega) (0 : Int32) w46
    · have rq49 : w48.toInt = (3 : Int32).toInt := by rw [i_eq_iff] at q49; omega
      refine x_iload_n C 0 dX10_rises_118 rfl rfl ?_
      refine x_iload_n C 0 dX10_rises_119 rfl rfl ?_
      refine x_ineg C dX10_rises_120 ?_
      refine x_top (fun w50 ew50 => ?_)
      refine x_iand C dX10_rises_121 ?_
      refine x_top (fun w51 ew51 => ?_)
      refine x_goto C 126 dX10_rises_122 (by decide) ?_
      exact J126 u36 hTu36 w45 x2_52 x1_52 (by omega) (by omega) w51 w46
  refine x_aload_n C 0 dX10_rises_0 rfl rfl ?_
  obtain ⟨c52_0, c52_2, c52_3, c52_4, c52_5, c52_6, c52_7, c52_8, c52_9, c52_15, c52_16, c52_17, c52_18, c52_25, c52_26, c52_28, c52_30, c52_31, c52_32, c52_34, c52_37, hc52, qc52_0, qc52_1, qc52_2, qc52_3, qc52_4, qc52_5, qc52_6, qc52_7, qc52_8, qc52_9, qc52_10, qc52_11, qc52_12, qc52_13, qc52_14, qc52_15, qc52_16, qc52_17, qc52_18, qc52_19, qc52_20, qc52_21, qc52_22, qc52_23, qc52_24, qc52_25, qc52_26, qc52_27, qc52_28⟩ := tn_134 hTy0
  refine gfX10_47 C dX10_rises_1 hc52 rfl ?_
  refine x_iconst (v := (4 : Int32)) C dX10_rises_4 (by decide) ?_
  have l_4 : (4 : Int32).toInt = 4 := by decide
  refine x_iald C hf1 (i_in (by omega) (by omega)) dX10_rises_5 ?_
  refine x_top (fun w53 ew53 => ?_)
  have fw53_0 : ((4 : Int32).toInt = 4 → -1 ≤ w53.toInt ∧ w53.toInt ≤ 6 * g 0 - 1) ∧ ((4 : Int32).toInt = 6 → -1 ≤ w53.toInt ∧ w53.toInt ≤ 7) := by rw [ew53]; exact ap_get (P := fun (i x : Int) => (i = 4 → -1 ≤ x ∧ x ≤ 6 * g 0 - 1) ∧ (i = 6 → -1 ≤ x ∧ x ≤ 7)) qf1_0 (by omega) (by omega)
  have s454 : w53.toInt = (f1 4).toInt := by rw [ew53]; exact congrArg (fun q => (f1 q).toInt) (by decide)
  refine x_istore_n C [(1, .int w53), (0, .ref (z + 134))] dX10_rises_6 rfl (by decide) rfl ?_
  refine x_aload_n C 1 dX10_rises_7 rfl rfl ?_
  refine x_aload_n C 1 dX10_rises_8 rfl rfl ?_
  refine gfX10_47 C dX10_rises_9 hc52 rfl ?_
  refine x_bipush (v := (13 : Int32)) C dX10_rises_12 (by decide) ?_
  refine x_iload_n C 0 dX10_rises_14 rfl rfl ?_
  refine x_iadd C dX10_rises_15 ?_
  have l_13 : (13 : Int32).toInt = 13 := by decide
  refine x_top (fun w55 ew55 => ?_)
  have fw55_0 : w55.toInt = (13 : Int32).toInt + w53.toInt := by rw [ew55]; exact i_add (by omega) (by omega)
  refine x_iald C hf1 (i_in (by omega) (by omega)) dX10_rises_16 ?_
  refine x_top (fun w56 ew56 => ?_)
  have fw56_0 : (w55.toInt = 4 → -1 ≤ w56.toInt ∧ w56.toInt ≤ 6 * g 0 - 1) ∧ (w55.toInt = 6 → -1 ≤ w56.toInt ∧ w56.toInt ≤ 7) := by rw [ew56]; exact ap_get (P := fun (i x : Int) => (i = 4 → -1 ≤ x ∧ x ≤ 6 * g 0 - 1) ∧ (i = 6 → -1 ≤ x ∧ x ≤ 7)) qf1_0 (by omega) (by omega)
  refine x_callVP C cl_X10_payFor kmX10_223 (ci := 9) (b := 134) (As := [.int w56]) (rest := []) rfl hc52 (tc_X10_payFor uu0 hTy0.1 w56 (by omega)) rfl rfl (Nat.le_of_ble_eq_true rfl) ⟨Nat.le_of_ble_eq_true rfl, Nat.le_of_ble_eq_true rfl⟩ ⟨Nat.le_of_ble_eq_true rfl, Nat.le_of_ble_eq_true rfl⟩ dX10_rises_17 ?_
  rintro _ _ ⟨rfl, r57, rfl, gr57⟩
  refine x_norm (st2 := [.int r57]) rfl rfl rfl rfl rfl ?_
  refine x_istore_n C [(2, .int r57), (1, .int w53), (0, .ref (z + 134))] dX10_rises_20 rfl (by decide) rfl ?_
  refine x_aload_n C 2 dX10_rises_21 rfl rfl ?_
  refine gfX10_47 C dX10_rises_22 hc52 rfl ?_
  refine x_iconst (v := (2 : Int32)) C dX10_rises_25 (by decide) ?_
  refine x_aload_n C 2 dX10_rises_26 rfl rfl ?_
  refine gfX10_47 C dX10_rises_27 hc52 rfl ?_
  refine x_iconst (v := (2 : Int32)) C dX10_rises_30 (by decide) ?_
  have l_2 : (2 : Int32).toInt = 2 := by decide
  refine x_iald C hf1 (i_in (by omega) (by omega)) dX10_rises_31 ?_
  refine x_top (fun w59 ew59 => ?_)
  have fw59_0 : ((2 : Int32).toInt = 4 → -1 ≤ w59.toInt ∧ w59.toInt ≤ 6 * g 0 - 1) ∧ ((2 : Int32).toInt = 6 → -1 ≤ w59.toInt ∧ w59.toInt ≤ 7) := by rw [ew59]; exact ap_get (P := fun (i x : Int) => (i = 4 → -1 ≤ x ∧ x ≤ 6 * g 0 - 1) ∧ (i = 6 → -1 ≤ x ∧ x ≤ 7)) qf1_0 (by omega) (by omega)
  refine x_iload_n C 0 dX10_rises_32 rfl rfl ?_
  refine x_iadd C dX10_rises_33 ?_
  refine x_top (fun w60 ew60 => ?_)
  refine x_ldc C kcX10_226 dX10_rises_34 ?_
  have l_999999 : (999999 : Int32).toInt = 999999 := by decide
  refine x_icmp_le C 44 dX10_rises_36 (by decide) (fun q61 => ?_) (fun q61 => ?_)
  · have rq61 : w60.toInt ≤ (999999 : Int32).toInt := by rw [Int32.le_iff_toInt_le] at q61; omega
    refine x_aload_n C 2 dX10_rises_44 rfl rfl ?_
    refine gfX10_47 C dX10_rises_45 hc52 rfl ?_
    refine x_iconst (v := (2 : Int32)) C dX10_rises_48 (by decide) ?_
    refine x_iald C hf1 (i_in (by omega) (by omega)) dX10_rises_49 ?_
    refine x_top (fun w62 ew62 => ?_)
    have fw62_0 : ((2 : Int32).toInt = 4 → -1 ≤ w62.toInt ∧ w62.toInt ≤ 6 * g 0 - 1) ∧ ((2 : Int32).toInt = 6 → -1 ≤ w62.toInt ∧ w62.toInt ≤ 7) := by rw [ew62]; exact ap_get (P := fun (i x : Int) => (i = 4 → -1 ≤ x ∧ x ≤ 6 * g 0 - 1) ∧ (i = 6 → -1 ≤ x ∧ x ≤ 7)) qf1_0 (by omega) (by omega)
    refine x_iload_n C 0 dX10_rises_50 rfl rfl ?_
    refine x_iadd C dX10_rises_51 ?_
    refine x_top (fun w63 ew63 => ?_)
    exact J52 uu0 hTy0 r57 w53 (by omega) (by omega) w63
  · have rq61 : w60.toInt > (999999 : Int32).toInt := by rw [Int32.le_iff_toInt_le] at q61; omega
    refine x_ldc C kcX10_226 dX10_rises_39 ?_
    refine x_goto C 52 dX10_rises_41 (by decide) ?_
    exact J52 uu0 hTy0 r57 w53 (by omega) (by omega) (999999 : Int32)
set_option maxRecDepth 20000 in
set_option maxHeartbeats 2000000 in
theorem tc_X10_tells {G : GT} {l : Launch} {z n : Nat} {g : Nat → Int} (uu0 : HpT) (hTz0 : TyN G z g uu0) (a1 : Int32) (pre0 : 0 ≤ a1.toInt) (pre1 : a1.toInt ≤ 7) (pre2 : 0 ≤ (seOf uu0).toInt) : Mp G l z yX10_tells cX10_tells 4 (some .int) { frames := 2, cells := 0, slots := 0, locals := 45 } [.ref (z + 134), .int a1] uu0 n (fun r v => TN G z g uu0 v ∧ ∃ x : Int32, r = some (.int x) ∧ True) := by
  refine mp_of (by decide +kernel) (Nat.le_of_ble_eq_true rfl) ?_
  intro p e s m below meth c C hr hlk hnm
  have hTy0 : TN G z g uu0 uu0 := TN.rf hTz0
  obtain ⟨f1, hf1, qf1_0⟩ := tn_146 hTy0
  have sh2 : (seOf uu0).toInt = (f1 4).toInt := by rw [seOf_eq hf1]
  have sq3 := qf1_0 4 (by decide)
  have J44 : ∀ (u_44 : HpT) (hT_44 : TN G z g uu0 u_44) (x2_44 : Int32) (hl_x2_44 : 0 ≤ x2_44.toInt) (hh_x2_44 : x2_44.toInt ≤ 5), Xw p l e ({ frames := 2, cells := 0, slots := 0, locals := 45 } : Room) s m ([.ref (z + 134), .int a1] : List Value).toArray below meth c G z 4 (MQ below (Qp G z n (fun r v => TN G z g uu0 v ∧ ∃ x : Int32, r = some (.int x) ∧ True)) ([.ref (z + 134), .int a1] : List Value).toArray s 0 0 (zA z)) 44 [(2, .int x2_44), (0, .ref (z + 134)), (1, .int a1)] [] u_44 n 0 0 := by
    intro u_44 hT_44 x2_44 hl_x2_44 hh_x2_44
    refine x_aload_n C 1 dX10_tells_44 rfl rfl ?_
    refine x_iload_n C 0 dX10_tells_45 rfl rfl ?_
    refine x_iload_n C 2 dX10_tells_46 rfl rfl ?_
    obtain ⟨c5_0, c5_2, c5_3, c5_4, c5_5, c5_6, c5_7, c5_8, c5_9, c5_15, c5_16, c5_17, c5_18, c5_25, c5_26, c5_28, c5_30, c5_31, c5_32, c5_34, c5_37, hc5, qc5_0, qc5_1, qc5_2, qc5_3, qc5_4, qc5_5, qc5_6, qc5_7, qc5_8, qc5_9, qc5_10, qc5_11, qc5_12, qc5_13, qc5_14, qc5_15, qc5_16, qc5_17, qc5_18, qc5_19, qc5_20, qc5_21, qc5_22, qc5_23, qc5_24, qc5_25, qc5_26, qc5_27, qc5_28⟩ := tn_134 hT_44
    refine x_callVP C cl_X10_stayOf kmX10_200 (ci := 9) (b := 134) (As := [.int x2_44, .int a1]) (rest := []) rfl hc5 (tc_X10_stayOf u_44 hT_44.1 x2_44 a1 (by omega) (by omega) (by omega) (by omega)) rfl rfl (Nat.le_of_ble_eq_true rfl) ⟨Nat.le_of_ble_eq_true rfl, Nat.le_of_ble_eq_true rfl⟩ ⟨Nat.le_of_ble_eq_true rfl, Nat.le_of_ble_eq_true rfl⟩ dX10_tells_47 ?_
    rintro _ _ ⟨rfl, r4, rfl, gr4⟩
    refine x_norm (st2 := [.int r4]) rfl rfl rfl rfl rfl ?_
    refine x_istore_n C [(3, .int r4), (2, .int x2_44), (0, .ref (z + 134)), (1, .int a1)] dX10_tells_50 rfl (by decide) rfl ?_
    refine x_aload_n C 2 dX10_tells_51 rfl rfl ?_
    refine gfX10_47 C dX10_tells_52 hc5 rfl ?_
    refine x_iconst (v := (5 : Int32)) C dX10_tells_55 (by decide) ?_
    refine x_dup2 C dX10_tells_56 rfl rfl ?_
    obtain ⟨f7, hf7, qf7_0⟩ := tn_146 hT_44
    have l_5 : (5 : Int32).toInt = 5 := by decide
    refine x_iald C hf7 (i_in (by omega) (by omega)) dX10_tells_57 ?_
    refine x_top (fun w8 ew8 => ?_)
    have fw8_0 : ((5 : Int32).toInt = 4 → -1 ≤ w8.toInt ∧ w8.toInt ≤ 6 * g 0 - 1) ∧ ((5 : Int32).toInt = 6 → -1 ≤ w8.toInt ∧ w8.toInt ≤ 7) := by rw [ew8]; exact ap_get (P := fun (i x : Int) => (i = 4 → -1 ≤ x ∧ x ≤ 6 * g 0 - 1) ∧ (i = 6 → -1 ≤ x ∧ x ≤ 7)) qf7_0 (by omega) (by omega)
    refine x_iconst (v := (1 : Int32)) C dX10_tells_58 (by decide) ?_
    refine x_iload_n C 3 dX10_tells_59 rfl rfl ?_
    refine x_ishl C dX10_tells_60 ?_
    have l_1 : (1 : Int32).toInt = 1 := by decide
    refine x_top (fun w9 ew9 => ?_)
    refine x_ior C dX10_tells_61 ?_
    refine x_top (fun w10 ew10 => ?_)
    have qf11_0 : ∀ j : Nat, j < 25 → (fun (i x : Int) => (i = 4 → -1 ≤ x ∧ x ≤ 6 * g 0 - 1) ∧ (i = 6 → -1 ≤ x ∧ x ≤ 7)) j ((upd f7 (5 : Int32).toNatClampNeg w10) j).toInt := ap_upd (P := fun (i x : Int) => (i = 4 → -1 ≤ x ∧ x ≤ 6 * g 0 - 1) ∧ (i = 6 → -1 ≤ x ∧ x ≤ 7)) qf7_0 (by omega) (show ((5 : Int32).toInt = 4 → -1 ≤ w10.toInt ∧ w10.toInt ≤ 6 * g 0 - 1) ∧ ((5 : Int32).toInt = 6 → -1 ≤ w10.toInt ∧ w10.toInt ≤ 7) from by omega)
    refine x_iast C hf7 (i_in (by omega) (by omega)) dX10_tells_62 ?_
    obtain ⟨u12, eu12⟩ : ∃ w : HpT, w = hup u_44 146 (aI G 25 (upd f7 (5 : Int32).toNatClampNeg w10)) := ⟨_, rfl⟩
    refine x_heap (u2 := u12) eu12.symm ?_
    have hTu12 : TN G z g uu0 u12 := by rw [eu12]; exact hT_44.up_146 qf11_0
    have hn14 := (congrFun eu12 146).trans (hup_s _ _ _)
    have s415 : ((upd f7 (5 : Int32).toNatClampNeg w10) 4).toInt = (f7 4).toInt := by rw [now4_n (by omega) (by omega)]
    generalize (upd f7 (5 : Int32).toNatClampNeg w10) = f11 at *
    refine x_aload_n C 2 dX10_tells_63 rfl rfl ?_
    have k16 := (congrFun eu12 134).trans (hup_n' (by omega) hc5)
    refine gfX10_47 C dX10_tells_64 k16 rfl ?_
    refine x_bipush (v := (6 : Int32)) C dX10_tells_67 (by decide) ?_
    refine x_iload_n C 3 dX10_tells_69 rfl rfl ?_
    have l_6 : (6 : Int32).toInt = 6 := by decide
    have qf17_0 : ∀ j : Nat, j < 25 → (fun (i x : Int) => (i = 4 → -1 ≤ x ∧ x ≤ 6 * g 0 - 1) ∧ (i = 6 → -1 ≤ x ∧ x ≤ 7)) j ((upd f11 (6 : Int32).toNatClampNeg a1) j).toInt := ap_upd (P := fun (i x : Int) => (i = 4 → -1 ≤ x ∧ x ≤ 6 * g 0 - 1) ∧ (i = 6 → -1 ≤ x ∧ x ≤ 7)) qf11_0 (by omega) (show ((6 : Int32).toInt = 4 → -1 ≤ a1.toInt ∧ a1.toInt ≤ 6 * g 0 - 1) ∧ ((6 : Int32).toInt = 6 → -1 ≤ a1.toInt ∧ a1.toInt ≤ 7) from by omega)
    refine x_iast C hn14 (i_in (by omega) (by omega)) dX10_tells_70 ?_
    obtain ⟨u18, eu18⟩ : ∃ w : HpT, w = hup u12 146 (aI G 25 (upd f11 (6 : Int32).toNatClampNeg a1)) := ⟨_, rfl⟩
    refine x_heap (u2 := u18) eu18.symm ?_
    have hTu18 : TN G z g uu0 u18 := by rw [eu18]; exact hTu12.up_146 qf17_0
    have hn20 := (congrFun eu18 146).trans (hup_s _ _ _)
    have s421 : ((upd f11 (6 : Int32).toNatClampNeg a1) 4).toInt = (f11 4).toInt := by rw [now4_n (by omega) (by omega)]
    generalize (upd f11 (6 : Int32).toNatClampNeg a1) = f17 at *
    refine x_aload_n C 2 dX10_tells_71 rfl rfl ?_
    have k22 := (congrFun eu18 134).trans (hup_n' (by omega) k16)
    refine gfX10_47 C dX10_tells_72 k22 rfl ?_
    refine x_bipush (v := (13 : Int32)) C dX10_tells_75 (by decide) ?_
    refine x_iload_n C 1 dX10_tells_77 rfl rfl ?_
    refine x_iadd C dX10_tells_78 ?_
    have l_13 : (13 : Int32).toInt = 13 := by decide
    refine x_top (fun w23 ew23 => ?_)
    have fw23_0 : w23.toInt = (13 : Int32).toInt + x2_44.toInt := by rw [ew23]; exact i_add (by omega) (by omega)
    refine x_dup2 C dX10_tells_79 rfl rfl ?_
    refine x_iald C hn20 (i_in (by omega) (by omega)) dX10_tells_80 ?_
    refine x_top (fun w24 ew24 => ?_)
    have fw24_0 : (w23.toInt = 4 → -1 ≤ w24.toInt ∧ w24.toInt ≤ 6 * g 0 - 1) ∧ (w23.toInt = 6 → -1 ≤ w24.toInt ∧ w24.toInt ≤ 7) := by rw [ew24]; exact ap_get (P := fun (i x : Int) => (i = 4 → -1 ≤ x ∧ x ≤ 6 * g 0 - 1) ∧ (i = 6 → -1 ≤ x ∧ x ≤ 7)) qf17_0 (by omega) (by omega)
    refine x_iload_n C 0 dX10_tells_81 rfl rfl ?_
    refine x_iadd C dX10_tells_82 ?_
    refine x_top (fun w25 ew25 => ?_)
    have qf26_0 : ∀ j : Nat, j < 25 → (fun (i x : Int) => (i = 4 → -1 ≤ x ∧ x ≤ 6 * g 0 - 1) ∧ (i = 6 → -1 ≤ x ∧ x ≤ 7)) j ((upd f17 w23.toNatClampNeg w25) j).toInt := ap_upd (P := fun (i x : Int) => (i = 4 → -1 ≤ x ∧ x ≤ 6 * g 0 - 1) ∧ (i = 6 → -1 ≤ x ∧ x ≤ 7)) qf17_0 (by omega) (show (w23.toInt = 4 → -1 ≤ w25.toInt ∧ w25.toInt ≤ 6 * g 0 - 1) ∧ (w23.toInt = 6 → -1 ≤ w25.toInt ∧ w25.toInt ≤ 7) from by omega)
    refine x_iast C hn20 (i_in (by omega) (by omega)) dX10_tells_83 ?_
    obtain ⟨u27, eu27⟩ : ∃ w : HpT, w = hup u18 146 (aI G 25 (upd f17 w23.toNatClampNeg w25)) := ⟨_, rfl⟩
    refine x_heap (u2 := u27) eu27.symm ?_
    have hTu27 : TN G z g uu0 u27 := by rw [eu27]; exact hTu18.up_146 qf26_0
    have hn29 := (congrFun eu27 146).trans (hup_s _ _ _)
    have s430 : ((upd f17 w23.toNatClampNeg w25) 4).toInt = (f17 4).toInt := by rw [now4_n (by omega) (by omega)]
    generalize (upd f17 w23.toNatClampNeg w25) = f26 at *
    refine x_aload_n C 2 dX10_tells_84 rfl rfl ?_
    refine x_iload_n C 0 dX10_tells_85 rfl rfl ?_
    have sh31 : (seOf u27).toInt = (f26 4).toInt := by rw [seOf_eq hn29]
    have sq32 := qf26_0 4 (by decide)
    have k33 := (congrFun eu27 134).trans (hup_n' (by omega) k22)
    refine x_callVP C cl_X10_passes kmX10_230 (ci := 9) (b := 134) (As := [.int r4]) (rest := []) rfl k33 (tc_X10_passes u27 hTu27.1 r4) rfl rfl (Nat.le_of_ble_eq_true rfl) ⟨Nat.le_of_ble_eq_true rfl, Nat.le_of_ble_eq_true rfl⟩ ⟨Nat.le_of_ble_eq_true rfl, Nat.le_of_ble_eq_true rfl⟩ dX10_tells_86 ?_
    rintro _ u34 ⟨ju34, pvu34, rfl⟩
    have hTu34 := hTu27.tr ju34
    refine x_norm (st2 := []) rfl rfl rfl rfl rfl ?_
    refine x_iload_n C 0 dX10_tells_89 rfl rfl ?_
    exact x_iretP C hr hlk (Nat.le_refl _) (Nat.le_refl _) dX10_tells_90 ⟨hTu34, r4, rfl, trivial⟩
  refine x_aload_n C 0 dX10_tells_0 rfl rfl ?_
  obtain ⟨c35_0, c35_2, c35_3, c35_4, c35_5, c35_6, c35_7, c35_8, c35_9, c35_15, c35_16, c35_17, c35_18, c35_25, c35_26, c35_28, c35_30, c35_31, c35_32, c35_34, c35_37, hc35, qc35_0, qc35_1, qc35_2, qc35_3, qc35_4, qc35_5, qc35_6, qc35_7, qc35_8, qc35_9, qc35_10, qc35_11, qc35_12, qc35_13, qc35_14, qc35_15, qc35_16, qc35_17, qc35_18, qc35_19, qc35_20, qc35_21, qc35_22, qc35_23, qc35_24, qc35_25, qc35_26, qc35_27, qc35_28⟩ := tn_134 hTy0
  refine gfX10_47 C dX10_tells_1 hc35 rfl ?_
  refine x_iconst (v := (4 : Int32)) C dX10_tells_4 (by decide) ?_
  have l_4 : (4 : Int32).toInt = 4 := by decide
  refine x_iald C hf1 (i_in (by omega) (by omega)) dX10_tells_5 ?_
  refine x_top (fun w36 ew36 => ?_)
  have fw36_0 : ((4 : Int32).toInt = 4 → -1 ≤ w36.toInt ∧ w36.toInt ≤ 6 * g 0 - 1) ∧ ((4 : Int32).toInt = 6 → -1 ≤ w36.toInt ∧ w36.toInt ≤ 7) := by rw [ew36]; exact ap_get (P := fun (i x : Int) => (i = 4 → -1 ≤ x ∧ x ≤ 6 * g 0 - 1) ∧ (i = 6 → -1 ≤ x ∧ x ≤ 7)) qf1_0 (by omega) (by omega)
  have s437 : w36.toInt = (f1 4).toInt := by rw [ew36]; exact congrArg (fun q => (f1 q).toInt) (by decide)
  refine x_istore_n C [(2, .int w36), (0, .ref (z + 134)), (1, .int a1)] dX10_tells_6 rfl (by decide) rfl ?_
  refine x_aload_n C 1 dX10_tells_7 rfl rfl ?_
  refine gfX10_47 C dX10_tells_8 hc35 rfl ?_
  refine x_bipush (v := (6 : Int32)) C dX10_tells_11 (by decide) ?_
  have l_6 : (6 : Int32).toInt = 6 := by decide
  refine x_iald C hf1 (i_in (by omega) (by omega)) dX10_tells_13 ?_
  refine x_top (fun w38 ew38 => ?_)
  have fw38_0 : ((6 : Int32).toInt = 4 → -1 ≤ w38.toInt ∧ w38.toInt ≤ 6 * g 0 - 1) ∧ ((6 : Int32).toInt = 6 → -1 ≤ w38.toInt ∧ w38.toInt ≤ 7) := by rw [ew38]; exact ap_get (P := fun (i x : Int) => (i = 4 → -1 ≤ x ∧ x ≤ 6 * g 0 - 1) ∧ (i = 6 → -1 ≤ x ∧ x ≤ 7)) qf1_0 (by omega) (by omega)
  have s439 : w38.toInt = (f1 6).toInt := by rw [ew38]; exact congrArg (fun q => (f1 q).toInt) (by decide)
  refine x_iconst (v := (-1 : Int32)) C dX10_tells_14 (by decide) ?_
  have l_m1 : (-1 : Int32).toInt = -1 := by decide
  refine x_icmp_eq C 44 dX10_tells_15 (by decide) (fun q40 => ?_) (fun q40 => ?_)
  · have rq40 : w38.toInt = (-1 : Int32).toInt := by rw [i_eq_iff] at q40; omega
    exact J44 uu0 hTy0 w36 (by omega) (by omega)
  · have rq40 : ¬ w38.toInt = (-1 : Int32).toInt := by rw [i_eq_iff] at q40; omega
    refine x_aload_n C 1 dX10_tells_18 rfl rfl ?_
    refine gfX10_35 C dX10_tells_19 hc35 rfl ?_
    refine x_aload_n C 1 dX10_tells_22 rfl rfl ?_
    refine gfX10_47 C dX10_tells_23 hc35 rfl ?_
    refine x_bipush (v := (6 : Int32)) C dX10_tells_26 (by decide) ?_
    refine x_iald C hf1 (i_in (by omega) (by omega)) dX10_tells_28 ?_
    refine x_top (fun w41 ew41 => ?_)
    have fw41_0 : ((6 : Int32).toInt = 4 → -1 ≤ w41.toInt ∧ w41.toInt ≤ 6 * g 0 - 1) ∧ ((6 : Int32).toInt = 6 → -1 ≤ w41.toInt ∧ w41.toInt ≤ 7) := by rw [ew41]; exact ap_get (P := fun (i x : Int) => (i = 4 → -1 ≤ x ∧ x ≤ 6 * g 0 - 1) ∧ (i = 6 → -1 ≤ x ∧ x ≤ 7)) qf1_0 (by omega) (by omega)
    have s442 : w41.toInt = (f1 6).toInt := by rw [ew41]; exact congrArg (fun q => (f1 q).toInt) (by decide)
    obtain ⟨f43, hf43⟩ := tn_142 hTy0
    refine x_iald C hf43 (i_in (by omega) (by omega)) dX10_tells_29 ?_
    refine x_top (fun w44 ew44 => ?_)
    refine x_iload_n C 2 dX10_tells_30 rfl rfl ?_
    refine x_callSP C cl_X10_has kmX10_168 (As := [.int w44, .int a1]) (rest := []) (tc_X10_has uu0 hTy0.1 w44 a1) rfl rfl (Nat.le_of_ble_eq_true rfl) ⟨Nat.le_of_ble_eq_true rfl, Nat.le_of_ble_eq_true rfl⟩ ⟨Nat.le_of_ble_eq_true rfl, Nat.le_of_ble_eq_true rfl⟩ dX10_tells_31 ?_
    rintro _ _ ⟨rfl, r45, rfl, gr45⟩
    refine x_norm (st2 := [.int r45]) rfl rfl rfl rfl rfl ?_
    have l_0 : (0 : Int32).toInt = 0 := by decide
    refine x_if_ne C 44 dX10_tells_34 (by decide) (fun q47 => ?_) (fun q47 => ?_)
    · have rq47 : ¬ r45.toInt = (0 : Int32).toInt := by rw [i_eq_iff] at q47; omega
      exact J44 uu0 hTy0 w36 (by omega) (by omega)
    · have rq47 : r45.toInt = (0 : Int32).toInt := by rw [i_eq_iff] at q47; omega
      refine x_aload_n C 1 dX10_tells_37 rfl rfl ?_
      have sh49 : (seOf uu0).toInt = (f1 4).toInt := by rw [seOf_eq hf1]
      have sq50 := qf1_0 4 (by decide)
      refine x_callVP C cl_X10_rises kmX10_227 (ci := 9) (b := 134) (As := []) (rest := []) rfl hc35 (tc_X10_rises uu0 hTy0.1 (by omega)) rfl rfl (Nat.le_of_ble_eq_true rfl) ⟨Nat.le_of_ble_eq_true rfl, Nat.le_of_ble_eq_true rfl⟩ ⟨Nat.le_of_ble_eq_true rfl, Nat.le_of_ble_eq_true rfl⟩ dX10_tells_38 ?_
      rintro _ u51 ⟨ju51, r48, rfl, gr48⟩
      have hTu51 := hTy0.tr ju51
      refine x_norm (st2 := [.int r48]) rfl rfl rfl rfl rfl ?_
      refine x_pop C dX10_tells_41 rfl ?_
      refine x_iconst (v := (-1 : Int32)) C dX10_tells_42 (by decide) ?_
      exact x_iretP C hr hlk (Nat.le_refl _) (Nat.le_refl _) dX10_tells_43 ⟨hTu51, (-1 : Int32), rfl, trivial⟩
set_option maxRecDepth 20000 in
set_option maxHeartbeats 2000000 in
theorem tc_X10_isTellable {G : GT} {l : Launch} {z n : Nat} {g : Nat → Int} (uu0 : HpT) (hTz0 : TyN G z g uu0) (a1 : Int32) : Mp G l z yX10_isTellable cX10_isTellable 2 (some .boolean) { frames := 1, cells := 0, slots := 0, locals := 21 } [.ref (z + 134), .int a1] uu0 n (fun r v => uu0 = v ∧ ∃ x : Int32, r = some (.int x) ∧ 0 ≤ x.toInt ∧ x.toInt ≤ 1 ∧ (x.toInt = 0 ∨ 0 ≤ (seOf uu0).toInt)) := by
  refine mp_of (by decide +kernel) (Nat.le_of_ble_eq_true rfl) ?_
  intro p e s m below meth c C hr hlk hnm
  have hTy0 : TN G z g uu0 uu0 := TN.rf hTz0
  obtain ⟨f1, hf1, qf1_0⟩ := tn_146 hTy0
  have sh2 : (seOf uu0).toInt = (f1 4).toInt := by rw [seOf_eq hf1]
  have sq3 := qf1_0 4 (by decide)
  have J40 : Xw p l e ({ frames := 1, cells := 0, slots := 0, locals := 21 } : Room) s m ([.ref (z + 134), .int a1] : List Value).toArray below meth c G z 2 (MQ below (Qp G z n (fun r v => uu0 = v ∧ ∃ x : Int32, r = some (.int x) ∧ 0 ≤ x.toInt ∧ x.toInt ≤ 1 ∧ (x.toInt = 0 ∨ 0 ≤ (seOf uu0).toInt))) ([.ref (z + 134), .int a1] : List Value).toArray s 0 0 (zA z)) 40 [(0, .ref (z + 134)), (1, .int a1)] [] uu0 n 0 0 := by
    refine x_iconst (v := (0 : Int32)) C dX10_isTellable_40 (by decide) ?_
    have l_0 : (0 : Int32).toInt = 0 := by decide
    exact x_zretP C hr hlk (Nat.le_refl _) (Nat.le_refl _) dX10_isTellable_41 (i_bool (by omega)) ⟨rfl, (0 : Int32), rfl, by omega⟩
  refine x_aload_n C 0 dX10_isTellable_0 rfl rfl ?_
  obtain ⟨c4_0, c4_2, c4_3, c4_4, c4_5, c4_6, c4_7, c4_8, c4_9, c4_15, c4_16, c4_17, c4_18, c4_25, c4_26, c4_28, c4_30, c4_31, c4_32, c4_34, c4_37, hc4, qc4_0, qc4_1, qc4_2, qc4_3, qc4_4, qc4_5, qc4_6, qc4_7, qc4_8, qc4_9, qc4_10, qc4_11, qc4_12, qc4_13, qc4_14, qc4_15, qc4_16, qc4_17, qc4_18, qc4_19, qc4_20, qc4_21, qc4_22, qc4_23, qc4_24, qc4_25, qc4_26, qc4_27, qc4_28⟩ := tn_134 hTy0
  refine gfX10_47 C dX10_isTellable_1 hc4 rfl ?_
  refine x_iconst (v := (4 : Int32)) C dX10_isTellable_4 (by decide) ?_
  have l_4 : (4 : Int32).toInt = 4 := by decide
  refine x_iald C hf1 (i_in (by omega) (by omega)) dX10_isTellable_5 ?_
  refine x_top (fun w5 ew5 => ?_)
  have fw5_0 : ((4 : Int32).toInt = 4 → -1 ≤ w5.toInt ∧ w5.toInt ≤ 6 * g 0 - 1) ∧ ((4 : Int32).toInt = 6 → -1 ≤ w5.toInt ∧ w5.toInt ≤ 7) := by rw [ew5]; exact ap_get (P := fun (i x : Int) => (i = 4 → -1 ≤ x ∧ x ≤ 6 * g 0 - 1) ∧ (i = 6 → -1 ≤ x ∧ x ≤ 7)) qf1_0 (by omega) (by omega)
  have s46 : w5.toInt = (f1 4).toInt := by rw [ew5]; exact congrArg (fun q => (f1 q).toInt) (by decide)
  refine x_iconst (v := (-1 : Int32)) C dX10_isTellable_6 (by decide) ?_
  have l_m1 : (-1 : Int32).toInt = -1 := by decide
  refine x_icmp_eq C 40 dX10_isTellable_7 (by decide) (fun q7 => ?_) (fun q7 => ?_)
  · have rq7 : w5.toInt = (-1 : Int32).toInt := by rw [i_eq_iff] at q7; omega
    exact J40  
  · have rq7 : ¬ w5.toInt = (-1 : Int32).toInt := by rw [i_eq_iff] at q7; omega
    refine x_aload_n C 0 dX10_isTellable_10 rfl rfl ?_
    refine gfX10_47 C dX10_isTellable_11 hc4 rfl ?_
    refine x_iconst (v := (3 : Int32)) C dX10_isTellable_14 (by decide) ?_
    have l_3 : (3 : Int32).toInt = 3 := by decide
    refine x_iald C hf1 (i_in (by omega) (by omega)) dX10_isTellable_15 ?_
    refine x_top (fun w8 ew8 => ?_)
    have fw8_0 : ((3 : Int32).toInt = 4 → -1 ≤ w8.toInt ∧ w8.toInt ≤ 6 * g 0 - 1) ∧ ((3 : Int32).toInt = 6 → -1 ≤ w8.toInt ∧ w8.toInt ≤ 7) := by rw [ew8]; exact ap_get (P := fun (i x : Int) => (i = 4 → -1 ≤ x ∧ x ≤ 6 * g 0 - 1) ∧ (i = 6 → -1 ≤ x ∧ x ≤ 7)) qf1_0 (by omega) (by omega)
    refine x_iload_n C 1 dX10_isTellable_16 rfl rfl ?_
    refine x_callSP C cl_X10_has kmX10_168 (As := [.int w8, .int a1]) (rest := []) (tc_X10_has uu0 hTy0.1 w8 a1) rfl rfl (Nat.le_of_ble_eq_true rfl) ⟨Nat.le_of_ble_eq_true rfl, Nat.le_of_ble_eq_true rfl⟩ ⟨Nat.le_of_ble_eq_true rfl, Nat.le_of_ble_eq_true rfl⟩ dX10_isTellable_17 ?_
    rintro _ _ ⟨rfl, r9, rfl, gr9⟩
    refine x_norm (st2 := [.int r9]) rfl rfl rfl rfl rfl ?_
    have l_0 : (0 : Int32).toInt = 0 := by decide
    refine x_if_eq C 40 dX10_isTellable_20 (by decide) (fun q11 => ?_) (fun q11 => ?_)
    · have rq11 : r9.toInt = (0 : Int32).toInt := by rw [i_eq_iff] at q11; omega
      exact J40  
    · have rq11 : ¬ r9.toInt = (0 : Int32).toInt := by rw [i_eq_iff] at q11; omega
      refine x_aload_n C 0 dX10_isTellable_23 rfl rfl ?_
      refine gfX10_47 C dX10_isTellable_24 hc4 rfl ?_
      refine x_iconst (v := (5 : Int32)) C dX10_isTellable_27 (by decide) ?_
      have l_5 : (5 : Int32).toInt = 5 := by decide
      refine x_iald C hf1 (i_in (by omega) (by omega)) dX10_isTellable_28 ?_
      refine x_top (fun w12 ew12 => ?_)
      have fw12_0 : ((5 : Int32).toInt = 4 → -1 ≤ w12.toInt ∧ w12.toInt ≤ 6 * g 0 - 1) ∧ ((5 : Int32).toInt = 6 → -1 ≤ w12.toInt ∧ w12.toInt ≤ 7) := by rw [ew12]; exact ap_get (P := fun (i x : Int) => (i = 4 → -1 ≤ x ∧ x ≤ 6 * g 0 - 1) ∧ (i = 6 → -1 ≤ x ∧ x ≤ 7)) qf1_0 (by omega) (by omega)
      refine x_iload_n C 1 dX10_isTellable_29 rfl rfl ?_
      refine x_callSP C cl_X10_has kmX10_168 (As := [.int w12, .int a1]) (rest := []) (tc_X10_has uu0 hTy0.1 w12 a1) rfl rfl (Nat.le_of_ble_eq_true rfl) ⟨Nat.le_of_ble_eq_true rfl, Nat.le_of_ble_eq_true rfl⟩ ⟨Nat.le_of_ble_eq_true rfl, Nat.le_of_ble_eq_true rfl⟩ dX10_isTellable_30 ?_
      rintro _ _ ⟨rfl, r13, rfl, gr13⟩
      refine x_norm (st2 := [.int r13]) rfl rfl rfl rfl rfl ?_
      refine x_if_ne C 40 dX10_isTellable_33 (by decide) (fun q15 => ?_) (fun q15 => ?_)
      · have rq15 : ¬ r13.toInt = (0 : Int32).toInt := by rw [i_eq_iff] at q15; omega
        exact J40  
      · have rq15 : r13.toInt = (0 : Int32).toInt := by rw [i_eq_iff] at q15; omega
        refine x_iconst (v := (1 : Int32)) C dX10_isTellable_36 (by decide) ?_
        refine x_goto C 41 dX10_isTellable_37 (by decide) ?_
        have l_1 : (1 : Int32).toInt = 1 := by decide
        exact x_zretP C hr hlk (Nat.le_refl _) (Nat.le_refl _) dX10_isTellable_41 (i_bool (by omega)) ⟨rfl, (1 : Int32), rfl, by omega⟩
set_option maxRecDepth 20000 in
set_option maxHeartbeats 2000000 in
theorem tc_X10_tell {G : GT} {l : Launch} {z n : Nat} {g : Nat → Int} (uu0 : HpT) (hTz0 : TyN G z g uu0) (a1 : Int32) : Mp G l z yX10_tell cX10_tell 2 (some .int) { frames := 3, cells := 0, slots := 0, locals := 68 } [.ref (z + 134), .int a1] uu0 n (fun r v => TN G z g uu0 v ∧ ∃ x : Int32, r = some (.int x) ∧ True) := by
  refine mp_of (by decide +kernel) (Nat.le_of_ble_eq_true rfl) ?_
  intro p e s m below meth c C hr hlk hnm
  have hTy0 : TN G z g uu0 uu0 := TN.rf hTz0
  refine x_aload_n C 0 dX10_tell_0 rfl rfl ?_
  refine x_iload_n C 1 dX10_tell_1 rfl rfl ?_
  obtain ⟨c2_0, c2_2, c2_3, c2_4, c2_5, c2_6, c2_7, c2_8, c2_9, c2_15, c2_16, c2_17, c2_18, c2_25, c2_26, c2_28, c2_30, c2_31, c2_32, c2_34, c2_37, hc2, qc2_0, qc2_1, qc2_2, qc2_3, qc2_4, qc2_5, qc2_6, qc2_7, qc2_8, qc2_9, qc2_10, qc2_11, qc2_12, qc2_13, qc2_14, qc2_15, qc2_16, qc2_17, qc2_18, qc2_19, qc2_20, qc2_21, qc2_22, qc2_23, qc2_24, qc2_25, qc2_26, qc2_27, qc2_28⟩ := tn_134 hTy0
  refine x_callVP C cl_X10_isMatter kmX10_190 (ci := 9) (b := 134) (As := [.int a1]) (rest := []) rfl hc2 (tc_X10_isMatter uu0 hTy0.1 a1) rfl rfl (Nat.le_of_ble_eq_true rfl) ⟨Nat.le_of_ble_eq_true rfl, Nat.le_of_ble_eq_true rfl⟩ ⟨Nat.le_of_ble_eq_true rfl, Nat.le_of_ble_eq_true rfl⟩ dX10_tell_2 ?_
  rintro _ _ ⟨rfl, r1, rfl, gr1⟩
  refine x_norm (st2 := [.int r1]) rfl rfl rfl rfl rfl ?_
  have l_0 : (0 : Int32).toInt = 0 := by decide
  refine x_if_ne C 11 dX10_tell_5 (by decide) (fun q4 => ?_) (fun q4 => ?_)
  · have rq4 : ¬ r1.toInt = (0 : Int32).toInt := by rw [i_eq_iff] at q4; omega
    refine x_aload_n C 0 dX10_tell_11 rfl rfl ?_
    refine x_iload_n C 1 dX10_tell_12 rfl rfl ?_
    obtain ⟨f6, hf6, qf6_0⟩ := tn_146 hTy0
    have sh7 : (seOf uu0).toInt = (f6 4).toInt := by rw [seOf_eq hf6]
    have sq8 := qf6_0 4 (by decide)
    refine x_callVP C cl_X10_isTellable kmX10_233 (ci := 9) (b := 134) (As := [.int a1]) (rest := []) rfl hc2 (tc_X10_isTellable uu0 hTy0.1 a1) rfl rfl (Nat.le_of_ble_eq_true rfl) ⟨Nat.le_of_ble_eq_true rfl, Nat.le_of_ble_eq_true rfl⟩ ⟨Nat.le_of_ble_eq_true rfl, Nat.le_of_ble_eq_true rfl⟩ dX10_tell_13 ?_
    rintro _ _ ⟨rfl, r5, rfl, gr5⟩
    refine x_norm (st2 := [.int r5]) rfl rfl rfl rfl rfl ?_
    refine x_if_ne C 22 dX10_tell_16 (by decide) (fun q10 => ?_) (fun q10 => ?_)
    · have rq10 : ¬ r5.toInt = (0 : Int32).toInt := by rw [i_eq_iff] at q10; omega
      refine x_aload_n C 0 dX10_tell_22 rfl rfl ?_
      have sh11 : (seOf uu0).toInt = (f6 4).toInt := by rw [seOf_eq hf6]
      have sq12 := qf6_0 4 (by decide)
      refine x_callVP C cl_X10_remember kmX10_216 (ci := 9) (b := 134) (As := []) (rest := []) rfl hc2 (tc_X10_remember uu0 hTy0.1 (by omega)) rfl rfl (Nat.le_of_ble_eq_true rfl) ⟨Nat.le_of_ble_eq_true rfl, Nat.le_of_ble_eq_true rfl⟩ ⟨Nat.le_of_ble_eq_true rfl, Nat.le_of_ble_eq_true rfl⟩ dX10_tell_23 ?_
      rintro _ u13 ⟨ju13, pvu13, rfl⟩
      have hTu13 := hTy0.tr ju13
      refine x_norm (st2 := []) rfl rfl rfl rfl rfl ?_
      refine x_aload_n C 0 dX10_tell_26 rfl rfl ?_
      refine x_iload_n C 1 dX10_tell_27 rfl rfl ?_
      obtain ⟨f15, hf15, qf15_0⟩ := tn_146 hTu13
      have sh16 : (seOf u13).toInt = (f15 4).toInt := by rw [seOf_eq hf15]
      have sq17 := qf15_0 4 (by decide)
      obtain ⟨c18_0, c18_2, c18_3, c18_4, c18_5, c18_6, c18_7, c18_8, c18_9, c18_15, c18_16, c18_17, c18_18, c18_25, c18_26, c18_28, c18_30, c18_31, c18_32, c18_34, c18_37, hc18, qc18_0, qc18_1, qc18_2, qc18_3, qc18_4, qc18_5, qc18_6, qc18_7, qc18_8, qc18_9, qc18_10, qc18_11, qc18_12, qc18_13, qc18_14, qc18_15, qc18_16, qc18_17, qc18_18, qc18_19, qc18_20, qc18_21, qc18_22, qc18_23, qc18_24, qc18_25, qc18_26, qc18_27, qc18_28⟩ := tn_134 hTu13
      refine x_callVP C cl_X10_tells kmX10_236 (ci := 9) (b := 134) (As := [.int a1]) (rest := []) rfl hc18 (tc_X10_tells u13 hTu13.1 a1 (by omega) (by omega) (by omega)) rfl rfl (Nat.le_of_ble_eq_true rfl) ⟨Nat.le_of_ble_eq_true rfl, Nat.le_of_ble_eq_true rfl⟩ ⟨Nat.le_of_ble_eq_true rfl, Nat.le_of_ble_eq_true rfl⟩ dX10_tell_28 ?_
      rintro _ u19 ⟨ju19, r14, rfl, gr14⟩
      have hTu19 := hTu13.tr ju19
      refine x_norm (st2 := [.int r14]) rfl rfl rfl rfl rfl ?_
      exact x_iretP C hr hlk (Nat.le_refl _) (Nat.le_refl _) dX10_tell_31 ⟨hTu19, r14, rfl, trivial⟩
    · have rq10 : r5.toInt = (0 : Int32).toInt := by rw [i_eq_iff] at q10; omega
      refine x_ldc C kcX10_215 dX10_tell_19 ?_
      have l_m1000000003 : (-1000000003 : Int32).toInt = -1000000003 := by decide
      exact x_iretP C hr hlk (Nat.le_refl _) (Nat.le_refl _) dX10_tell_21 ⟨hTy0, (-1000000003 : Int32), rfl, trivial⟩
  · have rq4 : r1.toInt = (0 : Int32).toInt := by rw [i_eq_iff] at q4; omega
    refine x_ldc C kcX10_193 dX10_tell_8 ?_
    have l_m1000000001 : (-1000000001 : Int32).toInt = -1000000001 := by decide
    exact x_iretP C hr hlk (Nat.le_refl _) (Nat.le_refl _) dX10_tell_10 ⟨hTy0, (-1000000001 : Int32), rfl, trivial⟩
set_option maxRecDepth 20000 in
set_option maxHeartbeats 2000000 in
theorem tc_X10_rise {G : GT} {l : Launch} {z n : Nat} {g : Nat → Int} (uu0 : HpT) (hTz0 : TyN G z g uu0) : Mp G l z yX10_rise cX10_rise 1 (some .int) { frames := 2, cells := 0, slots := 0, locals := 44 } [.ref (z + 134)] uu0 n (fun r v => TN G z g uu0 v ∧ ∃ x : Int32, r = some (.int x) ∧ True) := by
  refine mp_of (by decide +kernel) (Nat.le_of_ble_eq_true rfl) ?_
  intro p e s m below meth c C hr hlk hnm
  have hTy0 : TN G z g uu0 uu0 := TN.rf hTz0
  refine x_aload_n C 0 dX10_rise_0 rfl rfl ?_
  obtain ⟨c1_0, c1_2, c1_3, c1_4, c1_5, c1_6, c1_7, c1_8, c1_9, c1_15, c1_16, c1_17, c1_18, c1_25, c1_26, c1_28, c1_30, c1_31, c1_32, c1_34, c1_37, hc1, qc1_0, qc1_1, qc1_2, qc1_3, qc1_4, qc1_5, qc1_6, qc1_7, qc1_8, qc1_9, qc1_10, qc1_11, qc1_12, qc1_13, qc1_14, qc1_15, qc1_16, qc1_17, qc1_18, qc1_19, qc1_20, qc1_21, qc1_22, qc1_23, qc1_24, qc1_25, qc1_26, qc1_27, qc1_28⟩ := tn_134 hTy0
  refine gfX10_47 C dX10_rise_1 hc1 rfl ?_
  refine x_iconst (v := (4 : Int32)) C dX10_rise_4 (by decide) ?_
  obtain ⟨f2, hf2, qf2_0⟩ := tn_146 hTy0
  have l_4 : (4 : Int32).toInt = 4 := by decide
  refine x_iald C hf2 (i_in (by omega) (by omega)) dX10_rise_5 ?_
  refine x_top (fun w3 ew3 => ?_)
  have fw3_0 : ((4 : Int32).toInt = 4 → -1 ≤ w3.toInt ∧ w3.toInt ≤ 6 * g 0 - 1) ∧ ((4 : Int32).toInt = 6 → -1 ≤ w3.toInt ∧ w3.toInt ≤ 7) := by rw [ew3]; exact ap_get (P := fun (i x : Int) => (i = 4 → -1 ≤ x ∧ x ≤ 6 * g 0 - 1) ∧ (i = 6 → -1 ≤ x ∧ x ≤ 7)) qf2_0 (by omega) (by omega)
  have s44 : w3.toInt = (f2 4).toInt := by rw [ew3]; exact congrArg (fun q => (f2 q).toInt) (by decide)
  refine x_iconst (v := (-1 : Int32)) C dX10_rise_6 (by decide) ?_
  have l_m1 : (-1 : Int32).toInt = -1 := by decide
  refine x_icmp_ne C 13 dX10_rise_7 (by decide) (fun q5 => ?_) (fun q5 => ?_)
  · have rq5 : ¬ w3.toInt = (-1 : Int32).toInt := by rw [i_eq_iff] at q5; omega
    refine x_aload_n C 0 dX10_rise_13 rfl rfl ?_
    have sh6 : (seOf uu0).toInt = (f2 4).toInt := by rw [seOf_eq hf2]
    have sq7 := qf2_0 4 (by decide)
    refine x_callVP C cl_X10_remember kmX10_216 (ci := 9) (b := 134) (As := []) (rest := []) rfl hc1 (tc_X10_remember uu0 hTy0.1 (by omega)) rfl rfl (Nat.le_of_ble_eq_true rfl) ⟨Nat.le_of_ble_eq_true rfl, Nat.le_of_ble_eq_true rfl⟩ ⟨Nat.le_of_ble_eq_true rfl, Nat.le_of_ble_eq_true rfl⟩ dX10_rise_14 ?_
    rintro _ u8 ⟨ju8, pvu8, rfl⟩
    have hTu8 := hTy0.tr ju8
    refine x_norm (st2 := []) rfl rfl rfl rfl rfl ?_
    refine x_aload_n C 0 dX10_rise_17 rfl rfl ?_
    obtain ⟨f10, hf10, qf10_0⟩ := tn_146 hTu8
    have sh11 : (seOf u8).toInt = (f10 4).toInt := by rw [seOf_eq hf10]
    have sq12 := qf10_0 4 (by decide)
    obtain ⟨c13_0, c13_2, c13_3, c13_4, c13_5, c13_6, c13_7, c13_8, c13_9, c13_15, c13_16, c13_17, c13_18, c13_25, c13_26, c13_28, c13_30, c13_31, c13_32, c13_34, c13_37, hc13, qc13_0, qc13_1, qc13_2, qc13_3, qc13_4, qc13_5, qc13_6, qc13_7, qc13_8, qc13_9, qc13_10, qc13_11, qc13_12, qc13_13, qc13_14, qc13_15, qc13_16, qc13_17, qc13_18, qc13_19, qc13_20, qc13_21, qc13_22, qc13_23, qc13_24, qc13_25, qc13_26, qc13_27, qc13_28⟩ := tn_134 hTu8
    refine x_callVP C cl_X10_rises kmX10_227 (ci := 9) (b := 134) (As := []) (rest := []) rfl hc13 (tc_X10_rises u8 hTu8.1 (by omega)) rfl rfl (Nat.le_of_ble_eq_true rfl) ⟨Nat.le_of_ble_eq_true rfl, Nat.le_of_ble_eq_true rfl⟩ ⟨Nat.le_of_ble_eq_true rfl, Nat.le_of_ble_eq_true rfl⟩ dX10_rise_18 ?_
    rintro _ u14 ⟨ju14, r9, rfl, gr9⟩
    have hTu14 := hTu8.tr ju14
    refine x_norm (st2 := [.int r9]) rfl rfl rfl rfl rfl ?_
    exact x_iretP C hr hlk (Nat.le_refl _) (Nat.le_refl _) dX10_rise_21 ⟨hTu14, r9, rfl, trivial⟩
  · have rq5 : w3.toInt = (-1 : Int32).toInt := by rw [i_eq_iff] at q5; omega
    refine x_ldc C kcX10_215 dX10_rise_10 ?_
    have l_m1000000003 : (-1000000003 : Int32).toInt = -1000000003 := by decide
    exact x_iretP C hr hlk (Nat.le_refl _) (Nat.le_refl _) dX10_rise_12 ⟨hTy0, (-1000000003 : Int32), rfl, trivial⟩
set_option maxRecDepth 20000 in
set_option maxHeartbeats 2000000 in
theorem tc_X10_learn {G : GT} {l : Launch} {z n : Nat} {g : Nat → Int} (uu0 : HpT) (hTz0 : TyN G z g uu0) (a1 : Int32) : Mp G l z yX10_learn cX10_learn 2 (some .int) { frames := 2, cells := 0, slots := 0, locals := 45 } [.ref (z + 134), .int a1] uu0 n (fun r v => TN G z g uu0 v ∧ ∃ x : Int32, r = some (.int x) ∧ True) := by
  refine mp_of (by decide +kernel) (Nat.le_of_ble_eq_true rfl) ?_
  intro p e s m below meth c C hr hlk hnm
  have hTy0 : TN G z g uu0 uu0 := TN.rf hTz0
  refine x_aload_n C 0 dX10_learn_0 rfl rfl ?_
  refine x_iload_n C 1 dX10_learn_1 rfl rfl ?_
  obtain ⟨c2_0, c2_2, c2_3, c2_4, c2_5, c2_6, c2_7, c2_8, c2_9, c2_15, c2_16, c2_17, c2_18, c2_25, c2_26, c2_28, c2_30, c2_31, c2_32, c2_34, c2_37, hc2, qc2_0, qc2_1, qc2_2, qc2_3, qc2_4, qc2_5, qc2_6, qc2_7, qc2_8, qc2_9, qc2_10, qc2_11, qc2_12, qc2_13, qc2_14, qc2_15, qc2_16, qc2_17, qc2_18, qc2_19, qc2_20, qc2_21, qc2_22, qc2_23, qc2_24, qc2_25, qc2_26, qc2_27, qc2_28⟩ := tn_134 hTy0
  refine x_callVP C cl_X10_isMatter kmX10_190 (ci := 9) (b := 134) (As := [.int a1]) (rest := []) rfl hc2 (tc_X10_isMatter uu0 hTy0.1 a1) rfl rfl (Nat.le_of_ble_eq_true rfl) ⟨Nat.le_of_ble_eq_true rfl, Nat.le_of_ble_eq_true rfl⟩ ⟨Nat.le_of_ble_eq_true rfl, Nat.le_of_ble_eq_true rfl⟩ dX10_learn_2 ?_
  rintro _ _ ⟨rfl, r1, rfl, gr1⟩
  refine x_norm (st2 := [.int r1]) rfl rfl rfl rfl rfl ?_
  have l_0 : (0 : Int32).toInt = 0 := by decide
  refine x_if_ne C 11 dX10_learn_5 (by decide) (fun q4 => ?_) (fun q4 => ?_)
  · have rq4 : ¬ r1.toInt = (0 : Int32).toInt := by rw [i_eq_iff] at q4; omega
    refine x_aload_n C 0 dX10_learn_11 rfl rfl ?_
    refine gfX10_47 C dX10_learn_12 hc2 rfl ?_
    refine x_iconst (v := (3 : Int32)) C dX10_learn_15 (by decide) ?_
    obtain ⟨f5, hf5, qf5_0⟩ := tn_146 hTy0
    have l_3 : (3 : Int32).toInt = 3 := by decide
    refine x_iald C hf5 (i_in (by omega) (by omega)) dX10_learn_16 ?_
    refine x_top (fun w6 ew6 => ?_)
    have fw6_0 : ((3 : Int32).toInt = 4 → -1 ≤ w6.toInt ∧ w6.toInt ≤ 6 * g 0 - 1) ∧ ((3 : Int32).toInt = 6 → -1 ≤ w6.toInt ∧ w6.toInt ≤ 7) := by rw [ew6]; exact ap_get (P := fun (i x : Int) => (i = 4 → -1 ≤ x ∧ x ≤ 6 * g 0 - 1) ∧ (i = 6 → -1 ≤ x ∧ x ≤ 7)) qf5_0 (by omega) (by omega)
    refine x_iload_n C 1 dX10_learn_17 rfl rfl ?_
    refine x_callSP C cl_X10_has kmX10_168 (As := [.int w6, .int a1]) (rest := []) (tc_X10_has uu0 hTy0.1 w6 a1) rfl rfl (Nat.le_of_ble_eq_true rfl) ⟨Nat.le_of_ble_eq_true rfl, Nat.le_of_ble_eq_true rfl⟩ ⟨Nat.le_of_ble_eq_true rfl, Nat.le_of_ble_eq_true rfl⟩ dX10_learn_18 ?_
    rintro _ _ ⟨rfl, r7, rfl, gr7⟩
    refine x_norm (st2 := [.int r7]) rfl rfl rfl rfl rfl ?_
    refine x_if_eq C 27 dX10_learn_21 (by decide) (fun q9 => ?_) (fun q9 => ?_)
    · have rq9 : r7.toInt = (0 : Int32).toInt := by rw [i_eq_iff] at q9; omega
      refine x_aload_n C 0 dX10_learn_27 rfl rfl ?_
      have sh10 : (seOf uu0).toInt = (f5 4).toInt := by rw [seOf_eq hf5]
      have sq11 := qf5_0 4 (by decide)
      refine x_callVP C cl_X10_remember kmX10_216 (ci := 9) (b := 134) (As := []) (rest := []) rfl hc2 (tc_X10_remember uu0 hTy0.1 (by omega)) rfl rfl (Nat.le_of_ble_eq_true rfl) ⟨Nat.le_of_ble_eq_true rfl, Nat.le_of_ble_eq_true rfl⟩ ⟨Nat.le_of_ble_eq_true rfl, Nat.le_of_ble_eq_true rfl⟩ dX10_learn_28 ?_
      rintro _ u12 ⟨ju12, pvu12, rfl⟩
      have hTu12 := hTy0.tr ju12
      refine x_norm (st2 := []) rfl rfl rfl rfl rfl ?_
      refine x_aload_n C 0 dX10_learn_31 rfl rfl ?_
      obtain ⟨c13_0, c13_2, c13_3, c13_4, c13_5, c13_6, c13_7, c13_8, c13_9, c13_15, c13_16, c13_17, c13_18, c13_25, c13_26, c13_28, c13_30, c13_31, c13_32, c13_34, c13_37, hc13, qc13_0, qc13_1, qc13_2, qc13_3, qc13_4, qc13_5, qc13_6, qc13_7, qc13_8, qc13_9, qc13_10, qc13_11, qc13_12, qc13_13, qc13_14, qc13_15, qc13_16, qc13_17, qc13_18, qc13_19, qc13_20, qc13_21, qc13_22, qc13_23, qc13_24, qc13_25, qc13_26, qc13_27, qc13_28⟩ := tn_134 hTu12
      refine gfX10_47 C dX10_learn_32 hc13 rfl ?_
      refine x_iconst (v := (3 : Int32)) C dX10_learn_35 (by decide) ?_
      refine x_dup2 C dX10_learn_36 rfl rfl ?_
      obtain ⟨f14, hf14, qf14_0⟩ := tn_146 hTu12
      refine x_iald C hf14 (i_in (by omega) (by omega)) dX10_learn_37 ?_
      refine x_top (fun w15 ew15 => ?_)
      have fw15_0 : ((3 : Int32).toInt = 4 → -1 ≤ w15.toInt ∧ w15.toInt ≤ 6 * g 0 - 1) ∧ ((3 : Int32).toInt = 6 → -1 ≤ w15.toInt ∧ w15.toInt ≤ 7) := by rw [ew15]; exact ap_get (P := fun (i x : Int) => (i = 4 → -1 ≤ x ∧ x ≤ 6 * g 0 - 1) ∧ (i = 6 → -1 ≤ x ∧ x ≤ 7)) qf14_0 (by omega) (by omega)
      refine x_iconst (v := (1 : Int32)) C dX10_learn_38 (by decide) ?_
      refine x_iload_n C 1 dX10_learn_39 rfl rfl ?_
      refine x_ishl C dX10_learn_40 ?_
      have l_1 : (1 : Int32).toInt = 1 := by decide
      refine x_top (fun w16 ew16 => ?_)
      refine x_ior C dX10_learn_41 ?_
      refine x_top (fun w17 ew17 => ?_)
      have qf18_0 : ∀ j : Nat, j < 25 → (fun (i x : Int) => (i = 4 → -1 ≤ x ∧ x ≤ 6 * g 0 - 1) ∧ (i = 6 → -1 ≤ x ∧ x ≤ 7)) j ((upd f14 (3 : Int32).toNatClampNeg w17) j).toInt := ap_upd (P := fun (i x : Int) => (i = 4 → -1 ≤ x ∧ x ≤ 6 * g 0 - 1) ∧ (i = 6 → -1 ≤ x ∧ x ≤ 7)) qf14_0 (by omega) (show ((3 : Int32).toInt = 4 → -1 ≤ w17.toInt ∧ w17.toInt ≤ 6 * g 0 - 1) ∧ ((3 : Int32).toInt = 6 → -1 ≤ w17.toInt ∧ w17.toInt ≤ 7) from by omega)
      refine x_iast C hf14 (i_in (by omega) (by omega)) dX10_learn_42 ?_
      obtain ⟨u19, eu19⟩ : ∃ w : HpT, w = hup u12 146 (aI G 25 (upd f14 (3 : Int32).toNatClampNeg w17)) := ⟨_, rfl⟩
      refine x_heap (u2 := u19) eu19.symm ?_
      have hTu19 : TN G z g uu0 u19 := by rw [eu19]; exact hTu12.up_146 qf18_0
      have hn21 := (congrFun eu19 146).trans (hup_s _ _ _)
      have s422 : ((upd f14 (3 : Int32).toNatClampNeg w17) 4).toInt = (f14 4).toInt := by rw [now4_n (by omega) (by omega)]
      generalize (upd f14 (3 : Int32).toNatClampNeg w17) = f18 at *
      refine x_aload_n C 0 dX10_learn_43 rfl rfl ?_
      refine x_bipush (v := (60 : Int32)) C dX10_learn_44 (by decide) ?_
      have l_60 : (60 : Int32).toInt = 60 := by decide
      have sh23 : (seOf u19).toInt = (f18 4).toInt := by rw [seOf_eq hn21]
      have sq24 := qf18_0 4 (by decide)
      have k25 := (congrFun eu19 134).trans (hup_n' (by omega) hc13)
      refine x_callVP C cl_X10_passes kmX10_230 (ci := 9) (b := 134) (As := [.int (60 : Int32)]) (rest := []) rfl k25 (tc_X10_passes u19 hTu19.1 (60 : Int32)) rfl rfl (Nat.le_of_ble_eq_true rfl) ⟨Nat.le_of_ble_eq_true rfl, Nat.le_of_ble_eq_true rfl⟩ ⟨Nat.le_of_ble_eq_true rfl, Nat.le_of_ble_eq_true rfl⟩ dX10_learn_46 ?_
      rintro _ u26 ⟨ju26, pvu26, rfl⟩
      have hTu26 := hTu19.tr ju26
      refine x_norm (st2 := []) rfl rfl rfl rfl rfl ?_
      refine x_aload_n C 0 dX10_learn_49 rfl rfl ?_
      obtain ⟨c27_0, c27_2, c27_3, c27_4, c27_5, c27_6, c27_7, c27_8, c27_9, c27_15, c27_16, c27_17, c27_18, c27_25, c27_26, c27_28, c27_30, c27_31, c27_32, c27_34, c27_37, hc27, qc27_0, qc27_1, qc27_2, qc27_3, qc27_4, qc27_5, qc27_6, qc27_7, qc27_8, qc27_9, qc27_10, qc27_11, qc27_12, qc27_13, qc27_14, qc27_15, qc27_16, qc27_17, qc27_18, qc27_19, qc27_20, qc27_21, qc27_22, qc27_23, qc27_24, qc27_25, qc27_26, qc27_27, qc27_28⟩ := tn_134 hTu26
      refine gfX10_47 C dX10_learn_50 hc27 rfl ?_
      refine x_iconst (v := (3 : Int32)) C dX10_learn_53 (by decide) ?_
      obtain ⟨f28, hf28, qf28_0⟩ := tn_146 hTu26
      refine x_iald C hf28 (i_in (by omega) (by omega)) dX10_learn_54 ?_
      refine x_top (fun w29 ew29 => ?_)
      have fw29_0 : ((3 : Int32).toInt = 4 → -1 ≤ w29.toInt ∧ w29.toInt ≤ 6 * g 0 - 1) ∧ ((3 : Int32).toInt = 6 → -1 ≤ w29.toInt ∧ w29.toInt ≤ 7) := by rw [ew29]; exact ap_get (P := fun (i x : Int) => (i = 4 → -1 ≤ x ∧ x ≤ 6 * g 0 - 1) ∧ (i = 6 → -1 ≤ x ∧ x ≤ 7)) qf28_0 (by omega) (by omega)
      refine x_callSP C cl_X10_bits kmX10_172 (As := [.int w29]) (rest := []) (tc_X10_bits u26 hTu26.1 w29) rfl rfl (Nat.le_of_ble_eq_true rfl) ⟨Nat.le_of_ble_eq_true rfl, Nat.le_of_ble_eq_true rfl⟩ ⟨Nat.le_of_ble_eq_true rfl, Nat.le_of_ble_eq_true rfl⟩ dX10_learn_55 ?_
      rintro _ _ ⟨rfl, r30, rfl, gr30⟩
      refine x_norm (st2 := [.int r30]) rfl rfl rfl rfl rfl ?_
      exact x_iretP C hr hlk (Nat.le_refl _) (Nat.le_refl _) dX10_learn_58 ⟨hTu26, r30, rfl, trivial⟩
    · have rq9 : ¬ r7.toInt = (0 : Int32).toInt := by rw [i_eq_iff] at q9; omega
      refine x_ldc C kcX10_215 dX10_learn_24 ?_
      have l_m1000000003 : (-1000000003 : Int32).toInt = -1000000003 := by decide
      exact x_iretP C hr hlk (Nat.le_refl _) (Nat.le_refl _) dX10_learn_26 ⟨hTy0, (-1000000003 : Int32), rfl, trivial⟩
  · have rq4 : r1.toInt = (0 : Int32).toInt := by rw [i_eq_iff] at q4; omega
    refine x_ldc C kcX10_193 dX10_learn_8 ?_
    have l_m1000000001 : (-1000000001 : Int32).toInt = -1000000001 := by decide
    exact x_iretP C hr hlk (Nat.le_refl _) (Nat.le_refl _) dX10_learn_10 ⟨hTy0, (-1000000001 : Int32), rfl, trivial⟩
set_option maxRecDepth 20000 in
set_option maxHeartbeats 2000000 in
theorem tc_X10_minute {G : GT} {l : Launch} {z n : Nat} {g : Nat → Int} (uu0 : HpT) (hTz0 : TyN G z g uu0) (a1 : Int32) : Mp G l z yX10_minute cX10_minute 2 (some .int) { frames := 2, cells := 0, slots := 0, locals := 45 } [.ref (z + 134), .int a1] uu0 n (fun r v => TN G z g uu0 v ∧ ∃ x : Int32, r = some (.int x) ∧ True) := by
  refine mp_of (by decide +kernel) (Nat.le_of_ble_eq_true rfl) ?_
  intro p e s m below meth c C hr hlk hnm
  have hTy0 : TN G z g uu0 uu0 := TN.rf hTz0
  refine x_iload_n C 1 dX10_minute_0 rfl rfl ?_
  refine x_iconst (v := (1 : Int32)) C dX10_minute_1 (by decide) ?_
  refine x_bipush (v := (60 : Int32)) C dX10_minute_2 (by decide) ?_
  have l_1 : (1 : Int32).toInt = 1 := by decide
  have l_60 : (60 : Int32).toInt = 60 := by decide
  refine x_callSP C cl_X10_in kmX10_82 (As := [.int a1, .int (1 : Int32), .int (60 : Int32)]) (rest := []) (tc_X10_in uu0 hTy0.1 a1 (1 : Int32) (60 : Int32)) rfl rfl (Nat.le_of_ble_eq_true rfl) ⟨Nat.le_of_ble_eq_true rfl, Nat.le_of_ble_eq_true rfl⟩ ⟨Nat.le_of_ble_eq_true rfl, Nat.le_of_ble_eq_true rfl⟩ dX10_minute_4 ?_
  rintro _ _ ⟨rfl, r1, rfl, gr1⟩
  refine x_norm (st2 := [.int r1]) rfl rfl rfl rfl rfl ?_
  have l_0 : (0 : Int32).toInt = 0 := by decide
  refine x_if_ne C 13 dX10_minute_7 (by decide) (fun q3 => ?_) (fun q3 => ?_)
  · have rq3 : ¬ r1.toInt = (0 : Int32).toInt := by rw [i_eq_iff] at q3; omega
    refine x_aload_n C 0 dX10_minute_13 rfl rfl ?_
    obtain ⟨c5_0, c5_2, c5_3, c5_4, c5_5, c5_6, c5_7, c5_8, c5_9, c5_15, c5_16, c5_17, c5_18, c5_25, c5_26, c5_28, c5_30, c5_31, c5_32, c5_34, c5_37, hc5, qc5_0, qc5_1, qc5_2, qc5_3, qc5_4, qc5_5, qc5_6, qc5_7, qc5_8, qc5_9, qc5_10, qc5_11, qc5_12, qc5_13, qc5_14, qc5_15, qc5_16, qc5_17, qc5_18, qc5_19, qc5_20, qc5_21, qc5_22, qc5_23, qc5_24, qc5_25, qc5_26, qc5_27, qc5_28⟩ := tn_134 hTy0
    refine x_callVP C cl_X10_isBridge kmX10_239 (ci := 9) (b := 134) (As := []) (rest := []) rfl hc5 (tc_X10_isBridge uu0 hTy0.1) rfl rfl (Nat.le_of_ble_eq_true rfl) ⟨Nat.le_of_ble_eq_true rfl, Nat.le_of_ble_eq_true rfl⟩ ⟨Nat.le_of_ble_eq_true rfl, Nat.le_of_ble_eq_true rfl⟩ dX10_minute_14 ?_
    rintro _ _ ⟨rfl, r4, rfl, gr4⟩
    refine x_norm (st2 := [.int r4]) rfl rfl rfl rfl rfl ?_
    refine x_if_ne C 23 dX10_minute_17 (by decide) (fun q7 => ?_) (fun q7 => ?_)
    · have rq7 : ¬ r4.toInt = (0 : Int32).toInt := by rw [i_eq_iff] at q7; omega
      refine x_aload_n C 0 dX10_minute_23 rfl rfl ?_
      refine gfX10_47 C dX10_minute_24 hc5 rfl ?_
      refine x_iconst (v := (0 : Int32)) C dX10_minute_27 (by decide) ?_
      obtain ⟨f8, hf8, qf8_0⟩ := tn_146 hTy0
      refine x_iald C hf8 (i_in (by omega) (by omega)) dX10_minute_28 ?_
      refine x_top (fun w9 ew9 => ?_)
      have fw9_0 : ((0 : Int32).toInt = 4 → -1 ≤ w9.toInt ∧ w9.toInt ≤ 6 * g 0 - 1) ∧ ((0 : Int32).toInt = 6 → -1 ≤ w9.toInt ∧ w9.toInt ≤ 7) := by rw [ew9]; exact ap_get (P := fun (i x : Int) => (i = 4 → -1 ≤ x ∧ x ≤ 6 * g 0 - 1) ∧ (i = 6 → -1 ≤ x ∧ x ≤ 7)) qf8_0 (by omega) (by omega)
      refine x_ldc C kcX10_242 dX10_minute_29 ?_
      have l_900000 : (900000 : Int32).toInt = 900000 := by decide
      refine x_icmp_le C 37 dX10_minute_31 (by decide) (fun q10 => ?_) (fun q10 => ?_)
      · have rq10 : w9.toInt ≤ (900000 : Int32).toInt := by rw [Int32.le_iff_toInt_le] at q10; omega
        refine x_aload_n C 0 dX10_minute_37 rfl rfl ?_
        have sh11 : (seOf uu0).toInt = (f8 4).toInt := by rw [seOf_eq hf8]
        have sq12 := qf8_0 4 (by decide)
        refine x_callVP C cl_X10_remember kmX10_216 (ci := 9) (b := 134) (As := []) (rest := []) rfl hc5 (tc_X10_remember uu0 hTy0.1 (by omega)) rfl rfl (Nat.le_of_ble_eq_true rfl) ⟨Nat.le_of_ble_eq_true rfl, Nat.le_of_ble_eq_true rfl⟩ ⟨Nat.le_of_ble_eq_true rfl, Nat.le_of_ble_eq_true rfl⟩ dX10_minute_38 ?_
        rintro _ u13 ⟨ju13, pvu13, rfl⟩
        have hTu13 := hTy0.tr ju13
        refine x_norm (st2 := []) rfl rfl rfl rfl rfl ?_
        refine x_aload_n C 0 dX10_minute_41 rfl rfl ?_
        refine x_iload_n C 1 dX10_minute_42 rfl rfl ?_
        obtain ⟨f14, hf14, qf14_0⟩ := tn_146 hTu13
        have sh15 : (seOf u13).toInt = (f14 4).toInt := by rw [seOf_eq hf14]
        have sq16 := qf14_0 4 (by decide)
        obtain ⟨c17_0, c17_2, c17_3, c17_4, c17_5, c17_6, c17_7, c17_8, c17_9, c17_15, c17_16, c17_17, c17_18, c17_25, c17_26, c17_28, c17_30, c17_31, c17_32, c17_34, c17_37, hc17, qc17_0, qc17_1, qc17_2, qc17_3, qc17_4, qc17_5, qc17_6, qc17_7, qc17_8, qc17_9, qc17_10, qc17_11, qc17_12, qc17_13, qc17_14, qc17_15, qc17_16, qc17_17, qc17_18, qc17_19, qc17_20, qc17_21, qc17_22, qc17_23, qc17_24, qc17_25, qc17_26, qc17_27, qc17_28⟩ := tn_134 hTu13
        refine x_callVP C cl_X10_passes kmX10_230 (ci := 9) (b := 134) (As := [.int a1]) (rest := []) rfl hc17 (tc_X10_passes u13 hTu13.1 a1) rfl rfl (Nat.le_of_ble_eq_true rfl) ⟨Nat.le_of_ble_eq_true rfl, Nat.le_of_ble_eq_true rfl⟩ ⟨Nat.le_of_ble_eq_true rfl, Nat.le_of_ble_eq_true rfl⟩ dX10_minute_43 ?_
        rintro _ u18 ⟨ju18, pvu18, rfl⟩
        have hTu18 := hTu13.tr ju18
        refine x_norm (st2 := []) rfl rfl rfl rfl rfl ?_
        refine x_aload_n C 0 dX10_minute_46 rfl rfl ?_
        obtain ⟨c19_0, c19_2, c19_3, c19_4, c19_5, c19_6, c19_7, c19_8, c19_9, c19_15, c19_16, c19_17, c19_18, c19_25, c19_26, c19_28, c19_30, c19_31, c19_32, c19_34, c19_37, hc19, qc19_0, qc19_1, qc19_2, qc19_3, qc19_4, qc19_5, qc19_6, qc19_7, qc19_8, qc19_9, qc19_10, qc19_11, qc19_12, qc19_13, qc19_14, qc19_15, qc19_16, qc19_17, qc19_18, qc19_19, qc19_20, qc19_21, qc19_22, qc19_23, qc19_24, qc19_25, qc19_26, qc19_27, qc19_28⟩ := tn_134 hTu18
        refine gfX10_47 C dX10_minute_47 hc19 rfl ?_
        refine x_iconst (v := (0 : Int32)) C dX10_minute_50 (by decide) ?_
        obtain ⟨f20, hf20, qf20_0⟩ := tn_146 hTu18
        refine x_iald C hf20 (i_in (by omega) (by omega)) dX10_minute_51 ?_
        refine x_top (fun w21 ew21 => ?_)
        have fw21_0 : ((0 : Int32).toInt = 4 → -1 ≤ w21.toInt ∧ w21.toInt ≤ 6 * g 0 - 1) ∧ ((0 : Int32).toInt = 6 → -1 ≤ w21.toInt ∧ w21.toInt ≤ 7) := by rw [ew21]; exact ap_get (P := fun (i x : Int) => (i = 4 → -1 ≤ x ∧ x ≤ 6 * g 0 - 1) ∧ (i = 6 → -1 ≤ x ∧ x ≤ 7)) qf20_0 (by omega) (by omega)
        exact x_iretP C hr hlk (Nat.le_refl _) (Nat.le_refl _) dX10_minute_52 ⟨hTu18, w21, rfl, trivial⟩
      · have rq10 : w9.toInt > (900000 : Int32).toInt := by rw [Int32.le_iff_toInt_le] at q10; omega
        refine x_ldc C kcX10_90 dX10_minute_34 ?_
        have l_m1000000004 : (-1000000004 : Int32).toInt = -1000000004 := by decide
        exact x_iretP C hr hlk (Nat.le_refl _) (Nat.le_refl _) dX10_minute_36 ⟨hTy0, (-1000000004 : Int32), rfl, trivial⟩
    · have rq7 : r4.toInt = (0 : Int32).toInt := by rw [i_eq_iff] at q7; omega
      refine x_ldc C kcX10_215 dX10_minute_20 ?_
      have l_m1000000003 : (-1000000003 : Int32).toInt = -1000000003 := by decide
      exact x_iretP C hr hlk (Nat.le_refl _) (Nat.le_refl _) dX10_minute_22 ⟨hTy0, (-1000000003 : Int32), rfl, trivial⟩
  · have rq3 : r1.toInt = (0 : Int32).toInt := by rw [i_eq_iff] at q3; omega
    refine x_ldc C kcX10_86 dX10_minute_10 ?_
    have l_m1000000002 : (-1000000002 : Int32).toInt = -1000000002 := by decide
    exact x_iretP C hr hlk (Nat.le_refl _) (Nat.le_refl _) dX10_minute_12 ⟨hTy0, (-1000000002 : Int32), rfl, trivial⟩
set_option maxRecDepth 20000 in
set_option maxHeartbeats 2000000 in
theorem tc_X10_anew {G : GT} {l : Launch} {z n : Nat} {g : Nat → Int} (uu0 : HpT) (hTz0 : TyN G z g uu0) : Mp G l z yX10_anew cX10_anew 2 (some .int) { frames := 1, cells := 0, slots := 0, locals := 21 } [.ref (z + 134)] uu0 n (fun r v => TN G z g uu0 v ∧ ∃ x : Int32, r = some (.int x) ∧ True) := by
  refine mp_of (by decide +kernel) (Nat.le_of_ble_eq_true rfl) ?_
  intro p e s m below meth c C hr hlk hnm
  have hTy0 : TN G z g uu0 uu0 := TN.rf hTz0
  have J31 : ∀ (d : Nat) (u_31 : HpT) (hT_31 : TN G z g uu0 u_31) (x1_31 : Int32) (hl_x1_31 : 0 ≤ x1_31.toInt) (hh_x1_31 : x1_31.toInt ≤ 6) (hd : d = (7 - x1_31.toInt).toNat), Xw p l e ({ frames := 1, cells := 0, slots := 0, locals := 21 } : Room) s m ([.ref (z + 134)] : List Value).toArray below meth c G z 2 (MQ below (Qp G z n (fun r v => TN G z g uu0 v ∧ ∃ x : Int32, r = some (.int x) ∧ True)) ([.ref (z + 134)] : List Value).toArray s 0 0 (zA z)) 31 [(1, .int x1_31), (0, .ref (z + 134))] [] u_31 n 0 0 := by
    intro d
    induction d using Nat.strongRecOn with
    | _ d ih31 =>
      intro u_31 hT_31 x1_31 hl_x1_31 hh_x1_31 hd31
      refine x_iload_n C 0 dX10_anew_31 rfl rfl ?_
      refine x_aload_n C 1 dX10_anew_32 rfl rfl ?_
      obtain ⟨c1_0, c1_2, c1_3, c1_4, c1_5, c1_6, c1_7, c1_8, c1_9, c1_15, c1_16, c1_17, c1_18, c1_25, c1_26, c1_28, c1_30, c1_31, c1_32, c1_34, c1_37, hc1, qc1_0, qc1_1, qc1_2, qc1_3, qc1_4, qc1_5, qc1_6, qc1_7, qc1_8, qc1_9, qc1_10, qc1_11, qc1_12, qc1_13, qc1_14, qc1_15, qc1_16, qc1_17, qc1_18, qc1_19, qc1_20, qc1_21, qc1_22, qc1_23, qc1_24, qc1_25, qc1_26, qc1_27, qc1_28⟩ := tn_134 hT_31
      refine gfX10_156 C dX10_anew_33 hc1 rfl ?_
      refine x_icmp_ge C 75 dX10_anew_36 (by decide) (fun q2 => ?_) (fun q2 => ?_)
      · have rq2 : x1_31.toInt ≥ c1_18.toInt := by rw [Int32.le_iff_toInt_le] at q2; omega
        refine x_aload_n C 1 dX10_anew_75 rfl rfl ?_
        refine gfX10_47 C dX10_anew_76 hc1 rfl ?_
        refine x_iconst (v := (4 : Int32)) C dX10_anew_79 (by decide) ?_
        refine x_iconst (v := (-1 : Int32)) C dX10_anew_80 (by decide) ?_
        obtain ⟨f3, hf3, qf3_0⟩ := tn_146 hT_31
        have l_4 : (4 : Int32).toInt = 4 := by decide
        have l_m1 : (-1 : Int32).toInt = -1 := by decide
        have qf4_0 : ∀ j : Nat, j < 25 → (fun (i x : Int) => (i = 4 → -1 ≤ x ∧ x ≤ 6 * g 0 - 1) ∧ (i = 6 → -1 ≤ x ∧ x ≤ 7)) j ((upd f3 (4 : Int32).toNatClampNeg (-1 : Int32)) j).toInt := ap_upd (P := fun (i x : Int) => (i = 4 → -1 ≤ x ∧ x ≤ 6 * g 0 - 1) ∧ (i = 6 → -1 ≤ x ∧ x ≤ 7)) qf3_0 (by omega) (show ((4 : Int32).toInt = 4 → -1 ≤ (-1 : Int32).toInt ∧ (-1 : Int32).toInt ≤ 6 * g 0 - 1) ∧ ((4 : Int32).toInt = 6 → -1 ≤ (-1 : Int32).toInt ∧ (-1 : Int32).toInt ≤ 7) from by omega)
        refine x_iast C hf3 (i_in (by omega) (by omega)) dX10_anew_81 ?_
        obtain ⟨u5, eu5⟩ : ∃ w : HpT, w = hup u_31 146 (aI G 25 (upd f3 (4 : Int32).toNatClampNeg (-1 : Int32))) := ⟨_, rfl⟩
        refine x_heap (u2 := u5) eu5.symm ?_
        have hTu5 : TN G z g uu0 u5 := by rw [eu5]; exact hT_31.up_146 qf4_0
        have hn7 := (congrFun eu5 146).trans (hup_s _ _ _)
        have s48 : ((upd f3 (4 : Int32).toNatClampNeg (-1 : Int32)) 4).toInt = (-1 : Int32).toInt := by rw [now4_s]
        generalize (upd f3 (4 : Int32).toNatClampNeg (-1 : Int32)) = f4 at *
        refine x_aload_n C 1 dX10_anew_82 rfl rfl ?_
        have k9 := (congrFun eu5 134).trans (hup_n' (by omega) hc1)
        refine gfX10_47 C dX10_anew_83 k9 rfl ?_
        refine x_iconst (v := (5 : Int32)) C dX10_anew_86 (by decide) ?_
        refine x_iconst (v := (0 : Int32)) C dX10_anew_87 (by decide) ?_
        have l_5 : (5 : Int32).toInt = 5 := by decide
        have l_0 : (0 : Int32).toInt = 0 := by decide
        have qf10_0 : ∀ j : Nat, j < 25 → (fun (i x : Int) => (i = 4 → -1 ≤ x ∧ x ≤ 6 * g 0 - 1) ∧ (i = 6 → -1 ≤ x ∧ x ≤ 7)) j ((upd f4 (5 : Int32).toNatClampNeg (0 : Int32)) j).toInt := ap_upd (P := fun (i x : Int) => (i = 4 → -1 ≤ x ∧ x ≤ 6 * g 0 - 1) ∧ (i = 6 → -1 ≤ x ∧ x ≤ 7)) qf4_0 (by omega) (show ((5 : Int32).toInt = 4 → -1 ≤ (0 : Int32).toInt ∧ (0 : Int32).toInt ≤ 6 * g 0 - 1) ∧ ((5 : Int32).toInt = 6 → -1 ≤ (0 : Int32).toInt ∧ (0 : Int32).toInt ≤ 7) from by omega)
        refine x_iast C hn7 (i_in (by omega) (by omega)) dX10_anew_88 ?_
        obtain ⟨u11, eu11⟩ : ∃ w : HpT, w = hup u5 146 (aI G 25 (upd f4 (5 : Int32).toNatClampNeg (0 : Int32))) := ⟨_, rfl⟩
        refine x_heap (u2 := u11) eu11.symm ?_
        have hTu11 : TN G z g uu0 u11 := by rw [eu11]; exact hTu5.up_146 qf10_0
        have hn13 := (congrFun eu11 146).trans (hup_s _ _ _)
        have s414 : ((upd f4 (5 : Int32).toNatClampNeg (0 : Int32)) 4).toInt = (f4 4).toInt := by rw [now4_n (by omega) (by omega)]
        generalize (upd f4 (5 : Int32).toNatClampNeg (0 : Int32)) = f10 at *
        refine x_aload_n C 1 dX10_anew_89 rfl rfl ?_
        have k15 := (congrFun eu11 134).trans (hup_n' (by omega) k9)
        refine gfX10_47 C dX10_anew_90 k15 rfl ?_
        refine x_bipush (v := (6 : Int32)) C dX10_anew_93 (by decide) ?_
        refine x_iconst (v := (-1 : Int32)) C dX10_anew_95 (by decide) ?_
        have l_6 : (6 : Int32).toInt = 6 := by decide
        have qf16_0 : ∀ j : Nat, j < 25 → (fun (i x : Int) => (i = 4 → -1 ≤ x ∧ x ≤ 6 * g 0 - 1) ∧ (i = 6 → -1 ≤ x ∧ x ≤ 7)) j ((upd f10 (6 : Int32).toNatClampNeg (-1 : Int32)) j).toInt := ap_upd (P := fun (i x : Int) => (i = 4 → -1 ≤ x ∧ x ≤ 6 * g 0 - 1) ∧ (i = 6 → -1 ≤ x ∧ x ≤ 7)) qf10_0 (by omega) (show ((6 : Int32).toInt = 4 → -1 ≤ (-1 : Int32).toInt ∧ (-1 : Int32).toInt ≤ 6 * g 0 - 1) ∧ ((6 : Int32).toInt = 6 → -1 ≤ (-1 : Int32).toInt ∧ (-1 : Int32).toInt ≤ 7) from by omega)
        refine x_iast C hn13 (i_in (by omega) (by omega)) dX10_anew_96 ?_
        obtain ⟨u17, eu17⟩ : ∃ w : HpT, w = hup u11 146 (aI G 25 (upd f10 (6 : Int32).toNatClampNeg (-1 : Int32))) := ⟨_, rfl⟩
        refine x_heap (u2 := u17) eu17.symm ?_
        have hTu17 : TN G z g uu0 u17 := by rw [eu17]; exact hTu11.up_146 qf16_0
        have hn19 := (congrFun eu17 146).trans (hup_s _ _ _)
        have s420 : ((upd f10 (6 : Int32).toNatClampNeg (-1 : Int32)) 4).toInt = (f10 4).toInt := by rw [now4_n (by omega) (by omega)]
        generalize (upd f10 (6 : Int32).toNatClampNeg (-1 : Int32)) = f16 at *
        refine x_aload_n C 1 dX10_anew_97 rfl rfl ?_
        have k21 := (congrFun eu17 134).trans (hup_n' (by omega) k15)
        refine gfX10_47 C dX10_anew_98 k21 rfl ?_
        refine x_iconst (v := (1 : Int32)) C dX10_anew_101 (by decide) ?_
        refine x_dup2 C dX10_anew_102 rfl rfl ?_
        have l_1 : (1 : Int32).toInt = 1 := by decide
        refine x_iald C hn19 (i_in (by omega) (by omega)) dX10_anew_103 ?_
        refine x_top (fun w22 ew22 => ?_)
        have fw22_0 : ((1 : Int32).toInt = 4 → -1 ≤ w22.toInt ∧ w22.toInt ≤ 6 * g 0 - 1) ∧ ((1 : Int32).toInt = 6 → -1 ≤ w22.toInt ∧ w22.toInt ≤ 7) := by rw [ew22]; exact ap_get (P := fun (i x : Int) => (i = 4 → -1 ≤ x ∧ x ≤ 6 * g 0 - 1) ∧ (i = 6 → -1 ≤ x ∧ x ≤ 7)) qf16_0 (by omega) (by omega)
        refine x_iconst (v := (1 : Int32)) C dX10_anew_104 (by decide) ?_
        refine x_iadd C dX10_anew_105 ?_
        refine x_top (fun w23 ew23 => ?_)
        have qf24_0 : ∀ j : Nat, j < 25 → (fun (i x : Int) => (i = 4 → -1 ≤ x ∧ x ≤ 6 * g 0 - 1) ∧ (i = 6 → -1 ≤ x ∧ x ≤ 7)) j ((upd f16 (1 : Int32).toNatClampNeg w23) j).toInt := ap_upd (P := fun (i x : Int) => (i = 4 → -1 ≤ x ∧ x ≤ 6 * g 0 - 1) ∧ (i = 6 → -1 ≤ x ∧ x ≤ 7)) qf16_0 (by omega) (show ((1 : Int32).toInt = 4 → -1 ≤ w23.toInt ∧ w23.toInt ≤ 6 * g 0 - 1) ∧ ((1 : Int32).toInt = 6 → -1 ≤ w23.toInt ∧ w23.toInt ≤ 7) from by omega)
        refine x_iast C hn19 (i_in (by omega) (by omega)) dX10_anew_106 ?_
        obtain ⟨u25, eu25⟩ : ∃ w : HpT, w = hup u17 146 (aI G 25 (upd f16 (1 : Int32).toNatClampNeg w23)) := ⟨_, rfl⟩
        refine x_heap (u2 := u25) eu25.symm ?_
        have hTu25 : TN G z g uu0 u25 := by rw [eu25]; exact hTu17.up_146 qf24_0
        have hn27 := (congrFun eu25 146).trans (hup_s _ _ _)
        have s428 : ((upd f16 (1 : Int32).toNatClampNeg w23) 4).toInt = (f16 4).toInt := by rw [now4_n (by omega) (by omega)]
        generalize (upd f16 (1 : Int32).toNatClampNeg w23) = f24 at *
        refine x_aload_n C 1 dX10_anew_107 rfl rfl ?_
        have k29 := (congrFun eu25 134).trans (hup_n' (by omega) k21)
        refine gfX10_47 C dX10_anew_108 k29 rfl ?_
        refine x_iconst (v := (1 : Int32)) C dX10_anew_111 (by decide) ?_
        refine x_iald C hn27 (i_in (by omega) (by omega)) dX10_anew_112 ?_
        refine x_top (fun w30 ew30 => ?_)
        have fw30_0 : ((1 : Int32).toInt = 4 → -1 ≤ w30.toInt ∧ w30.toInt ≤ 6 * g 0 - 1) ∧ ((1 : Int32).toInt = 6 → -1 ≤ w30.toInt ∧ w30.toInt ≤ 7) := by rw [ew30]; exact ap_get (P := fun (i x : Int) => (i = 4 → -1 ≤ x ∧ x ≤ 6 * g 0 - 1) ∧ (i = 6 → -1 ≤ x ∧ x ≤ 7)) qf24_0 (by omega) (by omega)
        exact x_iretP C hr hlk (Nat.le_refl _) (Nat.le_refl _) dX10_anew_113 ⟨hTu25, w30, rfl, trivial⟩
      · have rq2 : x1_31.toInt < c1_18.toInt := by rw [Int32.le_iff_toInt_le] at q2; omega
        refine x_aload_n C 1 dX10_anew_39 rfl rfl ?_
        refine gfX10_47 C dX10_anew_40 hc1 rfl ?_
        refine x_bipush (v := (7 : Int32)) C dX10_anew_43 (by decide) ?_
        refine x_iload_n C 0 dX10_anew_45 rfl rfl ?_
        refine x_iadd C dX10_anew_46 ?_
        have l_7 : (7 : Int32).toInt = 7 := by decide
        refine x_top (fun w31 ew31 => ?_)
        have fw31_0 : w31.toInt = (7 : Int32).toInt + x1_31.toInt := by rw [ew31]; exact i_add (by omega) (by omega)
        refine x_iconst (v := (0 : Int32)) C dX10_anew_47 (by decide) ?_
        obtain ⟨f32, hf32, qf32_0⟩ := tn_146 hT_31
        have l_0 : (0 : Int32).toInt = 0 := by decide
        have qf33_0 : ∀ j : Nat, j < 25 → (fun (i x : Int) => (i = 4 → -1 ≤ x ∧ x ≤ 6 * g 0 - 1) ∧ (i = 6 → -1 ≤ x ∧ x ≤ 7)) j ((upd f32 w31.toNatClampNeg (0 : Int32)) j).toInt := ap_upd (P := fun (i x : Int) => (i = 4 → -1 ≤ x ∧ x ≤ 6 * g 0 - 1) ∧ (i = 6 → -1 ≤ x ∧ x ≤ 7)) qf32_0 (by omega) (show (w31.toInt = 4 → -1 ≤ (0 : Int32).toInt ∧ (0 : Int32).toInt ≤ 6 * g 0 - 1) ∧ (w31.toInt = 6 → -1 ≤ (0 : Int32).toInt ∧ (0 : Int32).toInt ≤ 7) from by omega)
        refine x_iast C hf32 (i_in (by omega) (by omega)) dX10_anew_48 ?_
        obtain ⟨u34, eu34⟩ : ∃ w : HpT, w = hup u_31 146 (aI G 25 (upd f32 w31.toNatClampNeg (0 : Int32))) := ⟨_, rfl⟩
        refine x_heap (u2 := u34) eu34.symm ?_
        have hTu34 : TN G z g uu0 u34 := by rw [eu34]; exact hT_31.up_146 qf33_0
        have hn36 := (congrFun eu34 146).trans (hup_s _ _ _)
        have s437 : ((upd f32 w31.toNatClampNeg (0 : Int32)) 4).toInt = (f32 4).toInt := by rw [now4_n (by omega) (by omega)]
        generalize (upd f32 w31.toNatClampNeg (0 : Int32)) = f33 at *
        refine x_aload_n C 1 dX10_anew_49 rfl rfl ?_
        have k38 := (congrFun eu34 134).trans (hup_n' (by omega) hc1)
        refine gfX10_47 C dX10_anew_50 k38 rfl ?_
        refine x_bipush (v := (13 : Int32)) C dX10_anew_53 (by decide) ?_
        refine x_iload_n C 0 dX10_anew_55 rfl rfl ?_
        refine x_iadd C dX10_anew_56 ?_
        have l_13 : (13 : Int32).toInt = 13 := by decide
        refine x_top (fun w39 ew39 => ?_)
        have fw39_0 : w39.toInt = (13 : Int32).toInt + x1_31.toInt := by rw [ew39]; exact i_add (by omega) (by omega)
        refine x_iconst (v := (0 : Int32)) C dX10_anew_57 (by decide) ?_
        have qf40_0 : ∀ j : Nat, j < 25 → (fun (i x : Int) => (i = 4 → -1 ≤ x ∧ x ≤ 6 * g 0 - 1) ∧ (i = 6 → -1 ≤ x ∧ x ≤ 7)) j ((upd f33 w39.toNatClampNeg (0 : Int32)) j).toInt := ap_upd (P := fun (i x : Int) => (i = 4 → -1 ≤ x ∧ x ≤ 6 * g 0 - 1) ∧ (i = 6 → -1 ≤ x ∧ x ≤ 7)) qf33_0 (by omega) (show (w39.toInt = 4 → -1 ≤ (0 : Int32).toInt ∧ (0 : Int32).toInt ≤ 6 * g 0 - 1) ∧ (w39.toInt = 6 → -1 ≤ (0 : Int32).toInt ∧ (0 : Int32).toInt ≤ 7) from by omega)
        refine x_iast C hn36 (i_in (by omega) (by omega)) dX10_anew_58 ?_
        obtain ⟨u41, eu41⟩ : ∃ w : HpT, w = hup u34 146 (aI G 25 (upd f33 w39.toNatClampNeg (0 : Int32))) := ⟨_, rfl⟩
        refine x_heap (u2 := u41) eu41.symm ?_
        have hTu41 : TN G z g uu0 u41 := by rw [eu41]; exact hTu34.up_146 qf40_0
        have hn43 := (congrFun eu41 146).trans (hup_s _ _ _)
        have s444 : ((upd f33 w39.toNatClampNeg (0 : Int32)) 4).toInt = (f33 4).toInt := by rw [now4_n (by omega) (by omega)]
        generalize (upd f33 w39.toNatClampNeg (0 : Int32)) = f40 at *
        refine x_aload_n C 1 dX10_anew_59 rfl rfl ?_
        have k45 := (congrFun eu41 134).trans (hup_n' (by omega) k38)
        refine gfX10_47 C dX10_anew_60 k45 rfl ?_
        refine x_bipush (v := (19 : Int32)) C dX10_anew_63 (by decide) ?_
        refine x_iload_n C 0 dX10_anew_65 rfl rfl ?_
        refine x_iadd C dX10_anew_66 ?_
        have l_19 : (19 : Int32).toInt = 19 := by decide
        refine x_top (fun w46 ew46 => ?_)
        have fw46_0 : w46.toInt = (19 : Int32).toInt + x1_31.toInt := by rw [ew46]; exact i_add (by omega) (by omega)
        refine x_iconst (v := (0 : Int32)) C dX10_anew_67 (by decide) ?_
        have qf47_0 : ∀ j : Nat, j < 25 → (fun (i x : Int) => (i = 4 → -1 ≤ x ∧ x ≤ 6 * g 0 - 1) ∧ (i = 6 → -1 ≤ x ∧ x ≤ 7)) j ((upd f40 w46.toNatClampNeg (0 : Int32)) j).toInt := ap_upd (P := fun (i x : Int) => (i = 4 → -1 ≤ x ∧ x ≤ 6 * g 0 - 1) ∧ (i = 6 → -1 ≤ x ∧ x ≤ 7)) qf40_0 (by omega) (show (w46.toInt = 4 → -1 ≤ (0 : Int32).toInt ∧ (0 : Int32).toInt ≤ 6 * g 0 - 1) ∧ (w46.toInt = 6 → -1 ≤ (0 : Int32).toInt ∧ (0 : Int32).toInt ≤ 7) from by omega)
        refine x_iast C hn43 (i_in (by omega) (by omega)) dX10_anew_68 ?_
        obtain ⟨u48, eu48⟩ : ∃ w : HpT, w = hup u41 146 (aI G 25 (upd f40 w46.toNatClampNeg (0 : Int32))) := ⟨_, rfl⟩
        refine x_heap (u2 := u48) eu48.symm ?_
        have hTu48 : TN G z g uu0 u48 := by rw [eu48]; exact hTu41.up_146 qf47_0
        have hn50 := (congrFun eu48 146).trans (hup_s _ _ _)
        have s451 : ((upd f40 w46.toNatClampNeg (0 : Int32)) 4).toInt = (f40 4).toInt := by rw [now4_n (by omega) (by omega)]
        generalize (upd f40 w46.toNatClampNeg (0 : Int32)) = f47 at *
        have l_1 : (1 : Int32).toInt = 1 := by decide
        obtain ⟨w52, ew52⟩ : ∃ w : Int32, w = x1_31 + Int32.ofInt 1 := ⟨_, rfl⟩
        have fw52 : w52.toInt = x1_31.toInt + (1) := by rw [ew52]; exact i_addk (by decide) (by omega) (by omega)
        refine x_iinc (v := w52) C 0 [(1, .int w52), (0, .ref (z + 134))] dX10_anew_69 rfl ew52.symm (by decide) rfl ?_
        refine x_goto C 31 dX10_anew_72 (by decide) ?_
        exact ih31 (7 - w52.toInt).toNat (by omega) u48 hTu48 w52 (by omega) (by omega) rfl
  refine x_aload_n C 0 dX10_anew_0 rfl rfl ?_
  obtain ⟨c54_0, c54_2, c54_3, c54_4, c54_5, c54_6, c54_7, c54_8, c54_9, c54_15, c54_16, c54_17, c54_18, c54_25, c54_26, c54_28, c54_30, c54_31, c54_32, c54_34, c54_37, hc54, qc54_0, qc54_1, qc54_2, qc54_3, qc54_4, qc54_5, qc54_6, qc54_7, qc54_8, qc54_9, qc54_10, qc54_11, qc54_12, qc54_13, qc54_14, qc54_15, qc54_16, qc54_17, qc54_18, qc54_19, qc54_20, qc54_21, qc54_22, qc54_23, qc54_24, qc54_25, qc54_26, qc54_27, qc54_28⟩ := tn_134 hTy0
  refine x_callVP C cl_X10_isBridge kmX10_239 (ci := 9) (b := 134) (As := []) (rest := []) rfl hc54 (tc_X10_isBridge uu0 hTy0.1) rfl rfl (Nat.le_of_ble_eq_true rfl) ⟨Nat.le_of_ble_eq_true rfl, Nat.le_of_ble_eq_true rfl⟩ ⟨Nat.le_of_ble_eq_true rfl, Nat.le_of_ble_eq_true rfl⟩ dX10_anew_1 ?_
  rintro _ _ ⟨rfl, r53, rfl, gr53⟩
  refine x_norm (st2 := [.int r53]) rfl rfl rfl rfl rfl ?_
  have l_0 : (0 : Int32).toInt = 0 := by decide
  refine x_if_ne C 10 dX10_anew_4 (by decide) (fun q56 => ?_) (fun q56 => ?_)
  · have rq56 : ¬ r53.toInt = (0 : Int32).toInt := by rw [i_eq_iff] at q56; omega
    refine x_aload_n C 0 dX10_anew_10 rfl rfl ?_
    refine gfX10_47 C dX10_anew_11 hc54 rfl ?_
    refine x_iconst (v := (1 : Int32)) C dX10_anew_14 (by decide) ?_
    obtain ⟨f57, hf57, qf57_0⟩ := tn_146 hTy0
    have l_1 : (1 : Int32).toInt = 1 := by decide
    refine x_iald C hf57 (i_in (by omega) (by omega)) dX10_anew_15 ?_
    refine x_top (fun w58 ew58 => ?_)
    have fw58_0 : ((1 : Int32).toInt = 4 → -1 ≤ w58.toInt ∧ w58.toInt ≤ 6 * g 0 - 1) ∧ ((1 : Int32).toInt = 6 → -1 ≤ w58.toInt ∧ w58.toInt ≤ 7) := by rw [ew58]; exact ap_get (P := fun (i x : Int) => (i = 4 → -1 ≤ x ∧ x ≤ 6 * g 0 - 1) ∧ (i = 6 → -1 ≤ x ∧ x ≤ 7)) qf57_0 (by omega) (by omega)
    refine x_sipush (v := (9000 : Int32)) C dX10_anew_16 (by decide) ?_
    have l_9000 : (9000 : Int32).toInt = 9000 := by decide
    refine x_icmp_ne C 25 dX10_anew_19 (by decide) (fun q59 => ?_) (fun q59 => ?_)
    · have rq59 : ¬ w58.toInt = (9000 : Int32).toInt := by rw [i_eq_iff] at q59; omega
      refine x_aload_n C 0 dX10_anew_25 rfl rfl ?_
      have sh60 : (seOf uu0).toInt = (f57 4).toInt := by rw [seOf_eq hf57]
      have sq61 := qf57_0 4 (by decide)
      refine x_callVP C cl_X10_remember kmX10_216 (ci := 9) (b := 134) (As := []) (rest := []) rfl hc54 (tc_X10_remember uu0 hTy0.1 (by omega)) rfl rfl (Nat.le_of_ble_eq_true rfl) ⟨Nat.le_of_ble_eq_true rfl, Nat.le_of_ble_eq_true rfl⟩ ⟨Nat.le_of_ble_eq_true rfl, Nat.le_of_ble_eq_true rfl⟩ dX10_anew_26 ?_
      rintro _ u62 ⟨ju62, pvu62, rfl⟩
      have hTu62 := hTy0.tr ju62
      refine x_norm (st2 := []) rfl rfl rfl rfl rfl ?_
      refine x_iconst (v := (0 : Int32)) C dX10_anew_29 (by decide) ?_
      refine x_istore_n C [(1, .int (0 : Int32)), (0, .ref (z + 134))] dX10_anew_30 rfl (by decide) rfl ?_
      exact J31 (7 - (0 : Int32).toInt).toNat u62 hTu62 (0 : Int32) (by omega) (by omega) rfl
    · have rq59 : w58.toInt = (9000 : Int32).toInt := by rw [i_eq_iff] at q59; omega
      refine x_ldc C kcX10_90 dX10_anew_22 ?_
      have l_m1000000004 : (-1000000004 : Int32).toInt = -1000000004 := by decide
      exact x_iretP C hr hlk (Nat.le_refl _) (Nat.le_refl _) dX10_anew_24 ⟨hTy0, (-1000000004 : Int32), rfl, trivial⟩
  · have rq56 : r53.toInt = (0 : Int32).toInt := by rw [i_eq_iff] at q56; omega
    refine x_ldc C kcX10_215 dX10_anew_7 ?_
    have l_m1000000003 : (-1000000003 : Int32).toInt = -1000000003 := by decide
    exact x_iretP C hr hlk (Nat.le_refl _) (Nat.le_refl _) dX10_anew_9 ⟨hTy0, (-1000000003 : Int32), rfl, trivial⟩
