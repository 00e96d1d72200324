set_option maxRecDepth 20000 in
set_option maxHeartbeats 2000000 in
theorem tc_X2_add {G : GT} {l : Launch} {z n : Nat} {ln : Int} (uu0 : HpT) (hTz0 : TyC G z ln uu0) (b cp : Nat) (hb : EnO b cp) (a1 : Int32) (a2 : Int32) : Mp G l z yX2_add cX2_add 3 (some .boolean) { frames := 0, cells := 0, slots := 0, locals := 0 } [.ref (z + b), .int a1, .int a2] uu0 n (fun r v => TC G z ln uu0 v ∧ ∃ x : Int32, r = some (.int x) ∧ 0 ≤ x.toInt ∧ x.toInt ≤ 1) := by
  refine mp_of (by decide +kernel) (Nat.le_of_ble_eq_true rfl) ?_
  intro p e s m below meth c C hr hlk hnm
  have hcp_b : (b = 106 ∧ cp = 6) ∨ (b = 109 ∧ cp = 20) := hb
  have hTy0 : TC G z ln uu0 uu0 := TC.rf hTz0
  have J24 : ∀ (u_24 : HpT) (hT_24 : TC G z ln uu0 u_24), Xw p l e ({ frames := 0, cells := 0, slots := 0, locals := 0 } : Room) s m ([.ref (z + b), .int a1, .int a2] : List Value).toArray below meth c G z 3 (MQ below (Qp G z n (fun r v => TC G z ln uu0 v ∧ ∃ x : Int32, r = some (.int x) ∧ 0 ≤ x.toInt ∧ x.toInt ≤ 1)) ([.ref (z + b), .int a1, .int a2] : List Value).toArray s 0 0 (zA z)) 24 [(0, .ref (z + b)), (1, .int a1), (2, .int a2)] [] u_24 n 0 0 := by
    intro u_24 hT_24
    refine x_iconst (v := (0 : Int32)) C dX2_add_24 (by decide) ?_
    have l_0 : (0 : Int32).toInt = 0 := by decide
    exact x_zretP C hr hlk (Nat.le_refl _) (Nat.le_refl _) dX2_add_25 (i_bool (by omega)) ⟨hT_24, (0 : Int32), rfl, by omega⟩
  refine x_aload_n C 0 dX2_add_0 rfl rfl ?_
  obtain ⟨c1_2, hc1, qc1_0, qc1_1⟩ := ty_en hTy0 hb
  refine gfX2_9 C dX2_add_1 hc1 rfl ?_
  refine x_aload_n C 0 dX2_add_4 rfl rfl ?_
  refine gfX2_21 C dX2_add_5 hc1 rfl ?_
  obtain ⟨f2, hf2⟩ := ty_enA hTy0 hb 1 (by decide) (by decide)
  refine x_alen (v := Int32.ofNat cp) C 0 hf2 rfl rfl dX2_add_8 ?_
  refine x_top (fun w3 ew3 => ?_)
  have fw3_0 : w3.toInt = cp := by rw [ew3]; exact i_ofnat (by omega)
  refine x_icmp_ge C 24 dX2_add_9 (by decide) (fun q4 => ?_) (fun q4 => ?_)
  · have rq4 : c1_2.toInt ≥ w3.toInt := by rw [Int32.le_iff_toInt_le] at q4; omega
    exact J24 uu0 hTy0 
  · have rq4 : c1_2.toInt < w3.toInt := by rw [Int32.le_iff_toInt_le] at q4; omega
    refine x_aload_n C 0 dX2_add_12 rfl rfl ?_
    refine gfX2_9 C dX2_add_13 hc1 rfl ?_
    refine x_aload_n C 0 dX2_add_16 rfl rfl ?_
    refine gfX2_25 C dX2_add_17 hc1 rfl ?_
    obtain ⟨f5, hf5⟩ := ty_enA hTy0 hb 2 (by decide) (by decide)
    refine x_alen (v := Int32.ofNat cp) C 0 hf5 rfl rfl dX2_add_20 ?_
    refine x_top (fun w6 ew6 => ?_)
    have fw6_0 : w6.toInt = cp := by rw [ew6]; exact i_ofnat (by omega)
    refine x_icmp_lt C 26 dX2_add_21 (by decide) (fun q7 => ?_) (fun q7 => ?_)
    · have rq7 : c1_2.toInt < w6.toInt := by rw [Int32.lt_iff_toInt_lt] at q7; omega
      refine x_aload_n C 0 dX2_add_26 rfl rfl ?_
      refine gfX2_21 C dX2_add_27 hc1 rfl ?_
      refine x_aload_n C 0 dX2_add_30 rfl rfl ?_
      refine gfX2_9 C dX2_add_31 hc1 rfl ?_
      refine x_iload_n C 1 dX2_add_34 rfl rfl ?_
      refine x_iast C hf2 (i_in (by omega) (by omega)) dX2_add_35 ?_
      obtain ⟨u8, eu8⟩ : ∃ w : HpT, w = hup uu0 (b + 1) (aI G cp (upd f2 c1_2.toNatClampNeg a1)) := ⟨_, rfl⟩
      refine x_heap (u2 := u8) eu8.symm ?_
      have hTu8 : TC G z ln uu0 u8 := by rw [eu8]; exact hTy0.upEnA hb 1 (by decide) (by decide)
      have hn11 := (congrFun eu8 (b + 1)).trans (hup_s _ _ _)
      generalize (upd f2 c1_2.toNatClampNeg a1) = f12 at *
      refine x_aload_n C 0 dX2_add_36 rfl rfl ?_
      have k13 := (congrFun eu8 b).trans (hup_n' (by omega) hc1)
      refine gfX2_25 C dX2_add_37 k13 rfl ?_
      refine x_aload_n C 0 dX2_add_40 rfl rfl ?_
      refine gfX2_9 C dX2_add_41 k13 rfl ?_
      refine x_iload_n C 2 dX2_add_44 rfl rfl ?_
      have k14 := (congrFun eu8 (b + 2)).trans (hup_n' (by omega) hf5)
      refine x_iast C k14 (i_in (by omega) (by omega)) dX2_add_45 ?_
      obtain ⟨u15, eu15⟩ : ∃ w : HpT, w = hup u8 (b + 2) (aI G cp (upd f5 c1_2.toNatClampNeg a2)) := ⟨_, rfl⟩
      refine x_heap (u2 := u15) eu15.symm ?_
      have hTu15 : TC G z ln uu0 u15 := by rw [eu15]; exact hTu8.upEnA hb 2 (by decide) (by decide)
      have hn18 := (congrFun eu15 (b + 2)).trans (hup_s _ _ _)
      generalize (upd f5 c1_2.toNatClampNeg a2) = f19 at *
      refine x_aload_n C 0 dX2_add_46 rfl rfl ?_
      refine x_dup C dX2_add_47 rfl ?_
      have k20 := (congrFun eu15 b).trans (hup_n' (by omega) k13)
      refine gfX2_9 C dX2_add_48 k20 rfl ?_
      refine x_iconst (v := (1 : Int32)) C dX2_add_51 (by decide) ?_
      refine x_iadd C dX2_add_52 ?_
      have l_1 : (1 : Int32).toInt = 1 := by decide
      refine x_top (fun w21 ew21 => ?_)
      have fw21_0 : w21.toInt = c1_2.toInt + (1 : Int32).toInt := by rw [ew21]; exact i_add (by omega) (by omega)
      obtain ⟨u22, eu22⟩ : ∃ w : HpT, w = hup u15 b (.inr (1, [.ref (z + (b + 1)), .ref (z + (b + 2)), .int w21])) := ⟨_, rfl⟩
      refine pfX2_9 C dX2_add_53 k20 (Nat.le_of_ble_eq_true rfl) rfl eu22.symm ?_
      have hTu22 : TC G z ln uu0 u22 := by rw [eu22]; exact hTu15.upEn hb (by omega)
      have hn25 := (congrFun eu22 b).trans (hup_s _ _ _)
      refine x_iconst (v := (1 : Int32)) C dX2_add_56 (by decide) ?_
      exact x_zretP C hr hlk (Nat.le_refl _) (Nat.le_refl _) dX2_add_57 (i_bool (by omega)) ⟨hTu22, (1 : Int32), rfl, by omega⟩
    · have rq7 : c1_2.toInt ≥ w6.toInt := by rw [Int32.lt_iff_toInt_lt] at q7; omega
      exact J24 uu0 hTy0 
set_option maxRecDepth 20000 in
set_option maxHeartbeats 2000000 in
theorem tc_X2_forget {G : GT} {l : Launch} {z n : Nat} {ln : Int} (uu0 : HpT) (hTz0 : TyC G z ln uu0) (b cp : Nat) (hb : EnO b cp) : Mp G l z yX2_forget cX2_forget 1 none { frames := 0, cells := 0, slots := 0, locals := 0 } [.ref (z + b)] uu0 n (fun r v => TC G z ln uu0 v ∧ r = none) := by
  refine mp_of (by decide +kernel) (Nat.le_of_ble_eq_true rfl) ?_
  intro p e s m below meth c C hr hlk hnm
  have hcp_b : (b = 106 ∧ cp = 6) ∨ (b = 109 ∧ cp = 20) := hb
  have hTy0 : TC G z ln uu0 uu0 := TC.rf hTz0
  refine x_aload_n C 0 dX2_forget_0 rfl rfl ?_
  refine x_iconst (v := (0 : Int32)) C dX2_forget_1 (by decide) ?_
  obtain ⟨c1_2, hc1, qc1_0, qc1_1⟩ := ty_en hTy0 hb
  have l_0 : (0 : Int32).toInt = 0 := by decide
  obtain ⟨u2, eu2⟩ : ∃ w : HpT, w = hup uu0 b (.inr (1, [.ref (z + (b + 1)), .ref (z + (b + 2)), .int (0 : Int32)])) := ⟨_, rfl⟩
  refine pfX2_9 C dX2_forget_2 hc1 (Nat.le_of_ble_eq_true rfl) rfl eu2.symm ?_
  have hTu2 : TC G z ln uu0 u2 := by rw [eu2]; exact hTy0.upEn hb (by omega)
  have hn3 := (congrFun eu2 b).trans (hup_s _ _ _)
  exact x_vretP C hr hlk (Nat.le_refl _) (Nat.le_refl _) dX2_forget_5 ⟨hTu2, rfl⟩
set_option maxRecDepth 20000 in
set_option maxHeartbeats 2000000 in
theorem tc_X2_fits {G : GT} {l : Launch} {z n : Nat} {ln : Int} (uu0 : HpT) (hTz0 : TyC G z ln uu0) (b cp : Nat) (hb : EnO b cp) (k : Nat) (hk : BrO k) (a2 : Int32) : Mp G l z yX2_fits cX2_fits 4 (some .boolean) { frames := 2, cells := 0, slots := 0, locals := 43 } [.ref (z + b), .ref (z + k), .int a2] uu0 n (fun r v => uu0 = v ∧ ∃ x : Int32, r = some (.int x) ∧ 0 ≤ x.toInt ∧ x.toInt ≤ 1) := by
  refine mp_of (by decide +kernel) (Nat.le_of_ble_eq_true rfl) ?_
  intro p e s m below meth c C hr hlk hnm
  have hcp_b : (b = 106 ∧ cp = 6) ∨ (b = 109 ∧ cp = 20) := hb
  have hbb_k : k = 112 ∨ k = 119 := hk
  have hTy0 : TC G z ln uu0 uu0 := TC.rf hTz0
  have J2 : ∀ (d : Nat) (x3_2 : Int32) (hl_x3_2 : 0 ≤ x3_2.toInt) (hh_x3_2 : x3_2.toInt ≤ 20) (hd : d = (21 - x3_2.toInt).toNat), Xw p l e ({ frames := 2, cells := 0, slots := 0, locals := 43 } : Room) s m ([.ref (z + b), .ref (z + k), .int a2] : List Value).toArray below meth c G z 4 (MQ below (Qp G z n (fun r v => uu0 = v ∧ ∃ x : Int32, r = some (.int x) ∧ 0 ≤ x.toInt ∧ x.toInt ≤ 1)) ([.ref (z + b), .ref (z + k), .int a2] : List Value).toArray s 0 0 (zA z)) 2 [(3, .int x3_2), (0, .ref (z + b)), (1, .ref (z + k)), (2, .int a2)] [] uu0 n 0 0 := by
    intro d
    induction d using Nat.strongRecOn with
    | _ d ih2 =>
      intro  x3_2 hl_x3_2 hh_x3_2 hd2
      refine x_iload_n C 0 dX2_fits_2 rfl rfl ?_
      refine x_aload_n C 1 dX2_fits_3 rfl rfl ?_
      obtain ⟨c1_2, hc1, qc1_0, qc1_1⟩ := ty_en hTy0 hb
      refine gfX2_9 C dX2_fits_4 hc1 rfl ?_
      refine x_icmp_ge C 38 dX2_fits_7 (by decide) (fun q2 => ?_) (fun q2 => ?_)
      · have rq2 : x3_2.toInt ≥ c1_2.toInt := by rw [Int32.le_iff_toInt_le] at q2; omega
        refine x_iconst (v := (1 : Int32)) C dX2_fits_38 (by decide) ?_
        have l_1 : (1 : Int32).toInt = 1 := by decide
        exact x_zretP C hr hlk (Nat.le_refl _) (Nat.le_refl _) dX2_fits_39 (i_bool (by omega)) ⟨rfl, (1 : Int32), rfl, by omega⟩
      · have rq2 : x3_2.toInt < c1_2.toInt := by rw [Int32.le_iff_toInt_le] at q2; omega
        refine x_aload_n C 2 dX2_fits_10 rfl rfl ?_
        refine x_aload_n C 1 dX2_fits_11 rfl rfl ?_
        refine gfX2_21 C dX2_fits_12 hc1 rfl ?_
        refine x_iload_n C 0 dX2_fits_15 rfl rfl ?_
        obtain ⟨f3, hf3⟩ := ty_enA hTy0 hb 1 (by decide) (by decide)
        refine x_iald C hf3 (i_in (by omega) (by omega)) dX2_fits_16 ?_
        refine x_top (fun w4 ew4 => ?_)
        refine x_iload_n C 3 dX2_fits_17 rfl rfl ?_
        obtain ⟨c6_0, c6_1, c6_2, c6_3, hc6, qc6_0, qc6_1, qc6_2, qc6_3⟩ := ty_br hTy0 hk
        refine x_callVP C cl_X1_stayOf kmX2_37 (ci := 0) (b := k) (As := [.int w4, .int a2]) (rest := []) rfl hc6 (tc_X1_stayOf uu0 hTy0.1 k hk w4 a2) rfl rfl (Nat.le_of_ble_eq_true rfl) ⟨Nat.le_of_ble_eq_true rfl, Nat.le_of_ble_eq_true rfl⟩ ⟨Nat.le_of_ble_eq_true rfl, Nat.le_of_ble_eq_true rfl⟩ dX2_fits_18 ?_
        rintro _ _ ⟨rfl, r5, rfl, gr5⟩
        refine x_norm (st2 := [.int r5]) rfl rfl rfl rfl rfl ?_
        refine x_aload_n C 1 dX2_fits_21 rfl rfl ?_
        refine gfX2_25 C dX2_fits_22 hc1 rfl ?_
        refine x_iload_n C 0 dX2_fits_25 rfl rfl ?_
        obtain ⟨f8, hf8⟩ := ty_enA hTy0 hb 2 (by decide) (by decide)
        refine x_iald C hf8 (i_in (by omega) (by omega)) dX2_fits_26 ?_
        refine x_top (fun w9 ew9 => ?_)
        refine x_icmp_eq C 32 dX2_fits_27 (by decide) (fun q10 => ?_) (fun q10 => ?_)
        · have rq10 : r5.toInt = w9.toInt := by rw [i_eq_iff] at q10; omega
          have l_1 : (1 : Int32).toInt = 1 := by decide
          obtain ⟨w11, ew11⟩ : ∃ w : Int32, w = x3_2 + Int32.ofInt 1 := ⟨_, rfl⟩
          have fw11 : w11.toInt = x3_2.toInt + (1) := by rw [ew11]; exact i_addk (by decide) (by omega) (by omega)
          refine x_iinc (v := w11) C 0 [(3, .int w11), (0, .ref (z + b)), (1, .ref (z + k)), (2, .int a2)] dX2_fits_32 rfl ew11.symm (by decide) rfl ?_
          refine x_goto C 2 dX2_fits_35 (by decide) ?_
          exact ih2 (21 - w11.toInt).toNat (by omega)  w11 (by omega) (by omega) rfl
        · have rq10 : ¬ r5.toInt = w9.toInt := by rw [i_eq_iff] at q10; omega
          refine x_iconst (v := (0 : Int32)) C dX2_fits_30 (by decide) ?_
          have l_0 : (0 : Int32).toInt = 0 := by decide
          exact x_zretP C hr hlk (Nat.le_refl _) (Nat.le_refl _) dX2_fits_31 (i_bool (by omega)) ⟨rfl, (0 : Int32), rfl, by omega⟩
  refine x_iconst (v := (0 : Int32)) C dX2_fits_0 (by decide) ?_
  refine x_istore_n C [(3, .int (0 : Int32)), (0, .ref (z + b)), (1, .ref (z + k)), (2, .int a2)] dX2_fits_1 rfl (by decide) rfl ?_
  have l_0 : (0 : Int32).toInt = 0 := by decide
  exact J2 (21 - (0 : Int32).toInt).toNat  (0 : Int32) (by omega) (by omega) rfl
set_option maxRecDepth 20000 in
set_option maxHeartbeats 2000000 in
theorem tc_X2_fitting {G : GT} {l : Launch} {z n : Nat} {ln : Int} (uu0 : HpT) (hTz0 : TyC G z ln uu0) (b cp : Nat) (hb : EnO b cp) (k : Nat) (hk : BrO k) : Mp G l z yX2_fitting cX2_fitting 4 (some .int) { frames := 3, cells := 0, slots := 0, locals := 66 } [.ref (z + b), .ref (z + k)] uu0 n (fun r v => uu0 = v ∧ ∃ x : Int32, r = some (.int x) ∧ True) := by
  refine mp_of (by decide +kernel) (Nat.le_of_ble_eq_true rfl) ?_
  intro p e s m below meth c C hr hlk hnm
  have hcp_b : (b = 106 ∧ cp = 6) ∨ (b = 109 ∧ cp = 20) := hb
  have hbb_k : k = 112 ∨ k = 119 := hk
  have hTy0 : TC G z ln uu0 uu0 := TC.rf hTz0
  have J4 : ∀ (d : Nat) (x3_4 : Int32) (hl_x3_4 : 0 ≤ x3_4.toInt) (hh_x3_4 : x3_4.toInt ≤ 8) (x2_4 : Int32) (hd : d = (9 - x3_4.toInt).toNat), Xw p l e ({ frames := 3, cells := 0, slots := 0, locals := 66 } : Room) s m ([.ref (z + b), .ref (z + k)] : List Value).toArray below meth c G z 4 (MQ below (Qp G z n (fun r v => uu0 = v ∧ ∃ x : Int32, r = some (.int x) ∧ True)) ([.ref (z + b), .ref (z + k)] : List Value).toArray s 0 0 (zA z)) 4 [(3, .int x3_4), (2, .int x2_4), (0, .ref (z + b)), (1, .ref (z + k))] [] uu0 n 0 0 := by
    intro d
    induction d using Nat.strongRecOn with
    | _ d ih4 =>
      intro  x3_4 hl_x3_4 hh_x3_4 x2_4 hd4
      have J27 : ∀ (x2_27 : Int32) (nl_x3_4_27 : 0 ≤ x3_4.toInt) (nh_x3_4_27 : x3_4.toInt ≤ 7), Xw p l e ({ frames := 3, cells := 0, slots := 0, locals := 66 } : Room) s m ([.ref (z + b), .ref (z + k)] : List Value).toArray below meth c G z 4 (MQ below (Qp G z n (fun r v => uu0 = v ∧ ∃ x : Int32, r = some (.int x) ∧ True)) ([.ref (z + b), .ref (z + k)] : List Value).toArray s 0 0 (zA z)) 27 [(3, .int x3_4), (2, .int x2_27), (0, .ref (z + b)), (1, .ref (z + k))] [] uu0 n 0 0 := by
        intro  x2_27 nl_x3_4_27 nh_x3_4_27
        have l_1 : (1 : Int32).toInt = 1 := by decide
        obtain ⟨w1, ew1⟩ : ∃ w : Int32, w = x3_4 + Int32.ofInt 1 := ⟨_, rfl⟩
        have fw1 : w1.toInt = x3_4.toInt + (1) := by rw [ew1]; exact i_addk (by decide) (by omega) (by omega)
        refine x_iinc (v := w1) C 0 [(3, .int w1), (2, .int x2_27), (0, .ref (z + b)), (1, .ref (z + k))] dX2_fitting_27 rfl ew1.symm (by decide) rfl ?_
        refine x_goto C 4 dX2_fitting_30 (by decide) ?_
        exact ih4 (9 - w1.toInt).toNat (by omega)  w1 (by omega) (by omega) x2_27 rfl
      refine x_iload_n C 0 dX2_fitting_4 rfl rfl ?_
      refine x_aload_n C 3 dX2_fitting_5 rfl rfl ?_
      obtain ⟨c2_0, c2_1, c2_2, c2_3, hc2, qc2_0, qc2_1, qc2_2, qc2_3⟩ := ty_br hTy0 hk
      refine gfX2_28 C dX2_fitting_6 hc2 rfl ?_
      refine x_icmp_ge C 33 dX2_fitting_9 (by decide) (fun q3 => ?_) (fun q3 => ?_)
      · have rq3 : x3_4.toInt ≥ c2_2.toInt := by rw [Int32.le_iff_toInt_le] at q3; omega
        refine x_iload_n C 1 dX2_fitting_33 rfl rfl ?_
        exact x_iretP C hr hlk (Nat.le_refl _) (Nat.le_refl _) dX2_fitting_34 ⟨rfl, x2_4, rfl, trivial⟩
      · have rq3 : x3_4.toInt < c2_2.toInt := by rw [Int32.le_iff_toInt_le] at q3; omega
        refine x_aload_n C 2 dX2_fitting_12 rfl rfl ?_
        refine x_aload_n C 3 dX2_fitting_13 rfl rfl ?_
        refine x_iload_n C 0 dX2_fitting_14 rfl rfl ?_
        obtain ⟨c5_2, hc5, qc5_0, qc5_1⟩ := ty_en hTy0 hb
        refine x_callVP C cl_X2_fits kmX2_33 (ci := 1) (b := b) (As := [.ref (z + k), .int x3_4]) (rest := []) rfl hc5 (tc_X2_fits uu0 hTy0.1 b cp hb k hk x3_4) rfl rfl (Nat.le_of_ble_eq_true rfl) ⟨Nat.le_of_ble_eq_true rfl, Nat.le_of_ble_eq_true rfl⟩ ⟨Nat.le_of_ble_eq_true rfl, Nat.le_of_ble_eq_true rfl⟩ dX2_fitting_15 ?_
        rintro _ _ ⟨rfl, r4, rfl, gr4⟩
        refine x_norm (st2 := [.int r4]) rfl rfl rfl rfl rfl ?_
        have l_0 : (0 : Int32).toInt = 0 := by decide
        refine x_if_eq C 27 dX2_fitting_18 (by decide) (fun q7 => ?_) (fun q7 => ?_)
        · have rq7 : r4.toInt = (0 : Int32).toInt := by rw [i_eq_iff] at q7; omega
          exact J27  x2_4 (by omega) (by omega)
        · have rq7 : ¬ r4.toInt = (0 : Int32).toInt := by rw [i_eq_iff] at q7; omega
          refine x_iload_n C 1 dX2_fitting_21 rfl rfl ?_
          refine x_iconst (v := (1 : Int32)) C dX2_fitting_22 (by decide) ?_
          refine x_iload_n C 0 dX2_fitting_23 rfl rfl ?_
          refine x_ishl C dX2_fitting_24 ?_
          have l_1 : (1 : Int32).toInt = 1 := by decide
          refine x_top (fun w8 ew8 => ?_)
          refine x_ior C dX2_fitting_25 ?_
          refine x_top (fun w9 ew9 => ?_)
          refine x_istore_n C [(2, .int w9), (3, .int x3_4), (0, .ref (z + b)), (1, .ref (z + k))] dX2_fitting_26 rfl (by decide) rfl ?_
          refine x_mv (lo2 := [(3, .int x3_4), (2, .int w9), (0, .ref (z + b)), (1, .ref (z + k))]) [1, 0, 2, 3] rfl ?_
          exact J27  w9 (by omega) (by omega)
  refine x_iconst (v := (0 : Int32)) C dX2_fitting_0 (by decide) ?_
  refine x_istore_n C [(2, .int (0 : Int32)), (0, .ref (z + b)), (1, .ref (z + k))] dX2_fitting_1 rfl (by decide) rfl ?_
  refine x_iconst (v := (0 : Int32)) C dX2_fitting_2 (by decide) ?_
  refine x_istore_n C [(3, .int (0 : Int32)), (2, .int (0 : Int32)), (0, .ref (z + b)), (1, .ref (z + k))] dX2_fitting_3 rfl (by decide) rfl ?_
  have l_0 : (0 : Int32).toInt = 0 := by decide
  exact J4 (9 - (0 : Int32).toInt).toNat  (0 : Int32) (by omega) (by omega) (0 : Int32) rfl
set_option maxRecDepth 20000 in
set_option maxHeartbeats 2000000 in
theorem tc_X2_firstWrong {G : GT} {l : Launch} {z n : Nat} {ln : Int} (uu0 : HpT) (hTz0 : TyC G z ln uu0) (b cp : Nat) (hb : EnO b cp) : Mp G l z yX2_firstWrong cX2_firstWrong 4 (some .int) { frames := 0, cells := 0, slots := 0, locals := 0 } [.ref (z + b), .ref (z + (3 + 2))] uu0 n (fun r v => uu0 = v ∧ ∃ x : Int32, r = some (.int x) ∧ True) := by
  refine mp_of (by decide +kernel) (Nat.le_of_ble_eq_true rfl) ?_
  intro p e s m below meth c C hr hlk hnm
  have hcp_b : (b = 106 ∧ cp = 6) ∨ (b = 109 ∧ cp = 20) := hb
  have hTy0 : TC G z ln uu0 uu0 := TC.rf hTz0
  have J39 : ∀ (x3_39 : Int32) (x2_39 : Int32) (hl_x2_39 : 0 ≤ x2_39.toInt) (hh_x2_39 : x2_39.toInt ≤ 19), Xw p l e ({ frames := 0, cells := 0, slots := 0, locals := 0 } : Room) s m ([.ref (z + b), .ref (z + (3 + 2))] : List Value).toArray below meth c G z 4 (MQ below (Qp G z n (fun r v => uu0 = v ∧ ∃ x : Int32, r = some (.int x) ∧ True)) ([.ref (z + b), .ref (z + (3 + 2))] : List Value).toArray s 0 0 (zA z)) 39 [(3, .int x3_39), (2, .int x2_39), (0, .ref (z + b)), (1, .ref (z + (3 + 2)))] [] uu0 n 0 0 := by
    intro  x3_39 x2_39 hl_x2_39 hh_x2_39
    refine x_iload_n C 1 dX2_firstWrong_39 rfl rfl ?_
    exact x_iretP C hr hlk (Nat.le_refl _) (Nat.le_refl _) dX2_firstWrong_40 ⟨rfl, x2_39, rfl, trivial⟩
  have J2 : ∀ (d : Nat) (x2_2 : Int32) (hl_x2_2 : 0 ≤ x2_2.toInt) (hh_x2_2 : x2_2.toInt ≤ 20) (hd : d = (21 - x2_2.toInt).toNat), Xw p l e ({ frames := 0, cells := 0, slots := 0, locals := 0 } : Room) s m ([.ref (z + b), .ref (z + (3 + 2))] : List Value).toArray below meth c G z 4 (MQ below (Qp G z n (fun r v => uu0 = v ∧ ∃ x : Int32, r = some (.int x) ∧ True)) ([.ref (z + b), .ref (z + (3 + 2))] : List Value).toArray s 0 0 (zA z)) 2 [(2, .int x2_2), (0, .ref (z + b)), (1, .ref (z + (3 + 2)))] [] uu0 n 0 0 := by
    intro d
    induction d using Nat.strongRecOn with
    | _ d ih2 =>
      intro  x2_2 hl_x2_2 hh_x2_2 hd2
      refine x_iload_n C 0 dX2_firstWrong_2 rfl rfl ?_
      refine x_aload_n C 1 dX2_firstWrong_3 rfl rfl ?_
      obtain ⟨c1_2, hc1, qc1_0, qc1_1⟩ := ty_en hTy0 hb
      refine gfX2_9 C dX2_firstWrong_4 hc1 rfl ?_
      refine x_icmp_ge C 47 dX2_firstWrong_7 (by decide) (fun q2 => ?_) (fun q2 => ?_)
      · have rq2 : x2_2.toInt ≥ c1_2.toInt := by rw [Int32.le_iff_toInt_le] at q2; omega
        refine x_iconst (v := (-1 : Int32)) C dX2_firstWrong_47 (by decide) ?_
        have l_m1 : (-1 : Int32).toInt = -1 := by decide
        exact x_iretP C hr hlk (Nat.le_refl _) (Nat.le_refl _) dX2_firstWrong_48 ⟨rfl, (-1 : Int32), rfl, trivial⟩
      · have rq2 : x2_2.toInt < c1_2.toInt := by rw [Int32.le_iff_toInt_le] at q2; omega
        refine x_aload_n C 1 dX2_firstWrong_10 rfl rfl ?_
        refine gfX2_21 C dX2_firstWrong_11 hc1 rfl ?_
        refine x_iload_n C 0 dX2_firstWrong_14 rfl rfl ?_
        obtain ⟨f3, hf3⟩ := ty_enA hTy0 hb 1 (by decide) (by decide)
        refine x_iald C hf3 (i_in (by omega) (by omega)) dX2_firstWrong_15 ?_
        refine x_top (fun w4 ew4 => ?_)
        refine x_istore_n C [(3, .int w4), (2, .int x2_2), (0, .ref (z + b)), (1, .ref (z + (3 + 2)))] dX2_firstWrong_16 rfl (by decide) rfl ?_
        refine x_iload_n C 0 dX2_firstWrong_17 rfl rfl ?_
        have l_0 : (0 : Int32).toInt = 0 := by decide
        refine x_if_lt C 39 dX2_firstWrong_18 (by decide) (fun q5 => ?_) (fun q5 => ?_)
        · have rq5 : w4.toInt < (0 : Int32).toInt := by rw [Int32.lt_iff_toInt_lt] at q5; omega
          exact J39  w4 x2_2 (by omega) (by omega)
        · have rq5 : w4.toInt ≥ (0 : Int32).toInt := by rw [Int32.lt_iff_toInt_lt] at q5; omega
          refine x_iload_n C 0 dX2_firstWrong_21 rfl rfl ?_
          refine x_aload_n C 3 dX2_firstWrong_22 rfl rfl ?_
          obtain ⟨f6, hf6⟩ := ty_evA hTy0 (Or.inl rfl) 2 (by decide) (by decide)
          refine x_alen (v := (6 : Int32)) C 0 hf6 rfl rfl dX2_firstWrong_23 ?_
          have l_6 : (6 : Int32).toInt = 6 := by decide
          refine x_icmp_ge C 39 dX2_firstWrong_24 (by decide) (fun q7 => ?_) (fun q7 => ?_)
          · have rq7 : w4.toInt ≥ (6 : Int32).toInt := by rw [Int32.le_iff_toInt_le] at q7; omega
            exact J39  w4 x2_2 (by omega) (by omega)
          · have rq7 : w4.toInt < (6 : Int32).toInt := by rw [Int32.le_iff_toInt_le] at q7; omega
            refine x_aload_n C 3 dX2_firstWrong_27 rfl rfl ?_
            refine x_iload_n C 0 dX2_firstWrong_28 rfl rfl ?_
            refine x_iald C hf6 (i_in (by omega) (by omega)) dX2_firstWrong_29 ?_
            refine x_top (fun w8 ew8 => ?_)
            refine x_aload_n C 2 dX2_firstWrong_30 rfl rfl ?_
            refine gfX2_25 C dX2_firstWrong_31 hc1 rfl ?_
            refine x_iload_n C 1 dX2_firstWrong_34 rfl rfl ?_
            obtain ⟨f9, hf9⟩ := ty_enA hTy0 hb 2 (by decide) (by decide)
            refine x_iald C hf9 (i_in (by omega) (by omega)) dX2_firstWrong_35 ?_
            refine x_top (fun w10 ew10 => ?_)
            refine x_icmp_eq C 41 dX2_firstWrong_36 (by decide) (fun q11 => ?_) (fun q11 => ?_)
            · have rq11 : w8.toInt = w10.toInt := by rw [i_eq_iff] at q11; omega
              have l_1 : (1 : Int32).toInt = 1 := by decide
              obtain ⟨w12, ew12⟩ : ∃ w : Int32, w = x2_2 + Int32.ofInt 1 := ⟨_, rfl⟩
              have fw12 : w12.toInt = x2_2.toInt + (1) := by rw [ew12]; exact i_addk (by decide) (by omega) (by omega)
              refine x_iinc (v := w12) C 1 [(2, .int w12), (3, .int w4), (0, .ref (z + b)), (1, .ref (z + (3 + 2)))] dX2_firstWrong_41 rfl ew12.symm (by decide) rfl ?_
              refine x_goto C 2 dX2_firstWrong_44 (by decide) ?_
              refine x_mv (lo2 := [(2, .int w12), (0, .ref (z + b)), (1, .ref (z + (3 + 2)))]) [0, 2, 3] rfl ?_
              exact ih2 (21 - w12.toInt).toNat (by omega)  w12 (by omega) (by omega) rfl
            · have rq11 : ¬ w8.toInt = w10.toInt := by rw [i_eq_iff] at q11; omega
              exact J39  w4 x2_2 (by omega) (by omega)
  refine x_iconst (v := (0 : Int32)) C dX2_firstWrong_0 (by decide) ?_
  refine x_istore_n C [(2, .int (0 : Int32)), (0, .ref (z + b)), (1, .ref (z + (3 + 2)))] dX2_firstWrong_1 rfl (by decide) rfl ?_
  have l_0 : (0 : Int32).toInt = 0 := by decide
  exact J2 (21 - (0 : Int32).toInt).toNat  (0 : Int32) (by omega) (by omega) rfl
set_option maxRecDepth 20000 in
set_option maxHeartbeats 2000000 in
theorem tc_X0_alike {G : GT} {l : Launch} {z n : Nat} {ln : Int} (uu0 : HpT) (hTz0 : TyC G z ln uu0) (b : Nat) (hb : BrO b) (a1 : Int32) (a2 : Int32) (a3 : Int32) : Mp G l z yX0_alike cX0_alike 6 (some .int) { frames := 2, cells := 0, slots := 0, locals := 43 } [.ref (z + b), .int a1, .int a2, .int a3] uu0 n (fun r v => uu0 = v ∧ ∃ x : Int32, r = some (.int x) ∧ True) := by
  refine mp_of (by decide +kernel) (Nat.le_of_ble_eq_true rfl) ?_
  intro p e s m below meth c C hr hlk hnm
  have hbb_b : b = 112 ∨ b = 119 := hb
  have hTy0 : TC G z ln uu0 uu0 := TC.rf hTz0
  have J6 : ∀ (d : Nat) (x5_6 : Int32) (hl_x5_6 : 0 ≤ x5_6.toInt) (hh_x5_6 : x5_6.toInt ≤ 8) (x4_6 : Int32) (hd : d = (9 - x5_6.toInt).toNat), Xw p l e ({ frames := 2, cells := 0, slots := 0, locals := 43 } : Room) s m ([.ref (z + b), .int a1, .int a2, .int a3] : List Value).toArray below meth c G z 6 (MQ below (Qp G z n (fun r v => uu0 = v ∧ ∃ x : Int32, r = some (.int x) ∧ True)) ([.ref (z + b), .int a1, .int a2, .int a3] : List Value).toArray s 0 0 (zA z)) 6 [(5, .int x5_6), (4, .int x4_6), (0, .ref (z + b)), (1, .int a1), (2, .int a2), (3, .int a3)] [] uu0 n 0 0 := by
    intro d
    induction d using Nat.strongRecOn with
    | _ d ih6 =>
      intro  x5_6 hl_x5_6 hh_x5_6 x4_6 hd6
      have J38 : ∀ (x4_38 : Int32) (nl_x5_6_38 : 0 ≤ x5_6.toInt) (nh_x5_6_38 : x5_6.toInt ≤ 7), Xw p l e ({ frames := 2, cells := 0, slots := 0, locals := 43 } : Room) s m ([.ref (z + b), .int a1, .int a2, .int a3] : List Value).toArray below meth c G z 6 (MQ below (Qp G z n (fun r v => uu0 = v ∧ ∃ x : Int32, r = some (.int x) ∧ True)) ([.ref (z + b), .int a1, .int a2, .int a3] : List Value).toArray s 0 0 (zA z)) 38 [(5, .int x5_6), (4, .int x4_38), (0, .ref (z + b)), (1, .int a1), (2, .int a2), (3, .int a3)] [] uu0 n 0 0 := by
        intro  x4_38 nl_x5_6_38 nh_x5_6_38
        have l_1 : (1 : Int32).toInt = 1 := by decide
        obtain ⟨w1, ew1⟩ : ∃ w : Int32, w = x5_6 + Int32.ofInt 1 := ⟨_, rfl⟩
        have fw1 : w1.toInt = x5_6.toInt + (1) := by rw [ew1]; exact i_addk (by decide) (by omega) (by omega)
        refine x_iinc (v := w1) C 0 [(5, .int w1), (4, .int x4_38), (0, .ref (z + b)), (1, .int a1), (2, .int a2), (3, .int a3)] dX0_alike_38 rfl ew1.symm (by decide) rfl ?_
        refine x_goto C 6 dX0_alike_41 (by decide) ?_
        exact ih6 (9 - w1.toInt).toNat (by omega)  w1 (by omega) (by omega) x4_38 rfl
      refine x_iload C 0 dX0_alike_6 rfl ?_
      refine x_aload_n C 2 dX0_alike_8 rfl rfl ?_
      obtain ⟨c2_0, c2_1, c2_2, c2_3, hc2, qc2_0, qc2_1, qc2_2, qc2_3⟩ := ty_br hTy0 hb
      refine gfX0_27 C dX0_alike_9 hc2 rfl ?_
      refine x_icmp_ge C 44 dX0_alike_12 (by decide) (fun q3 => ?_) (fun q3 => ?_)
      · have rq3 : x5_6.toInt ≥ c2_2.toInt := by rw [Int32.le_iff_toInt_le] at q3; omega
        refine x_iload C 1 dX0_alike_44 rfl ?_
        exact x_iretP C hr hlk (Nat.le_refl _) (Nat.le_refl _) dX0_alike_46 ⟨rfl, x4_6, rfl, trivial⟩
      · have rq3 : x5_6.toInt < c2_2.toInt := by rw [Int32.le_iff_toInt_le] at q3; omega
        refine x_iload_n C 4 dX0_alike_15 rfl rfl ?_
        refine x_iload C 0 dX0_alike_16 rfl ?_
        refine x_callSNP C cl_X9_holds knX0_30 (As := [.int a2, .int x5_6]) (rest := []) (tc_X9_holds uu0 hTy0.1 a2 x5_6) rfl rfl (Nat.le_of_ble_eq_true rfl) ⟨Nat.le_of_ble_eq_true rfl, Nat.le_of_ble_eq_true rfl⟩ ⟨Nat.le_of_ble_eq_true rfl, Nat.le_of_ble_eq_true rfl⟩ dX0_alike_18 ?_
        rintro _ _ ⟨rfl, r4, rfl, gr4⟩
        refine x_norm (st2 := [.int r4]) rfl rfl rfl rfl rfl ?_
        have l_0 : (0 : Int32).toInt = 0 := by decide
        refine x_if_eq C 38 dX0_alike_21 (by decide) (fun q6 => ?_) (fun q6 => ?_)
        · have rq6 : r4.toInt = (0 : Int32).toInt := by rw [i_eq_iff] at q6; omega
          exact J38  x4_6 (by omega) (by omega)
        · have rq6 : ¬ r4.toInt = (0 : Int32).toInt := by rw [i_eq_iff] at q6; omega
          refine x_aload_n C 2 dX0_alike_24 rfl rfl ?_
          refine x_iload_n C 3 dX0_alike_25 rfl rfl ?_
          refine x_iload C 0 dX0_alike_26 rfl ?_
          refine x_callVP C cl_X1_stayOf kmX0_34 (ci := 0) (b := b) (As := [.int a1, .int x5_6]) (rest := []) rfl hc2 (tc_X1_stayOf uu0 hTy0.1 b hb a1 x5_6) rfl rfl (Nat.le_of_ble_eq_true rfl) ⟨Nat.le_of_ble_eq_true rfl, Nat.le_of_ble_eq_true rfl⟩ ⟨Nat.le_of_ble_eq_true rfl, Nat.le_of_ble_eq_true rfl⟩ dX0_alike_28 ?_
          rintro _ _ ⟨rfl, r7, rfl, gr7⟩
          refine x_norm (st2 := [.int r7]) rfl rfl rfl rfl rfl ?_
          refine x_iload_n C 5 dX0_alike_31 rfl rfl ?_
          refine x_icmp_ne C 38 dX0_alike_32 (by decide) (fun q9 => ?_) (fun q9 => ?_)
          · have rq9 : ¬ r7.toInt = a3.toInt := by rw [i_eq_iff] at q9; omega
            exact J38  x4_6 (by omega) (by omega)
          · have rq9 : r7.toInt = a3.toInt := by rw [i_eq_iff] at q9; omega
            have l_1 : (1 : Int32).toInt = 1 := by decide
            obtain ⟨w10, ew10⟩ : ∃ w : Int32, w = x4_6 + Int32.ofInt 1 := ⟨_, rfl⟩
            refine x_iinc (v := w10) C 1 [(4, .int w10), (5, .int x5_6), (0, .ref (z + b)), (1, .int a1), (2, .int a2), (3, .int a3)] dX0_alike_35 rfl ew10.symm (by decide) rfl ?_
            refine x_mv (lo2 := [(5, .int x5_6), (4, .int w10), (0, .ref (z + b)), (1, .int a1), (2, .int a2), (3, .int a3)]) [1, 0, 2, 3, 4, 5] rfl ?_
            exact J38  w10 (by omega) (by omega)
  refine x_iconst (v := (0 : Int32)) C dX0_alike_0 (by decide) ?_
  refine x_istore C [(4, .int (0 : Int32)), (0, .ref (z + b)), (1, .int a1), (2, .int a2), (3, .int a3)] dX0_alike_1 (by decide) rfl ?_
  refine x_iconst (v := (0 : Int32)) C dX0_alike_3 (by decide) ?_
  refine x_istore C [(5, .int (0 : Int32)), (4, .int (0 : Int32)), (0, .ref (z + b)), (1, .int a1), (2, .int a2), (3, .int a3)] dX0_alike_4 (by decide) rfl ?_
  have l_0 : (0 : Int32).toInt = 0 := by decide
  exact J6 (9 - (0 : Int32).toInt).toNat  (0 : Int32) (by omega) (by omega) (0 : Int32) rfl
set_option maxRecDepth 20000 in
set_option maxHeartbeats 2000000 in
theorem tc_X0_greatestPart {G : GT} {l : Launch} {z n : Nat} {ln : Int} (uu0 : HpT) (hTz0 : TyC G z ln uu0) (b : Nat) (hb : BrO b) (a1 : Int32) (a2 : Int32) : Mp G l z yX0_greatestPart cX0_greatestPart 5 (some .int) { frames := 3, cells := 0, slots := 0, locals := 68 } [.ref (z + b), .int a1, .int a2] uu0 n (fun r v => uu0 = v ∧ ∃ x : Int32, r = some (.int x) ∧ True) := by
  refine mp_of (by decide +kernel) (Nat.le_of_ble_eq_true rfl) ?_
  intro p e s m below meth c C hr hlk hnm
  have hbb_b : b = 112 ∨ b = 119 := hb
  have hTy0 : TC G z ln uu0 uu0 := TC.rf hTz0
  have J5 : ∀ (d : Nat) (x4_5 : Int32) (hl_x4_5 : 0 ≤ x4_5.toInt) (hh_x4_5 : x4_5.toInt ≤ 8) (x3_5 : Int32) (hl_x3_5 : 0 ≤ x3_5.toInt) (hd : d = (9 - x4_5.toInt).toNat), Xw p l e ({ frames := 3, cells := 0, slots := 0, locals := 68 } : Room) s m ([.ref (z + b), .int a1, .int a2] : List Value).toArray below meth c G z 5 (MQ below (Qp G z n (fun r v => uu0 = v ∧ ∃ x : Int32, r = some (.int x) ∧ True)) ([.ref (z + b), .int a1, .int a2] : List Value).toArray s 0 0 (zA z)) 5 [(4, .int x4_5), (3, .int x3_5), (0, .ref (z + b)), (1, .int a1), (2, .int a2)] [] uu0 n 0 0 := by
    intro d
    induction d using Nat.strongRecOn with
    | _ d ih5 =>
      intro  x4_5 hl_x4_5 hh_x4_5 x3_5 hl_x3_5 hd5
      have J41 : ∀ (x3_41 : Int32) (hl_x3_41 : 0 ≤ x3_41.toInt) (nl_x4_5_41 : 0 ≤ x4_5.toInt) (nh_x4_5_41 : x4_5.toInt ≤ 7), Xw p l e ({ frames := 3, cells := 0, slots := 0, locals := 68 } : Room) s m ([.ref (z + b), .int a1, .int a2] : List Value).toArray below meth c G z 5 (MQ below (Qp G z n (fun r v => uu0 = v ∧ ∃ x : Int32, r = some (.int x) ∧ True)) ([.ref (z + b), .int a1, .int a2] : List Value).toArray s 0 0 (zA z)) 41 [(4, .int x4_5), (3, .int x3_41), (0, .ref (z + b)), (1, .int a1), (2, .int a2)] [] uu0 n 0 0 := by
        intro  x3_41 hl_x3_41 nl_x4_5_41 nh_x4_5_41
        have l_1 : (1 : Int32).toInt = 1 := by decide
        obtain ⟨w1, ew1⟩ : ∃ w : Int32, w = x4_5 + Int32.ofInt 1 := ⟨_, rfl⟩
        have fw1 : w1.toInt = x4_5.toInt + (1) := by rw [ew1]; exact i_addk (by decide) (by omega) (by omega)
        refine x_iinc (v := w1) C 0 [(4, .int w1), (3, .int x3_41), (0, .ref (z + b)), (1, .int a1), (2, .int a2)] dX0_greatestPart_41 rfl ew1.symm (by decide) rfl ?_
        refine x_goto C 5 dX0_greatestPart_44 (by decide) ?_
        exact ih5 (9 - w1.toInt).toNat (by omega)  w1 (by omega) (by omega) x3_41 (by omega) rfl
      refine x_iload C 0 dX0_greatestPart_5 rfl ?_
      refine x_aload_n C 2 dX0_greatestPart_7 rfl rfl ?_
      obtain ⟨c2_0, c2_1, c2_2, c2_3, hc2, qc2_0, qc2_1, qc2_2, qc2_3⟩ := ty_br hTy0 hb
      refine gfX0_27 C dX0_greatestPart_8 hc2 rfl ?_
      refine x_icmp_ge C 47 dX0_greatestPart_11 (by decide) (fun q3 => ?_) (fun q3 => ?_)
      · have rq3 : x4_5.toInt ≥ c2_2.toInt := by rw [Int32.le_iff_toInt_le] at q3; omega
        refine x_iload_n C 1 dX0_greatestPart_47 rfl rfl ?_
        exact x_iretP C hr hlk (Nat.le_refl _) (Nat.le_refl _) dX0_greatestPart_48 ⟨rfl, x3_5, rfl, trivial⟩
      · have rq3 : x4_5.toInt < c2_2.toInt := by rw [Int32.le_iff_toInt_le] at q3; omega
        refine x_iload_n C 4 dX0_greatestPart_14 rfl rfl ?_
        refine x_iload C 0 dX0_greatestPart_15 rfl ?_
        refine x_callSNP C cl_X9_holds knX0_30 (As := [.int a2, .int x4_5]) (rest := []) (tc_X9_holds uu0 hTy0.1 a2 x4_5) rfl rfl (Nat.le_of_ble_eq_true rfl) ⟨Nat.le_of_ble_eq_true rfl, Nat.le_of_ble_eq_true rfl⟩ ⟨Nat.le_of_ble_eq_true rfl, Nat.le_of_ble_eq_true rfl⟩ dX0_greatestPart_17 ?_
        rintro _ _ ⟨rfl, r4, rfl, gr4⟩
        refine x_norm (st2 := [.int r4]) rfl rfl rfl rfl rfl ?_
        have l_0 : (0 : Int32).toInt = 0 := by decide
        refine x_if_eq C 41 dX0_greatestPart_20 (by decide) (fun q6 => ?_) (fun q6 => ?_)
        · have rq6 : r4.toInt = (0 : Int32).toInt := by rw [i_eq_iff] at q6; omega
          exact J41  x3_5 (by omega) (by omega) (by omega)
        · have rq6 : ¬ r4.toInt = (0 : Int32).toInt := by rw [i_eq_iff] at q6; omega
          refine x_iload_n C 1 dX0_greatestPart_23 rfl rfl ?_
          refine x_aload_n C 2 dX0_greatestPart_24 rfl rfl ?_
          refine x_iload_n C 3 dX0_greatestPart_25 rfl rfl ?_
          refine x_iload_n C 4 dX0_greatestPart_26 rfl rfl ?_
          refine x_aload_n C 2 dX0_greatestPart_27 rfl rfl ?_
          refine x_iload_n C 3 dX0_greatestPart_28 rfl rfl ?_
          refine x_iload C 0 dX0_greatestPart_29 rfl ?_
          refine x_callVP C cl_X1_stayOf kmX0_34 (ci := 0) (b := b) (As := [.int a1, .int x4_5]) (rest := [.int a2, .int a1, .ref (z + b), .int x3_5]) rfl hc2 (tc_X1_stayOf uu0 hTy0.1 b hb a1 x4_5) rfl rfl (Nat.le_of_ble_eq_true rfl) ⟨Nat.le_of_ble_eq_true rfl, Nat.le_of_ble_eq_true rfl⟩ ⟨Nat.le_of_ble_eq_true rfl, Nat.le_of_ble_eq_true rfl⟩ dX0_greatestPart_31 ?_
          rintro _ _ ⟨rfl, r7, rfl, gr7⟩
          refine x_norm (st2 := [.int r7, .int a2, .int a1, .ref (z + b), .int x3_5]) rfl rfl rfl rfl rfl ?_
          refine x_callSP C cl_X0_alike kmX0_38 (As := [.ref (z + b), .int a1, .int a2, .int r7]) (rest := [.int x3_5]) (tc_X0_alike uu0 hTy0.1 b hb a1 a2 r7) rfl rfl (Nat.le_of_ble_eq_true rfl) ⟨Nat.le_of_ble_eq_true rfl, Nat.le_of_ble_eq_true rfl⟩ ⟨Nat.le_of_ble_eq_true rfl, Nat.le_of_ble_eq_true rfl⟩ dX0_greatestPart_34 ?_
          rintro _ _ ⟨rfl, r9, rfl, gr9⟩
          refine x_norm (st2 := [.int r9, .int x3_5]) rfl rfl rfl rfl rfl ?_
          refine x_max C kmX0_42 kMs_max kzMath kMc_max (Nat.le_of_ble_eq_true rfl) (Nat.le_of_ble_eq_true rfl) (Nat.le_of_ble_eq_true rfl) (Nat.le_of_ble_eq_true rfl) dX0_greatestPart_37 ?_
          refine x_top (fun w11 ew11 => ?_)
          have fw11_0 : (w11.toInt = x3_5.toInt ∨ w11.toInt = r9.toInt) ∧ w11.toInt ≥ x3_5.toInt ∧ w11.toInt ≥ r9.toInt := by rw [ew11]; exact i_max _ _
          refine x_istore_n C [(3, .int w11), (4, .int x4_5), (0, .ref (z + b)), (1, .int a1), (2, .int a2)] dX0_greatestPart_40 rfl (by decide) rfl ?_
          refine x_mv (lo2 := [(4, .int x4_5), (3, .int w11), (0, .ref (z + b)), (1, .int a1), (2, .int a2)]) [1, 0, 2, 3, 4] rfl ?_
          exact J41  w11 (by omega) (by omega) (by omega)
  refine x_iconst (v := (0 : Int32)) C dX0_greatestPart_0 (by decide) ?_
  refine x_istore_n C [(3, .int (0 : Int32)), (0, .ref (z + b)), (1, .int a1), (2, .int a2)] dX0_greatestPart_1 rfl (by decide) rfl ?_
  refine x_iconst (v := (0 : Int32)) C dX0_greatestPart_2 (by decide) ?_
  refine x_istore C [(4, .int (0 : Int32)), (3, .int (0 : Int32)), (0, .ref (z + b)), (1, .int a1), (2, .int a2)] dX0_greatestPart_3 (by decide) rfl ?_
  have l_0 : (0 : Int32).toInt = 0 := by decide
  exact J5 (9 - (0 : Int32).toInt).toNat  (0 : Int32) (by omega) (by omega) (0 : Int32) (by omega) rfl
set_option maxRecDepth 20000 in
set_option maxHeartbeats 2000000 in
theorem tc_X0_bestOf {G : GT} {l : Launch} {z n : Nat} {ln : Int} (uu0 : HpT) (hTz0 : TyC G z ln uu0) (b : Nat) (hb : BrO b) (a1 : Int32) : Mp G l z yX0_bestOf cX0_bestOf 6 (some .int) { frames := 4, cells := 0, slots := 0, locals := 92 } [.ref (z + b), .int a1] uu0 n (fun r v => uu0 = v ∧ ∃ x : Int32, r = some (.int x) ∧ True) := by
  refine mp_of (by decide +kernel) (Nat.le_of_ble_eq_true rfl) ?_
  intro p e s m below meth c C hr hlk hnm
  have hbb_b : b = 112 ∨ b = 119 := hb
  have hTy0 : TC G z ln uu0 uu0 := TC.rf hTz0
  have J10 : ∀ (d : Nat) (x4_10 : Int32) (hl_x4_10 : 0 ≤ x4_10.toInt) (hh_x4_10 : x4_10.toInt ≤ 6) (x3_10 : Int32) (x2_10 : Int32) (hl_x2_10 : -1 ≤ x2_10.toInt) (hh_x2_10 : x2_10.toInt ≤ 5) (hd : d = (7 - x4_10.toInt).toNat), Xw p l e ({ frames := 4, cells := 0, slots := 0, locals := 92 } : Room) s m ([.ref (z + b), .int a1] : List Value).toArray below meth c G z 6 (MQ below (Qp G z n (fun r v => uu0 = v ∧ ∃ x : Int32, r = some (.int x) ∧ True)) ([.ref (z + b), .int a1] : List Value).toArray s 0 0 (zA z)) 10 [(4, .int x4_10), (3, .int x3_10), (2, .int x2_10), (0, .ref (z + b)), (1, .int a1)] [] uu0 n 0 0 := by
    intro d
    induction d using Nat.strongRecOn with
    | _ d ih10 =>
      intro  x4_10 hl_x4_10 hh_x4_10 x3_10 x2_10 hl_x2_10 hh_x2_10 hd10
      have J40 : ∀ (x5_40 : Int32) (x3_40 : Int32) (x2_40 : Int32) (hl_x2_40 : -1 ≤ x2_40.toInt) (hh_x2_40 : x2_40.toInt ≤ 5) (nl_x4_10_40 : 0 ≤ x4_10.toInt) (nh_x4_10_40 : x4_10.toInt ≤ 5), Xw p l e ({ frames := 4, cells := 0, slots := 0, locals := 92 } : Room) s m ([.ref (z + b), .int a1] : List Value).toArray below meth c G z 6 (MQ below (Qp G z n (fun r v => uu0 = v ∧ ∃ x : Int32, r = some (.int x) ∧ True)) ([.ref (z + b), .int a1] : List Value).toArray s 0 0 (zA z)) 40 [(5, .int x5_40), (4, .int x4_10), (3, .int x3_40), (2, .int x2_40), (0, .ref (z + b)), (1, .int a1)] [] uu0 n 0 0 := by
        intro  x5_40 x3_40 x2_40 hl_x2_40 hh_x2_40 nl_x4_10_40 nh_x4_10_40
        have l_1 : (1 : Int32).toInt = 1 := by decide
        obtain ⟨w1, ew1⟩ : ∃ w : Int32, w = x4_10 + Int32.ofInt 1 := ⟨_, rfl⟩
        have fw1 : w1.toInt = x4_10.toInt + (1) := by rw [ew1]; exact i_addk (by decide) (by omega) (by omega)
        refine x_iinc (v := w1) C 1 [(4, .int w1), (5, .int x5_40), (3, .int x3_40), (2, .int x2_40), (0, .ref (z + b)), (1, .int a1)] dX0_bestOf_40 rfl ew1.symm (by decide) rfl ?_
        refine x_goto C 10 dX0_bestOf_43 (by decide) ?_
        refine x_mv (lo2 := [(4, .int w1), (3, .int x3_40), (2, .int x2_40), (0, .ref (z + b)), (1, .int a1)]) [0, 2, 3, 4, 5] rfl ?_
        exact ih10 (7 - w1.toInt).toNat (by omega)  w1 (by omega) (by omega) x3_40 x2_40 (by omega) (by omega) rfl
      refine x_iload C 0 dX0_bestOf_10 rfl ?_
      refine x_aload_n C 3 dX0_bestOf_12 rfl rfl ?_
      obtain ⟨c2_0, c2_1, c2_2, c2_3, hc2, qc2_0, qc2_1, qc2_2, qc2_3⟩ := ty_br hTy0 hb
      refine gfX0_15 C dX0_bestOf_13 hc2 rfl ?_
      refine x_icmp_ge C 46 dX0_bestOf_16 (by decide) (fun q3 => ?_) (fun q3 => ?_)
      · have rq3 : x4_10.toInt ≥ c2_3.toInt := by rw [Int32.le_iff_toInt_le] at q3; omega
        refine x_iload_n C 2 dX0_bestOf_46 rfl rfl ?_
        exact x_iretP C hr hlk (Nat.le_refl _) (Nat.le_refl _) dX0_bestOf_47 ⟨rfl, x2_10, rfl, trivial⟩
      · have rq3 : x4_10.toInt < c2_3.toInt := by rw [Int32.le_iff_toInt_le] at q3; omega
        refine x_aload_n C 3 dX0_bestOf_19 rfl rfl ?_
        refine x_iload C 0 dX0_bestOf_20 rfl ?_
        refine x_iload_n C 4 dX0_bestOf_22 rfl rfl ?_
        refine x_callSP C cl_X0_greatestPart kmX0_21 (As := [.ref (z + b), .int x4_10, .int a1]) (rest := []) (tc_X0_greatestPart uu0 hTy0.1 b hb x4_10 a1) rfl rfl (Nat.le_of_ble_eq_true rfl) ⟨Nat.le_of_ble_eq_true rfl, Nat.le_of_ble_eq_true rfl⟩ ⟨Nat.le_of_ble_eq_true rfl, Nat.le_of_ble_eq_true rfl⟩ dX0_bestOf_23 ?_
        rintro _ _ ⟨rfl, r4, rfl, gr4⟩
        refine x_norm (st2 := [.int r4]) rfl rfl rfl rfl rfl ?_
        refine x_istore C [(5, .int r4), (4, .int x4_10), (3, .int x3_10), (2, .int x2_10), (0, .ref (z + b)), (1, .int a1)] dX0_bestOf_26 (by decide) rfl ?_
        refine x_iload C 0 dX0_bestOf_28 rfl ?_
        refine x_iload_n C 2 dX0_bestOf_30 rfl rfl ?_
        refine x_icmp_ge C 40 dX0_bestOf_31 (by decide) (fun q6 => ?_) (fun q6 => ?_)
        · have rq6 : r4.toInt ≥ x3_10.toInt := by rw [Int32.le_iff_toInt_le] at q6; omega
          exact J40  r4 x3_10 x2_10 (by omega) (by omega) (by omega) (by omega)
        · have rq6 : r4.toInt < x3_10.toInt := by rw [Int32.le_iff_toInt_le] at q6; omega
          refine x_iload C 0 dX0_bestOf_34 rfl ?_
          refine x_istore_n C [(3, .int r4), (5, .int r4), (4, .int x4_10), (2, .int x2_10), (0, .ref (z + b)), (1, .int a1)] dX0_bestOf_36 rfl (by decide) rfl ?_
          refine x_iload C 2 dX0_bestOf_37 rfl ?_
          refine x_istore_n C [(2, .int x4_10), (3, .int r4), (5, .int r4), (4, .int x4_10), (0, .ref (z + b)), (1, .int a1)] dX0_bestOf_39 rfl (by decide) rfl ?_
          refine x_mv (lo2 := [(5, .int r4), (4, .int x4_10), (3, .int r4), (2, .int x4_10), (0, .ref (z + b)), (1, .int a1)]) [2, 3, 1, 0, 4, 5] rfl ?_
          exact J40  r4 r4 x4_10 (by omega) (by omega) (by omega) (by omega)
  refine x_iconst (v := (-1 : Int32)) C dX0_bestOf_0 (by decide) ?_
  refine x_istore_n C [(2, .int (-1 : Int32)), (0, .ref (z + b)), (1, .int a1)] dX0_bestOf_1 rfl (by decide) rfl ?_
  refine x_iload_n C 2 dX0_bestOf_2 rfl rfl ?_
  refine x_callSP C cl_J6_bitCount_0f7a4 kmX0_9 (As := [.int a1]) (rest := []) (tc_J6_bitCount_0f7a4 uu0 hTy0.1 a1) rfl rfl (Nat.le_of_ble_eq_true rfl) ⟨Nat.le_of_ble_eq_true rfl, Nat.le_of_ble_eq_true rfl⟩ ⟨Nat.le_of_ble_eq_true rfl, Nat.le_of_ble_eq_true rfl⟩ dX0_bestOf_3 ?_
  rintro _ _ ⟨rfl, r7, rfl, gr7⟩
  refine x_norm (st2 := [.int r7]) rfl rfl rfl rfl rfl ?_
  refine x_istore_n C [(3, .int r7), (2, .int (-1 : Int32)), (0, .ref (z + b)), (1, .int a1)] dX0_bestOf_6 rfl (by decide) rfl ?_
  refine x_iconst (v := (0 : Int32)) C dX0_bestOf_7 (by decide) ?_
  refine x_istore C [(4, .int (0 : Int32)), (3, .int r7), (2, .int (-1 : Int32)), (0, .ref (z + b)), (1, .int a1)] dX0_bestOf_8 (by decide) rfl ?_
  have l_0 : (0 : Int32).toInt = 0 := by decide
  have l_m1 : (-1 : Int32).toInt = -1 := by decide
  exact J10 (7 - (0 : Int32).toInt).toNat  (0 : Int32) (by omega) (by omega) r7 (-1 : Int32) (by omega) (by omega) rfl
