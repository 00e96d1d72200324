set_option maxRecDepth 20000 in
set_option maxHeartbeats 2000000 in
theorem tc_X9_dry {G : GT} {l : Launch} {z n : Nat} {ln : Int} (uu0 : HpT) (hTz0 : TyC G z ln uu0) (a1 : Int32) (a2 : Int32) : Mp G l z yX9_dry cX9_dry 6 (some .int) { frames := 0, cells := 0, slots := 0, locals := 0 } [.ref (z + 0), .int a1, .int a2] uu0 n (fun r v => uu0 = v ∧ ∃ x : Int32, r = some (.int x) ∧ True) := by
  refine mp_of (by decide +kernel) (Nat.le_of_ble_eq_true rfl) ?_
  intro p e s m below meth c C hr hlk hnm
  have hTy0 : TC G z ln uu0 uu0 := TC.rf hTz0
  have J30 : ∀ (d : Nat) (x5_30 : Int32) (hl_x5_30 : 0 ≤ x5_30.toInt) (hh_x5_30 : x5_30.toInt ≤ 60) (x3_30 : Int64) (nl_a1_30 : 0 ≤ a1.toInt) (nh_a1_30 : a1.toInt ≤ 60) (nl_a2_30 : 0 ≤ a2.toInt) (nh_a2_30 : a2.toInt ≤ 100) (hd : d = (61 - x5_30.toInt).toNat), Xw p l e ({ frames := 0, cells := 0, slots := 0, locals := 0 } : Room) s m ([.ref (z + 0), .int a1, .int a2] : List Value).toArray below meth c G z 6 (MQ below (Qp G z n (fun r v => uu0 = v ∧ ∃ x : Int32, r = some (.int x) ∧ True)) ([.ref (z + 0), .int a1, .int a2] : List Value).toArray s 0 0 (zA z)) 30 [(5, .int x5_30), (3, .long x3_30), (0, .ref (z + 0)), (1, .int a1), (2, .int a2)] [] uu0 n 0 0 := by
    intro d
    induction d using Nat.strongRecOn with
    | _ d ih30 =>
      intro  x5_30 hl_x5_30 hh_x5_30 x3_30 nl_a1_30 nh_a1_30 nl_a2_30 nh_a2_30 hd30
      refine x_iload C 0 dX9_dry_30 rfl ?_
      refine x_iload_n C 3 dX9_dry_32 rfl rfl ?_
      refine x_icmp_ge C 51 dX9_dry_33 (by decide) (fun q1 => ?_) (fun q1 => ?_)
      · have rq1 : x5_30.toInt ≥ a1.toInt := by rw [Int32.le_iff_toInt_le] at q1; omega
        refine x_lload_n C 1 dX9_dry_51 rfl rfl ?_
        refine x_l2i C dX9_dry_52 ?_
        refine x_top (fun w2 ew2 => ?_)
        exact x_iretP C hr hlk (Nat.le_refl _) (Nat.le_refl _) dX9_dry_53 ⟨rfl, w2, rfl, trivial⟩
      · have rq1 : x5_30.toInt < a1.toInt := by rw [Int32.le_iff_toInt_le] at q1; omega
        refine x_lload_n C 1 dX9_dry_36 rfl rfl ?_
        refine x_iload_n C 4 dX9_dry_37 rfl rfl ?_
        refine x_i2l C dX9_dry_38 ?_
        refine x_topl (fun g3 eg3 => ?_)
        have fg3_0 : g3.toInt = a2.toInt := by rw [eg3]; exact Int32.toInt_toInt64 _
        refine x_lmul C dX9_dry_39 ?_
        refine x_topl (fun g4 eg4 => ?_)
        refine x_ldc2 C kcX9_311 dX9_dry_40 ?_
        refine x_ldiv C dX9_dry_43 (by decide) ?_
        refine x_topl (fun g5 eg5 => ?_)
        refine x_lstore_n C [(3, .long g5), (5, .int x5_30), (0, .ref (z + 0)), (1, .int a1), (2, .int a2)] dX9_dry_44 rfl (by decide) rfl ?_
        have l_1 : (1 : Int32).toInt = 1 := by decide
        obtain ⟨w6, ew6⟩ : ∃ w : Int32, w = x5_30 + Int32.ofInt 1 := ⟨_, rfl⟩
        have fw6 : w6.toInt = x5_30.toInt + (1) := by rw [ew6]; exact i_addk (by decide) (by omega) (by omega)
        refine x_iinc (v := w6) C 1 [(5, .int w6), (3, .long g5), (0, .ref (z + 0)), (1, .int a1), (2, .int a2)] dX9_dry_45 rfl ew6.symm (by decide) rfl ?_
        refine x_goto C 30 dX9_dry_48 (by decide) ?_
        exact ih30 (61 - w6.toInt).toNat (by omega)  w6 (by omega) (by omega) g5 (by omega) (by omega) (by omega) (by omega) rfl
  have J20 : Xw p l e ({ frames := 0, cells := 0, slots := 0, locals := 0 } : Room) s m ([.ref (z + 0), .int a1, .int a2] : List Value).toArray below meth c G z 6 (MQ below (Qp G z n (fun r v => uu0 = v ∧ ∃ x : Int32, r = some (.int x) ∧ True)) ([.ref (z + 0), .int a1, .int a2] : List Value).toArray s 0 0 (zA z)) 20 [(0, .ref (z + 0)), (1, .int a1), (2, .int a2)] [] uu0 n 0 0 := by
    refine x_ldc C kcX9_80 dX9_dry_20 ?_
    have l_m1000000002 : (-1000000002 : Int32).toInt = -1000000002 := by decide
    exact x_iretP C hr hlk (Nat.le_refl _) (Nat.le_refl _) dX9_dry_22 ⟨rfl, (-1000000002 : Int32), rfl, trivial⟩
  refine x_iload_n C 1 dX9_dry_0 rfl rfl ?_
  have l_0 : (0 : Int32).toInt = 0 := by decide
  refine x_if_lt C 20 dX9_dry_1 (by decide) (fun q7 => ?_) (fun q7 => ?_)
  · have rq7 : a1.toInt < (0 : Int32).toInt := by rw [Int32.lt_iff_toInt_lt] at q7; omega
    exact J20  
  · have rq7 : a1.toInt ≥ (0 : Int32).toInt := by rw [Int32.lt_iff_toInt_lt] at q7; omega
    refine x_iload_n C 1 dX9_dry_4 rfl rfl ?_
    refine x_bipush (v := (60 : Int32)) C dX9_dry_5 (by decide) ?_
    have l_60 : (60 : Int32).toInt = 60 := by decide
    refine x_icmp_gt C 20 dX9_dry_7 (by decide) (fun q8 => ?_) (fun q8 => ?_)
    · have rq8 : a1.toInt > (60 : Int32).toInt := by rw [Int32.lt_iff_toInt_lt] at q8; omega
      exact J20  
    · have rq8 : a1.toInt ≤ (60 : Int32).toInt := by rw [Int32.lt_iff_toInt_lt] at q8; omega
      refine x_iload_n C 2 dX9_dry_10 rfl rfl ?_
      refine x_if_lt C 20 dX9_dry_11 (by decide) (fun q9 => ?_) (fun q9 => ?_)
      · have rq9 : a2.toInt < (0 : Int32).toInt := by rw [Int32.lt_iff_toInt_lt] at q9; omega
        exact J20  
      · have rq9 : a2.toInt ≥ (0 : Int32).toInt := by rw [Int32.lt_iff_toInt_lt] at q9; omega
        refine x_iload_n C 2 dX9_dry_14 rfl rfl ?_
        refine x_bipush (v := (100 : Int32)) C dX9_dry_15 (by decide) ?_
        have l_100 : (100 : Int32).toInt = 100 := by decide
        refine x_icmp_le C 23 dX9_dry_17 (by decide) (fun q10 => ?_) (fun q10 => ?_)
        · have rq10 : a2.toInt ≤ (100 : Int32).toInt := by rw [Int32.le_iff_toInt_le] at q10; omega
          refine x_ldc2 C kcX9_309 dX9_dry_23 ?_
          refine x_lstore_n C [(3, .long (1000000000 : Int64)), (0, .ref (z + 0)), (1, .int a1), (2, .int a2)] dX9_dry_26 rfl (by decide) rfl ?_
          refine x_iconst (v := (0 : Int32)) C dX9_dry_27 (by decide) ?_
          refine x_istore C [(5, .int (0 : Int32)), (3, .long (1000000000 : Int64)), (0, .ref (z + 0)), (1, .int a1), (2, .int a2)] dX9_dry_28 (by decide) rfl ?_
          exact J30 (61 - (0 : Int32).toInt).toNat  (0 : Int32) (by omega) (by omega) (1000000000 : Int64) (by omega) (by omega) (by omega) (by omega) rfl
        · have rq10 : a2.toInt > (100 : Int32).toInt := by rw [Int32.le_iff_toInt_le] at q10; omega
          exact J20  
set_option maxRecDepth 20000 in
set_option maxHeartbeats 2000000 in
theorem tc_X7_add {G : GT} {l : Launch} {z n : Nat} {ln : Int} (uu0 : HpT) (hTz0 : TyC G z ln uu0) (a1 : Int32) : Mp G l z yX7_add cX7_add 2 (some .boolean) { frames := 0, cells := 0, slots := 0, locals := 0 } [.ref (z + 1), .int a1] uu0 n (fun r v => ∃ x : Int32, r = some (.int x) ∧ ((x = 1 ∧ ln < 240 ∧ TC G z (ln + 1) uu0 v) ∨ (x = 0 ∧ ln = 240 ∧ TC G z ln uu0 v))) := by
  refine mp_of (by decide +kernel) (Nat.le_of_ble_eq_true rfl) ?_
  intro p e s m below meth c C hr hlk hnm
  have hTy0 : TC G z ln uu0 uu0 := TC.rf hTz0
  refine x_aload_n C 0 dX7_add_0 rfl rfl ?_
  obtain ⟨c1_1, c1_2, c1_3, c1_4, hc1, qc1_0, qc1_1, qc1_2⟩ := ty_1 hTy0
  refine gfX7_15 C dX7_add_1 hc1 rfl ?_
  refine x_aload_n C 0 dX7_add_4 rfl rfl ?_
  refine gfX7_9 C dX7_add_5 hc1 rfl ?_
  obtain ⟨f2, hf2⟩ := ty_2 hTy0
  refine x_alen (v := (240 : Int32)) C 0 hf2 rfl rfl dX7_add_8 ?_
  have l_240 : (240 : Int32).toInt = 240 := by decide
  refine x_icmp_lt C 14 dX7_add_9 (by decide) (fun q3 => ?_) (fun q3 => ?_)
  · have rq3 : c1_1.toInt < (240 : Int32).toInt := by rw [Int32.lt_iff_toInt_lt] at q3; omega
    refine x_aload_n C 0 dX7_add_14 rfl rfl ?_
    refine gfX7_9 C dX7_add_15 hc1 rfl ?_
    refine x_aload_n C 0 dX7_add_18 rfl rfl ?_
    refine gfX7_15 C dX7_add_19 hc1 rfl ?_
    refine x_iload_n C 1 dX7_add_22 rfl rfl ?_
    refine x_iast C hf2 (i_in (by omega) (by omega)) dX7_add_23 ?_
    obtain ⟨u4, eu4⟩ : ∃ w : HpT, w = hup uu0 2 (aI G 240 (upd f2 c1_1.toNatClampNeg a1)) := ⟨_, rfl⟩
    refine x_heap (u2 := u4) eu4.symm ?_
    have hTu4 : TC G z ln uu0 u4 := by rw [eu4]; exact hTy0.up_2
    have hn6 := (congrFun eu4 2).trans (hup_s _ _ _)
    generalize (upd f2 c1_1.toNatClampNeg a1) = f7 at *
    refine x_aload_n C 0 dX7_add_24 rfl rfl ?_
    refine x_dup C dX7_add_25 rfl ?_
    have k8 := (congrFun eu4 1).trans (hup_n' (by omega) hc1)
    refine gfX7_15 C dX7_add_26 k8 rfl ?_
    refine x_iconst (v := (1 : Int32)) C dX7_add_29 (by decide) ?_
    refine x_iadd C dX7_add_30 ?_
    have l_1 : (1 : Int32).toInt = 1 := by decide
    refine x_top (fun w9 ew9 => ?_)
    have fw9_0 : w9.toInt = c1_1.toInt + (1 : Int32).toInt := by rw [ew9]; exact i_add (by omega) (by omega)
    obtain ⟨u10, eu10⟩ : ∃ w : HpT, w = hup u4 1 (.inr (6, [.ref (z + 2), .int w9, .int c1_2, .int c1_3, .int c1_4])) := ⟨_, rfl⟩
    refine pfX7_15 C dX7_add_31 k8 (Nat.le_of_ble_eq_true rfl) rfl eu10.symm ?_
    have hTu10 : TC G z (ln + 1) uu0 u10 := by rw [eu10]; exact hTu4.upL (by unfold cP; rw [if_neg (by decide), if_pos rfl]; exact ⟨_, _, _, _, rfl, by omega, by omega, by omega⟩)
    have hn12 := (congrFun eu10 1).trans (hup_s _ _ _)
    refine x_iconst (v := (1 : Int32)) C dX7_add_34 (by decide) ?_
    exact x_zretP C hr hlk (Nat.le_refl _) (Nat.le_refl _) dX7_add_35 (i_bool (by omega)) ⟨(1 : Int32), rfl, Or.inl ⟨rfl, by omega, hTu10⟩⟩
  · have rq3 : c1_1.toInt ≥ (240 : Int32).toInt := by rw [Int32.lt_iff_toInt_lt] at q3; omega
    refine x_iconst (v := (0 : Int32)) C dX7_add_12 (by decide) ?_
    have l_0 : (0 : Int32).toInt = 0 := by decide
    exact x_zretP C hr hlk (Nat.le_refl _) (Nat.le_refl _) dX7_add_13 (i_bool (by omega)) ⟨(0 : Int32), rfl, Or.inr ⟨rfl, by omega, hTy0⟩⟩
set_option maxRecDepth 20000 in
set_option maxHeartbeats 2000000 in
theorem tc_X7_empty {G : GT} {l : Launch} {z n : Nat} {ln : Int} (uu0 : HpT) (hTz0 : TyC G z ln uu0) : Mp G l z yX7_empty cX7_empty 1 none { frames := 0, cells := 0, slots := 0, locals := 0 } [.ref (z + 1)] uu0 n (fun r v => TC G z 0 uu0 v ∧ r = none) := by
  refine mp_of (by decide +kernel) (Nat.le_of_ble_eq_true rfl) ?_
  intro p e s m below meth c C hr hlk hnm
  have hTy0 : TC G z ln uu0 uu0 := TC.rf hTz0
  refine x_aload_n C 0 dX7_empty_0 rfl rfl ?_
  refine x_iconst (v := (0 : Int32)) C dX7_empty_1 (by decide) ?_
  obtain ⟨c1_1, c1_2, c1_3, c1_4, hc1, qc1_0, qc1_1, qc1_2⟩ := ty_1 hTy0
  have l_0 : (0 : Int32).toInt = 0 := by decide
  obtain ⟨u2, eu2⟩ : ∃ w : HpT, w = hup uu0 1 (.inr (6, [.ref (z + 2), .int (0 : Int32), .int c1_2, .int c1_3, .int c1_4])) := ⟨_, rfl⟩
  refine pfX7_15 C dX7_empty_2 hc1 (Nat.le_of_ble_eq_true rfl) rfl eu2.symm ?_
  have hTu2 : TC G z 0 uu0 u2 := by rw [eu2]; exact hTy0.upL (by unfold cP; rw [if_neg (by decide), if_pos rfl]; exact ⟨_, _, _, _, rfl, by omega, by omega, by omega⟩)
  have hn3 := (congrFun eu2 1).trans (hup_s _ _ _)
  exact x_vretP C hr hlk (Nat.le_refl _) (Nat.le_refl _) dX7_empty_5 ⟨hTu2, rfl⟩
set_option maxRecDepth 20000 in
set_option maxHeartbeats 2000000 in
theorem tc_X9_feed {G : GT} {l : Launch} {z n : Nat} {ln : Int} (uu0 : HpT) (hTz0 : TyC G z ln uu0) (a1 : Int32) : Mp G l z yX9_feed cX9_feed 2 (some .int) { frames := 1, cells := 0, slots := 0, locals := 21 } [.ref (z + 0), .int a1] uu0 n (fun r v => ∃ x : Int32, r = some (.int x) ∧ (((a1.toInt < 0 ∨ 255 < a1.toInt) ∧ x = -1000000002 ∧ TC G z ln uu0 v) ∨ (0 ≤ a1.toInt ∧ a1.toInt ≤ 255 ∧ ln < 240 ∧ x.toInt = ln + 1 ∧ TC G z (ln + 1) uu0 v) ∨ (0 ≤ a1.toInt ∧ a1.toInt ≤ 255 ∧ ln = 240 ∧ x = -1000000004 ∧ TC G z ln uu0 v))) := by
  refine mp_of (by decide +kernel) (Nat.le_of_ble_eq_true rfl) ?_
  intro p e s m below meth c C hr hlk hnm
  have hTy0 : TC G z ln uu0 uu0 := TC.rf hTz0
  have J11 : ∀ (u_11 : HpT) (hT_11 : TC G z ln uu0 u_11) (hout : a1.toInt < 0 ∨ 255 < a1.toInt), Xw p l e ({ frames := 1, cells := 0, slots := 0, locals := 21 } : Room) s m ([.ref (z + 0), .int a1] : List Value).toArray below meth c G z 2 (MQ below (Qp G z n (fun r v => ∃ x : Int32, r = some (.int x) ∧ (((a1.toInt < 0 ∨ 255 < a1.toInt) ∧ x = -1000000002 ∧ TC G z ln uu0 v) ∨ (0 ≤ a1.toInt ∧ a1.toInt ≤ 255 ∧ ln < 240 ∧ x.toInt = ln + 1 ∧ TC G z (ln + 1) uu0 v) ∨ (0 ≤ a1.toInt ∧ a1.toInt ≤ 255 ∧ ln = 240 ∧ x = -1000000004 ∧ TC G z ln uu0 v)))) ([.ref (z + 0), .int a1] : List Value).toArray s 0 0 (zA z)) 11 [(0, .ref (z + 0)), (1, .int a1)] [] u_11 n 0 0 := by
    intro u_11 hT_11 hout
    refine x_ldc C kcX9_80 dX9_feed_11 ?_
    have l_m1000000002 : (-1000000002 : Int32).toInt = -1000000002 := by decide
    exact x_iretP C hr hlk (Nat.le_refl _) (Nat.le_refl _) dX9_feed_13 ⟨(-1000000002 : Int32), rfl, Or.inl ⟨hout, rfl, hT_11⟩⟩
  refine x_iload_n C 1 dX9_feed_0 rfl rfl ?_
  have l_0 : (0 : Int32).toInt = 0 := by decide
  refine x_if_lt C 11 dX9_feed_1 (by decide) (fun q1 => ?_) (fun q1 => ?_)
  · have rq1 : a1.toInt < (0 : Int32).toInt := by rw [Int32.lt_iff_toInt_lt] at q1; omega
    exact J11 uu0 hTy0 (by omega)
  · have rq1 : a1.toInt ≥ (0 : Int32).toInt := by rw [Int32.lt_iff_toInt_lt] at q1; omega
    refine x_iload_n C 1 dX9_feed_4 rfl rfl ?_
    refine x_sipush (v := (255 : Int32)) C dX9_feed_5 (by decide) ?_
    have l_255 : (255 : Int32).toInt = 255 := by decide
    refine x_icmp_le C 14 dX9_feed_8 (by decide) (fun q2 => ?_) (fun q2 => ?_)
    · have rq2 : a1.toInt ≤ (255 : Int32).toInt := by rw [Int32.le_iff_toInt_le] at q2; omega
      refine x_aload_n C 0 dX9_feed_14 rfl rfl ?_
      obtain ⟨bc3, dc3, c3_10, c3_11, pc3, oc3, nc3, hc3⟩ := ty_0 hTy0
      have hbb_bc3 : bc3 = 112 ∨ bc3 = 119 := pc3
      have hbb_dc3 : dc3 = 112 ∨ dc3 = 119 := oc3
      refine gfX9_10 C dX9_feed_15 hc3 rfl ?_
      refine x_iload_n C 1 dX9_feed_18 rfl rfl ?_
      obtain ⟨c5_1, c5_2, c5_3, c5_4, hc5, qc5_0, qc5_1, qc5_2⟩ := ty_1 hTy0
      refine x_callVP C cl_X7_add kmX9_81 (ci := 6) (b := 1) (As := [.int a1]) (rest := []) rfl hc5 (tc_X7_add uu0 hTy0.1 a1) rfl rfl (Nat.le_of_ble_eq_true rfl) ⟨Nat.le_of_ble_eq_true rfl, Nat.le_of_ble_eq_true rfl⟩ ⟨Nat.le_of_ble_eq_true rfl, Nat.le_of_ble_eq_true rfl⟩ dX9_feed_19 ?_
      rintro _ u6 ⟨r4, rfl, gr4⟩
      refine x_norm (st2 := [.int r4]) rfl rfl rfl rfl rfl ?_
      rcases gr4 with ⟨rfl, hlt4, hTu6⟩ | ⟨rfl, heq4, hTu6⟩
      · refine x_if_eq_f C 35 dX9_feed_22 (by decide) (by decide) ?_
        refine x_aload_n C 0 dX9_feed_25 rfl rfl ?_
        obtain ⟨bc8, dc8, c8_10, c8_11, pc8, oc8, nc8, hc8⟩ := ty_0 hTu6
        refine gfX9_10 C dX9_feed_26 hc8 rfl ?_
        obtain ⟨c9_1, c9_2, c9_3, c9_4, hc9, qc9_0, qc9_1, qc9_2⟩ := ty_1 hTu6
        refine gfX9_85 C dX9_feed_29 hc9 rfl ?_
        refine x_goto C 37 dX9_feed_32 (by decide) ?_
        exact x_iretP C hr hlk (Nat.le_refl _) (Nat.le_refl _) dX9_feed_37 ⟨c9_1, rfl, Or.inr (Or.inl ⟨by omega, by omega, hlt4, qc9_0, hTu6⟩)⟩
      · refine x_if_eq_t C 35 dX9_feed_22 (by decide) (by decide) ?_
        refine x_ldc C kcX9_88 dX9_feed_35 ?_
        exact x_iretP C hr hlk (Nat.le_refl _) (Nat.le_refl _) dX9_feed_37 ⟨(-1000000004 : Int32), rfl, Or.inr (Or.inr ⟨by omega, by omega, heq4, rfl, hTu6⟩)⟩
    · have rq2 : a1.toInt > (255 : Int32).toInt := by rw [Int32.le_iff_toInt_le] at q2; omega
      exact J11 uu0 hTy0 (by omega)
set_option maxRecDepth 20000 in
set_option maxHeartbeats 2000000 in
theorem tc_X9_bridge {G : GT} {l : Launch} {z n : Nat} {ln : Int} (uu0 : HpT) (hTz0 : TyC G z ln uu0) : Mp G l z yX9_bridge cX9_bridge 2 (some .int) { frames := 6, cells := 0, slots := 0, locals := 133 } [.ref (z + 0)] uu0 n (fun r v => TC G z 0 uu0 v ∧ ∃ x : Int32, r = some (.int x) ∧ True) := by
  refine mp_of (by decide +kernel) (Nat.le_of_ble_eq_true rfl) ?_
  intro p e s m below meth c C hr hlk hnm
  have hTy0 : TC G z ln uu0 uu0 := TC.rf hTz0
  refine x_aload_n C 0 dX9_bridge_0 rfl rfl ?_
  obtain ⟨bc1, dc1, c1_10, c1_11, pc1, oc1, nc1, hc1⟩ := ty_0 hTy0
  have hbb_bc1 : bc1 = 112 ∨ bc1 = 119 := pc1
  have hbb_dc1 : dc1 = 112 ∨ dc1 = 119 := oc1
  refine gfX9_10 C dX9_bridge_1 hc1 rfl ?_
  refine x_aload_n C 0 dX9_bridge_4 rfl rfl ?_
  refine gfX9_69 C dX9_bridge_5 hc1 rfl ?_
  obtain ⟨c2_1, c2_2, c2_3, c2_4, hc2, qc2_0, qc2_1, qc2_2⟩ := ty_1 hTy0
  refine x_callVP C cl_X7_readInto kmX9_89 (ci := 6) (b := 1) (As := [.ref (z + dc1)]) (rest := []) rfl hc2 (tc_X7_readInto uu0 hTy0.1 dc1 oc1) rfl rfl (Nat.le_of_ble_eq_true rfl) ⟨Nat.le_of_ble_eq_true rfl, Nat.le_of_ble_eq_true rfl⟩ ⟨Nat.le_of_ble_eq_true rfl, Nat.le_of_ble_eq_true rfl⟩ dX9_bridge_8 ?_
  rintro _ u3 ⟨ju3, rfl⟩
  have hTu3 := hTy0.tr ju3
  refine x_norm (st2 := []) rfl rfl rfl rfl rfl ?_
  refine x_aload_n C 0 dX9_bridge_11 rfl rfl ?_
  obtain ⟨bc4, dc4, c4_10, c4_11, pc4, oc4, nc4, hc4⟩ := ty_0 hTu3
  have hbb_bc4 : bc4 = 112 ∨ bc4 = 119 := pc4
  have hbb_dc4 : dc4 = 112 ∨ dc4 = 119 := oc4
  refine gfX9_10 C dX9_bridge_12 hc4 rfl ?_
  obtain ⟨c5_1, c5_2, c5_3, c5_4, hc5, qc5_0, qc5_1, qc5_2⟩ := ty_1 hTu3
  refine x_callVP C cl_X7_empty kmX9_93 (ci := 6) (b := 1) (As := []) (rest := []) rfl hc5 (tc_X7_empty u3 hTu3.1) rfl rfl (Nat.le_of_ble_eq_true rfl) ⟨Nat.le_of_ble_eq_true rfl, Nat.le_of_ble_eq_true rfl⟩ ⟨Nat.le_of_ble_eq_true rfl, Nat.le_of_ble_eq_true rfl⟩ dX9_bridge_15 ?_
  rintro _ u6 ⟨ju6, rfl⟩
  have hTu6 := hTu3.tr ju6
  refine x_norm (st2 := []) rfl rfl rfl rfl rfl ?_
  refine x_aload_n C 0 dX9_bridge_18 rfl rfl ?_
  refine x_aload_n C 0 dX9_bridge_19 rfl rfl ?_
  obtain ⟨bc7, dc7, c7_10, c7_11, pc7, oc7, nc7, hc7⟩ := ty_0 hTu6
  have hbb_bc7 : bc7 = 112 ∨ bc7 = 119 := pc7
  have hbb_dc7 : dc7 = 112 ∨ dc7 = 119 := oc7
  refine gfX9_10 C dX9_bridge_20 hc7 rfl ?_
  obtain ⟨c8_1, c8_2, c8_3, c8_4, hc8, qc8_0, qc8_1, qc8_2⟩ := ty_1 hTu6
  refine gfX9_96 C dX9_bridge_23 hc8 rfl ?_
  obtain ⟨u9, eu9⟩ : ∃ w : HpT, w = hup u6 0 (.inr (8, [.ref (z + 1), .ref (z + 3), .ref (z + 6), .ref (z + 98), .ref (z + 99), .ref (z + 101), .ref (z + 106), .ref (z + 109), .ref (z + bc7), .ref (z + dc7), .int c7_10, .int c8_4])) := ⟨_, rfl⟩
  refine pfX9_76 C dX9_bridge_26 hc7 (Nat.le_of_ble_eq_true rfl) rfl eu9.symm ?_
  have hTu9 : TC G z 0 uu0 u9 := by rw [eu9]; exact hTu6.up_0 (by omega)
  have hn11 := (congrFun eu9 0).trans (hup_s _ _ _)
  refine x_aload_n C 0 dX9_bridge_29 rfl rfl ?_
  refine gfX9_10 C dX9_bridge_30 hn11 rfl ?_
  have k12 := (congrFun eu9 1).trans (hup_n' (by omega) hc8)
  refine gfX9_97 C dX9_bridge_33 k12 rfl ?_
  have l_0 : (0 : Int32).toInt = 0 := by decide
  refine x_if_eq C 50 dX9_bridge_36 (by decide) (fun q13 => ?_) (fun q13 => ?_)
  · have rq13 : c8_3.toInt = (0 : Int32).toInt := by rw [i_eq_iff] at q13; omega
    refine x_aload_n C 0 dX9_bridge_50 rfl rfl ?_
    refine gfX9_65 C dX9_bridge_51 hn11 rfl ?_
    refine x_astore_n C [(1, .ref (z + bc7)), (0, .ref (z + 0))] dX9_bridge_54 rfl (by decide) rfl ?_
    refine x_aload_n C 1 dX9_bridge_55 rfl rfl ?_
    refine x_aload_n C 1 dX9_bridge_56 rfl rfl ?_
    refine gfX9_69 C dX9_bridge_57 hn11 rfl ?_
    obtain ⟨u14, eu14⟩ : ∃ w : HpT, w = hup u9 0 (.inr (8, [.ref (z + 1), .ref (z + 3), .ref (z + 6), .ref (z + 98), .ref (z + 99), .ref (z + 101), .ref (z + 106), .ref (z + 109), .ref (z + dc7), .ref (z + dc7), .int c7_10, .int c8_4])) := ⟨_, rfl⟩
    refine pfX9_65 C dX9_bridge_60 hn11 (Nat.le_of_ble_eq_true rfl) rfl eu14.symm ?_
    have hn16 := (congrFun eu14 0).trans (hup_s _ _ _)
    refine x_aload_n C 1 dX9_bridge_63 rfl rfl ?_
    refine x_aload_n C 0 dX9_bridge_64 rfl rfl ?_
    obtain ⟨u17, eu17⟩ : ∃ w : HpT, w = hup u14 0 (.inr (8, [.ref (z + 1), .ref (z + 3), .ref (z + 6), .ref (z + 98), .ref (z + 99), .ref (z + 101), .ref (z + 106), .ref (z + 109), .ref (z + dc7), .ref (z + bc7), .int c7_10, .int c8_4])) := ⟨_, rfl⟩
    refine pfX9_69 C dX9_bridge_65 hn16 (Nat.le_of_ble_eq_true rfl) rfl eu17.symm ?_
    have hTu17 : TC G z 0 uu0 u17 := by rw [eu17, eu14, hup_hup]; exact hTu9.up_0 (by omega)
    have hn19 := (congrFun eu17 0).trans (hup_s _ _ _)
    refine x_aload_n C 1 dX9_bridge_68 rfl rfl ?_
    refine x_callVP C cl_X9_beginBridge kmX9_100 (ci := 8) (b := 0) (As := []) (rest := []) rfl hn19 (tc_X9_beginBridge u17 hTu17.1) rfl rfl (Nat.le_of_ble_eq_true rfl) ⟨Nat.le_of_ble_eq_true rfl, Nat.le_of_ble_eq_true rfl⟩ ⟨Nat.le_of_ble_eq_true rfl, Nat.le_of_ble_eq_true rfl⟩ dX9_bridge_69 ?_
    rintro _ u20 ⟨ju20, rfl⟩
    have hTu20 := hTu17.tr ju20
    refine x_norm (st2 := []) rfl rfl rfl rfl rfl ?_
    refine x_aload_n C 1 dX9_bridge_72 rfl rfl ?_
    obtain ⟨bc21, dc21, c21_10, c21_11, pc21, oc21, nc21, hc21⟩ := ty_0 hTu20
    have hbb_bc21 : bc21 = 112 ∨ bc21 = 119 := pc21
    have hbb_dc21 : dc21 = 112 ∨ dc21 = 119 := oc21
    refine gfX9_65 C dX9_bridge_73 hc21 rfl ?_
    obtain ⟨c22_0, c22_1, c22_2, c22_3, hc22, qc22_0, qc22_1, qc22_2, qc22_3⟩ := ty_br hTu20 pc21
    refine gfX9_103 C dX9_bridge_76 hc22 rfl ?_
    exact x_iretP C hr hlk (Nat.le_refl _) (Nat.le_refl _) dX9_bridge_79 ⟨hTu20, c22_3, rfl, trivial⟩
  · have rq13 : ¬ c8_3.toInt = (0 : Int32).toInt := by rw [i_eq_iff] at q13; omega
    refine x_bipush (v := (-10 : Int32)) C dX9_bridge_39 (by decide) ?_
    refine x_aload_n C 0 dX9_bridge_41 rfl rfl ?_
    refine gfX9_10 C dX9_bridge_42 hn11 rfl ?_
    refine gfX9_97 C dX9_bridge_45 k12 rfl ?_
    refine x_isub C dX9_bridge_48 ?_
    have l_m10 : (-10 : Int32).toInt = -10 := by decide
    refine x_top (fun w23 ew23 => ?_)
    exact x_iretP C hr hlk (Nat.le_refl _) (Nat.le_refl _) dX9_bridge_49 ⟨hTu9, w23, rfl, trivial⟩
