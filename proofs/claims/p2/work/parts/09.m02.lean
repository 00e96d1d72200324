set_option maxRecDepth 20000 in
set_option maxHeartbeats 2000000 in
theorem tc_X10_stay {G : GT} {l : Launch} {z n : Nat} {g : Nat → Int} (uu0 : HpT) (hTz0 : TyN G z g uu0) (a1 : Int32) (a2 : Int32) : Mp G l z yX10_stay cX10_stay 3 (some .int) { frames := 2, cells := 0, slots := 0, locals := 45 } [.ref (z + 134), .int a1, .int a2] uu0 n (fun r v => uu0 = v ∧ ∃ x : Int32, r = some (.int x) ∧ True) := by
  refine mp_of (by decide +kernel) (Nat.le_of_ble_eq_true rfl) ?_
  intro p e s m below meth c C hr hlk hnm
  have hTy0 : TN G z g uu0 uu0 := TN.rf hTz0
  have J25 : Xw p l e ({ frames := 2, cells := 0, slots := 0, locals := 45 } : Room) s m ([.ref (z + 134), .int a1, .int a2] : List Value).toArray below meth c G z 3 (MQ below (Qp G z n (fun r v => uu0 = v ∧ ∃ x : Int32, r = some (.int x) ∧ True)) ([.ref (z + 134), .int a1, .int a2] : List Value).toArray s 0 0 (zA z)) 25 [(0, .ref (z + 134)), (1, .int a1), (2, .int a2)] [] uu0 n 0 0 := by
    refine x_ldc C kcX10_193 dX10_stay_25 ?_
    have l_m1000000001 : (-1000000001 : Int32).toInt = -1000000001 := by decide
    exact x_iretP C hr hlk (Nat.le_refl _) (Nat.le_refl _) dX10_stay_27 ⟨rfl, (-1000000001 : Int32), rfl, trivial⟩
  refine x_aload_n C 0 dX10_stay_0 rfl rfl ?_
  refine x_iload_n C 1 dX10_stay_1 rfl rfl ?_
  obtain ⟨c2_0, c2_2, c2_3, c2_4, c2_5, c2_6, c2_7, c2_8, c2_9, c2_15, c2_16, c2_17, c2_18, c2_25, c2_26, c2_28, c2_30, c2_31, c2_32, c2_34, c2_37, hc2, qc2_0, qc2_1, qc2_2, qc2_3, qc2_4, qc2_5, qc2_6, qc2_7, qc2_8, qc2_9, qc2_10, qc2_11, qc2_12, qc2_13, qc2_14, qc2_15, qc2_16, qc2_17, qc2_18, qc2_19, qc2_20, qc2_21, qc2_22, qc2_23, qc2_24, qc2_25, qc2_26, qc2_27, qc2_28⟩ := tn_134 hTy0
  refine x_callVP C cl_X10_isTraveller kmX10_203 (ci := 9) (b := 134) (As := [.int a1]) (rest := []) rfl hc2 (tc_X10_isTraveller uu0 hTy0.1 a1) rfl rfl (Nat.le_of_ble_eq_true rfl) ⟨Nat.le_of_ble_eq_true rfl, Nat.le_of_ble_eq_true rfl⟩ ⟨Nat.le_of_ble_eq_true rfl, Nat.le_of_ble_eq_true rfl⟩ dX10_stay_2 ?_
  rintro _ _ ⟨rfl, r1, rfl, gr1⟩
  refine x_norm (st2 := [.int r1]) rfl rfl rfl rfl rfl ?_
  have l_0 : (0 : Int32).toInt = 0 := by decide
  refine x_if_eq C 25 dX10_stay_5 (by decide) (fun q4 => ?_) (fun q4 => ?_)
  · have rq4 : r1.toInt = (0 : Int32).toInt := by rw [i_eq_iff] at q4; omega
    exact J25  
  · have rq4 : ¬ r1.toInt = (0 : Int32).toInt := by rw [i_eq_iff] at q4; omega
    refine x_aload_n C 0 dX10_stay_8 rfl rfl ?_
    refine x_iload_n C 2 dX10_stay_9 rfl rfl ?_
    refine x_callVP C cl_X10_isMatter kmX10_190 (ci := 9) (b := 134) (As := [.int a2]) (rest := []) rfl hc2 (tc_X10_isMatter uu0 hTy0.1 a2) rfl rfl (Nat.le_of_ble_eq_true rfl) ⟨Nat.le_of_ble_eq_true rfl, Nat.le_of_ble_eq_true rfl⟩ ⟨Nat.le_of_ble_eq_true rfl, Nat.le_of_ble_eq_true rfl⟩ dX10_stay_10 ?_
    rintro _ _ ⟨rfl, r5, rfl, gr5⟩
    refine x_norm (st2 := [.int r5]) rfl rfl rfl rfl rfl ?_
    refine x_if_eq C 25 dX10_stay_13 (by decide) (fun q7 => ?_) (fun q7 => ?_)
    · have rq7 : r5.toInt = (0 : Int32).toInt := by rw [i_eq_iff] at q7; omega
      exact J25  
    · have rq7 : ¬ r5.toInt = (0 : Int32).toInt := by rw [i_eq_iff] at q7; omega
      refine x_aload_n C 0 dX10_stay_16 rfl rfl ?_
      refine x_iload_n C 1 dX10_stay_17 rfl rfl ?_
      refine x_iload_n C 2 dX10_stay_18 rfl rfl ?_
      refine x_callVP C cl_X10_stayOf kmX10_200 (ci := 9) (b := 134) (As := [.int a1, .int a2]) (rest := []) rfl hc2 (tc_X10_stayOf uu0 hTy0.1 a1 a2 (by omega) (by omega) (by omega) (by omega)) rfl rfl (Nat.le_of_ble_eq_true rfl) ⟨Nat.le_of_ble_eq_true rfl, Nat.le_of_ble_eq_true rfl⟩ ⟨Nat.le_of_ble_eq_true rfl, Nat.le_of_ble_eq_true rfl⟩ dX10_stay_19 ?_
      rintro _ _ ⟨rfl, r8, rfl, gr8⟩
      refine x_norm (st2 := [.int r8]) rfl rfl rfl rfl rfl ?_
      refine x_goto C 27 dX10_stay_22 (by decide) ?_
      exact x_iretP C hr hlk (Nat.le_refl _) (Nat.le_refl _) dX10_stay_27 ⟨rfl, r8, rfl, trivial⟩
set_option maxRecDepth 20000 in
set_option maxHeartbeats 2000000 in
theorem tc_X10_dry {G : GT} {l : Launch} {z n : Nat} {g : Nat → Int} (uu0 : HpT) (hTz0 : TyN G z g uu0) (a1 : Int32) (a2 : Int32) : Mp G l z yX10_dry cX10_dry 6 (some .int) { frames := 1, cells := 0, slots := 0, locals := 22 } [.ref (z + 134), .int a1, .int a2] uu0 n (fun r v => uu0 = v ∧ ∃ x : Int32, r = some (.int x) ∧ True) := by
  refine mp_of (by decide +kernel) (Nat.le_of_ble_eq_true rfl) ?_
  intro p e s m below meth c C hr hlk hnm
  have hTy0 : TN G z g uu0 uu0 := TN.rf hTz0
  have zl_a1 : -2147483648 ≤ a1.toInt := Int32.le_toInt a1
  have zh_a1 : a1.toInt ≤ 2147483647 := Int32.toInt_le a1
  have zl_a2 : -2147483648 ≤ a2.toInt := Int32.le_toInt a2
  have zh_a2 : a2.toInt ≤ 2147483647 := Int32.toInt_le a2
  have J30 : ∀ (d : Nat) (x5_30 : Int32) (hl_x5_30 : 0 ≤ x5_30.toInt) (hh_x5_30 : x5_30.toInt ≤ 60) (x3_30 : Int64) (nl_a1_30 : 0 ≤ a1.toInt) (nh_a1_30 : a1.toInt ≤ 60) (nl_a2_30 : 0 ≤ a2.toInt) (nh_a2_30 : a2.toInt ≤ 100) (hd : d = (61 - x5_30.toInt).toNat), Xw p l e ({ frames := 1, cells := 0, slots := 0, locals := 22 } : Room) s m ([.ref (z + 134), .int a1, .int a2] : List Value).toArray below meth c G z 6 (MQ below (Qp G z n (fun r v => uu0 = v ∧ ∃ x : Int32, r = some (.int x) ∧ True)) ([.ref (z + 134), .int a1, .int a2] : List Value).toArray s 0 0 (zA z)) 30 [(5, .int x5_30), (3, .long x3_30), (0, .ref (z + 134)), (1, .int a1), (2, .int a2)] [] uu0 n 0 0 := by
    intro d
    induction d using Nat.strongRecOn with
    | _ d ih30 =>
      intro  x5_30 hl_x5_30 hh_x5_30 x3_30 nl_a1_30 nh_a1_30 nl_a2_30 nh_a2_30 hd30
      refine x_iload C 0 dX10_dry_30 rfl ?_
      refine x_iload_n C 3 dX10_dry_32 rfl rfl ?_
      refine x_icmp_ge C 51 dX10_dry_33 (by decide) (fun q1 => ?_) (fun q1 => ?_)
      · have rq1 : x5_30.toInt ≥ a1.toInt := by rw [Int32.le_iff_toInt_le] at q1; omega
        refine x_lload_n C 1 dX10_dry_51 rfl rfl ?_
        refine x_l2i C dX10_dry_52 ?_
        refine x_top (fun w2 ew2 => ?_)
        exact x_iretP C hr hlk (Nat.le_refl _) (Nat.le_refl _) dX10_dry_53 ⟨rfl, w2, rfl, trivial⟩
      · have rq1 : x5_30.toInt < a1.toInt := by rw [Int32.le_iff_toInt_le] at q1; omega
        refine x_lload_n C 1 dX10_dry_36 rfl rfl ?_
        refine x_iload_n C 4 dX10_dry_37 rfl rfl ?_
        refine x_i2l C dX10_dry_38 ?_
        refine x_topl (fun g3 eg3 => ?_)
        have fg3_0 : g3.toInt = a2.toInt := by rw [eg3]; exact Int32.toInt_toInt64 _
        refine x_lmul C dX10_dry_39 ?_
        refine x_topl (fun g4 eg4 => ?_)
        refine x_ldc2 C kcX10_288 dX10_dry_40 ?_
        refine x_ldiv C dX10_dry_43 (by decide) ?_
        refine x_topl (fun g5 eg5 => ?_)
        refine x_lstore_n C [(3, .long g5), (5, .int x5_30), (0, .ref (z + 134)), (1, .int a1), (2, .int a2)] dX10_dry_44 rfl (by decide) rfl ?_
        have l_1 : (1 : Int32).toInt = 1 := by decide
        obtain ⟨w6, ew6⟩ : ∃ w : Int32, w = x5_30 + Int32.ofInt 1 := ⟨_, rfl⟩
        have fw6 : w6.toInt = x5_30.toInt + (1) := by rw [ew6]; exact i_addk (by decide) (by omega) (by omega)
        refine x_iinc (v := w6) C 1 [(5, .int w6), (3, .long g5), (0, .ref (z + 134)), (1, .int a1), (2, .int a2)] dX10_dry_45 rfl ew6.symm (by decide) rfl ?_
        refine x_goto C 30 dX10_dry_48 (by decide) ?_
        exact ih30 (61 - w6.toInt).toNat (by omega)  w6 (by omega) (by omega) g5 (by omega) (by omega) (by omega) (by omega) rfl
  have J20 : Xw p l e ({ frames := 1, cells := 0, slots := 0, locals := 22 } : Room) s m ([.ref (z + 134), .int a1, .int a2] : List Value).toArray below meth c G z 6 (MQ below (Qp G z n (fun r v => uu0 = v ∧ ∃ x : Int32, r = some (.int x) ∧ True)) ([.ref (z + 134), .int a1, .int a2] : List Value).toArray s 0 0 (zA z)) 20 [(0, .ref (z + 134)), (1, .int a1), (2, .int a2)] [] uu0 n 0 0 := by
    refine x_ldc C kcX10_86 dX10_dry_20 ?_
    have l_m1000000002 : (-1000000002 : Int32).toInt = -1000000002 := by decide
    exact x_iretP C hr hlk (Nat.le_refl _) (Nat.le_refl _) dX10_dry_22 ⟨rfl, (-1000000002 : Int32), rfl, trivial⟩
  refine x_iload_n C 1 dX10_dry_0 rfl rfl ?_
  refine x_iconst (v := (0 : Int32)) C dX10_dry_1 (by decide) ?_
  refine x_bipush (v := (60 : Int32)) C dX10_dry_2 (by decide) ?_
  have l_0 : (0 : Int32).toInt = 0 := by decide
  have l_60 : (60 : Int32).toInt = 60 := by decide
  refine x_callSP C cl_X10_in kmX10_82 (As := [.int a1, .int (0 : Int32), .int (60 : Int32)]) (rest := []) (tc_X10_in uu0 hTy0.1 a1 (0 : Int32) (60 : Int32)) rfl rfl (Nat.le_of_ble_eq_true rfl) ⟨Nat.le_of_ble_eq_true rfl, Nat.le_of_ble_eq_true rfl⟩ ⟨Nat.le_of_ble_eq_true rfl, Nat.le_of_ble_eq_true rfl⟩ dX10_dry_4 ?_
  rintro _ _ ⟨rfl, r7, rfl, gr7⟩
  refine x_norm (st2 := [.int r7]) rfl rfl rfl rfl rfl ?_
  refine x_if_eq C 20 dX10_dry_7 (by decide) (fun q9 => ?_) (fun q9 => ?_)
  · have rq9 : r7.toInt = (0 : Int32).toInt := by rw [i_eq_iff] at q9; omega
    exact J20  
  · have rq9 : ¬ r7.toInt = (0 : Int32).toInt := by rw [i_eq_iff] at q9; omega
    refine x_iload_n C 2 dX10_dry_10 rfl rfl ?_
    refine x_iconst (v := (0 : Int32)) C dX10_dry_11 (by decide) ?_
    refine x_bipush (v := (100 : Int32)) C dX10_dry_12 (by decide) ?_
    have l_100 : (100 : Int32).toInt = 100 := by decide
    refine x_callSP C cl_X10_in kmX10_82 (As := [.int a2, .int (0 : Int32), .int (100 : Int32)]) (rest := []) (tc_X10_in uu0 hTy0.1 a2 (0 : Int32) (100 : Int32)) rfl rfl (Nat.le_of_ble_eq_true rfl) ⟨Nat.le_of_ble_eq_true rfl, Nat.le_of_ble_eq_true rfl⟩ ⟨Nat.le_of_ble_eq_true rfl, Nat.le_of_ble_eq_true rfl⟩ dX10_dry_14 ?_
    rintro _ _ ⟨rfl, r10, rfl, gr10⟩
    refine x_norm (st2 := [.int r10]) rfl rfl rfl rfl rfl ?_
    refine x_if_ne C 23 dX10_dry_17 (by decide) (fun q12 => ?_) (fun q12 => ?_)
    · have rq12 : ¬ r10.toInt = (0 : Int32).toInt := by rw [i_eq_iff] at q12; omega
      refine x_ldc2 C kcX10_286 dX10_dry_23 ?_
      refine x_lstore_n C [(3, .long (1000000000 : Int64)), (0, .ref (z + 134)), (1, .int a1), (2, .int a2)] dX10_dry_26 rfl (by decide) rfl ?_
      refine x_iconst (v := (0 : Int32)) C dX10_dry_27 (by decide) ?_
      refine x_istore C [(5, .int (0 : Int32)), (3, .long (1000000000 : Int64)), (0, .ref (z + 134)), (1, .int a1), (2, .int a2)] dX10_dry_28 (by decide) rfl ?_
      exact J30 (61 - (0 : Int32).toInt).toNat  (0 : Int32) (by omega) (by omega) (1000000000 : Int64) (by omega) (by omega) (by omega) (by omega) rfl
    · have rq12 : r10.toInt = (0 : Int32).toInt := by rw [i_eq_iff] at q12; omega
      exact J20  
set_option maxRecDepth 20000 in
set_option maxHeartbeats 2000000 in
theorem tc_X10_stayed {G : GT} {l : Launch} {z n : Nat} {g : Nat → Int} (uu0 : HpT) (hTz0 : TyN G z g uu0) (a1 : Int32) (a2 : Int32) : Mp G l z yX10_stayed cX10_stayed 3 (some .int) { frames := 2, cells := 0, slots := 0, locals := 43 } [.ref (z + 134), .int a1, .int a2] uu0 n (fun r v => TN G z g uu0 v ∧ ∃ x : Int32, r = some (.int x) ∧ True) := by
  refine mp_of (by decide +kernel) (Nat.le_of_ble_eq_true rfl) ?_
  intro p e s m below meth c C hr hlk hnm
  have hTy0 : TN G z g uu0 uu0 := TN.rf hTz0
  refine x_aload_n C 0 dX10_stayed_0 rfl rfl ?_
  refine x_iload_n C 1 dX10_stayed_1 rfl rfl ?_
  obtain ⟨c2_0, c2_2, c2_3, c2_4, c2_5, c2_6, c2_7, c2_8, c2_9, c2_15, c2_16, c2_17, c2_18, c2_25, c2_26, c2_28, c2_30, c2_31, c2_32, c2_34, c2_37, hc2, qc2_0, qc2_1, qc2_2, qc2_3, qc2_4, qc2_5, qc2_6, qc2_7, qc2_8, qc2_9, qc2_10, qc2_11, qc2_12, qc2_13, qc2_14, qc2_15, qc2_16, qc2_17, qc2_18, qc2_19, qc2_20, qc2_21, qc2_22, qc2_23, qc2_24, qc2_25, qc2_26, qc2_27, qc2_28⟩ := tn_134 hTy0
  refine x_callVP C cl_X10_isTraveller kmX10_203 (ci := 9) (b := 134) (As := [.int a1]) (rest := []) rfl hc2 (tc_X10_isTraveller uu0 hTy0.1 a1) rfl rfl (Nat.le_of_ble_eq_true rfl) ⟨Nat.le_of_ble_eq_true rfl, Nat.le_of_ble_eq_true rfl⟩ ⟨Nat.le_of_ble_eq_true rfl, Nat.le_of_ble_eq_true rfl⟩ dX10_stayed_2 ?_
  rintro _ _ ⟨rfl, r1, rfl, gr1⟩
  refine x_norm (st2 := [.int r1]) rfl rfl rfl rfl rfl ?_
  have l_0 : (0 : Int32).toInt = 0 := by decide
  refine x_if_ne C 11 dX10_stayed_5 (by decide) (fun q4 => ?_) (fun q4 => ?_)
  · have rq4 : ¬ r1.toInt = (0 : Int32).toInt := by rw [i_eq_iff] at q4; omega
    refine x_iload_n C 2 dX10_stayed_11 rfl rfl ?_
    refine x_iconst (v := (0 : Int32)) C dX10_stayed_12 (by decide) ?_
    refine x_bipush (v := (100 : Int32)) C dX10_stayed_13 (by decide) ?_
    have l_100 : (100 : Int32).toInt = 100 := by decide
    refine x_callSP C cl_X10_in kmX10_82 (As := [.int a2, .int (0 : Int32), .int (100 : Int32)]) (rest := []) (tc_X10_in uu0 hTy0.1 a2 (0 : Int32) (100 : Int32)) rfl rfl (Nat.le_of_ble_eq_true rfl) ⟨Nat.le_of_ble_eq_true rfl, Nat.le_of_ble_eq_true rfl⟩ ⟨Nat.le_of_ble_eq_true rfl, Nat.le_of_ble_eq_true rfl⟩ dX10_stayed_15 ?_
    rintro _ _ ⟨rfl, r5, rfl, gr5⟩
    refine x_norm (st2 := [.int r5]) rfl rfl rfl rfl rfl ?_
    refine x_if_ne C 24 dX10_stayed_18 (by decide) (fun q7 => ?_) (fun q7 => ?_)
    · have rq7 : ¬ r5.toInt = (0 : Int32).toInt := by rw [i_eq_iff] at q7; omega
      refine x_aload_n C 0 dX10_stayed_24 rfl rfl ?_
      refine gfX10_162 C dX10_stayed_25 hc2 rfl ?_
      refine x_bipush (v := (6 : Int32)) C dX10_stayed_28 (by decide) ?_
      have l_6 : (6 : Int32).toInt = 6 := by decide
      refine x_icmp_ne C 36 dX10_stayed_30 (by decide) (fun q8 => ?_) (fun q8 => ?_)
      · have rq8 : ¬ c2_34.toInt = (6 : Int32).toInt := by rw [i_eq_iff] at q8; omega
        refine x_aload_n C 0 dX10_stayed_36 rfl rfl ?_
        refine gfX10_59 C dX10_stayed_37 hc2 rfl ?_
        refine x_aload_n C 0 dX10_stayed_40 rfl rfl ?_
        refine gfX10_162 C dX10_stayed_41 hc2 rfl ?_
        refine x_iload_n C 1 dX10_stayed_44 rfl rfl ?_
        obtain ⟨f9, hf9, qf9_0⟩ := tn_150 hTy0
        have qf10_0 : ∀ j : Nat, j < 6 → (fun (i x : Int) => 0 ≤ x ∧ x ≤ 5) j ((upd f9 c2_34.toNatClampNeg a1) j).toInt := ap_upd (P := fun (i x : Int) => 0 ≤ x ∧ x ≤ 5) qf9_0 (by omega) (show 0 ≤ a1.toInt ∧ a1.toInt ≤ 5 from by omega)
        refine x_iast C hf9 (i_in (by omega) (by omega)) dX10_stayed_45 ?_
        obtain ⟨u11, eu11⟩ : ∃ w : HpT, w = hup uu0 150 (aI G 6 (upd f9 c2_34.toNatClampNeg a1)) := ⟨_, rfl⟩
        refine x_heap (u2 := u11) eu11.symm ?_
        have hTu11 : TN G z g uu0 u11 := by rw [eu11]; exact hTy0.up_150 qf10_0
        have hn13 := (congrFun eu11 150).trans (hup_s _ _ _)
        generalize (upd f9 c2_34.toNatClampNeg a1) = f10 at *
        refine x_aload_n C 0 dX10_stayed_46 rfl rfl ?_
        have k14 := (congrFun eu11 134).trans (hup_n' (by omega) hc2)
        refine gfX10_62 C dX10_stayed_47 k14 rfl ?_
        refine x_aload_n C 0 dX10_stayed_50 rfl rfl ?_
        refine gfX10_162 C dX10_stayed_51 k14 rfl ?_
        refine x_iload_n C 2 dX10_stayed_54 rfl rfl ?_
        obtain ⟨f15, hf15⟩ := tn_151 hTu11
        refine x_iast C hf15 (i_in (by omega) (by omega)) dX10_stayed_55 ?_
        obtain ⟨u17, eu17⟩ : ∃ w : HpT, w = hup u11 151 (aI G 6 (upd f15 c2_34.toNatClampNeg a2)) := ⟨_, rfl⟩
        refine x_heap (u2 := u17) eu17.symm ?_
        have hTu17 : TN G z g uu0 u17 := by rw [eu17]; exact hTu11.up_151
        have hn20 := (congrFun eu17 151).trans (hup_s _ _ _)
        generalize (upd f15 c2_34.toNatClampNeg a2) = f16 at *
        refine x_aload_n C 0 dX10_stayed_56 rfl rfl ?_
        refine x_dup C dX10_stayed_57 rfl ?_
        have k21 := (congrFun eu17 134).trans (hup_n' (by omega) k14)
        refine gfX10_162 C dX10_stayed_58 k21 rfl ?_
        refine x_iconst (v := (1 : Int32)) C dX10_stayed_61 (by decide) ?_
        refine x_iadd C dX10_stayed_62 ?_
        have l_1 : (1 : Int32).toInt = 1 := by decide
        refine x_top (fun w22 ew22 => ?_)
        have fw22_0 : w22.toInt = c2_34.toInt + (1 : Int32).toInt := by rw [ew22]; exact i_add (by omega) (by omega)
        obtain ⟨u23, eu23⟩ : ∃ w : HpT, w = hup u17 134 (.inr (9, [.int c2_0, .ref (z + 135), .int c2_2, .int c2_3, .int c2_4, .int c2_5, .int c2_6, .int c2_7, .int c2_8, .int c2_9, .ref (z + 136), .ref (z + 137), .ref (z + 138), .ref (z + 139), .ref (z + 140), .int c2_15, .int c2_16, .int c2_17, .int c2_18, .ref (z + 141), .ref (z + 142), .ref (z + 143), .ref (z + 144), .ref (z + 145), .ref (z + 146), .int c2_25, .int c2_26, .ref (z + 147), .long c2_28, .ref (z + 148), .int c2_30, .int c2_31, .int c2_32, .ref (z + 149), .int w22, .ref (z + 150), .ref (z + 151), .int c2_37, .ref (z + 152), .ref (z + 153), .ref (z + 154), .ref (z + 155), .ref (z + 156)])) := ⟨_, rfl⟩
        refine pfX10_162 C dX10_stayed_63 k21 (Nat.le_of_ble_eq_true rfl) rfl eu23.symm ?_
        have hTu23 : TN G z g uu0 u23 := by rw [eu23]; exact hTu17.up_134 (by omega)
        have hn26 := (congrFun eu23 134).trans (hup_s _ _ _)
        refine x_aload_n C 0 dX10_stayed_66 rfl rfl ?_
        refine gfX10_162 C dX10_stayed_67 hn26 rfl ?_
        exact x_iretP C hr hlk (Nat.le_refl _) (Nat.le_refl _) dX10_stayed_70 ⟨hTu23, w22, rfl, trivial⟩
      · have rq8 : c2_34.toInt = (6 : Int32).toInt := by rw [i_eq_iff] at q8; omega
        refine x_ldc C kcX10_90 dX10_stayed_33 ?_
        have l_m1000000004 : (-1000000004 : Int32).toInt = -1000000004 := by decide
        exact x_iretP C hr hlk (Nat.le_refl _) (Nat.le_refl _) dX10_stayed_35 ⟨hTy0, (-1000000004 : Int32), rfl, trivial⟩
    · have rq7 : r5.toInt = (0 : Int32).toInt := by rw [i_eq_iff] at q7; omega
      refine x_ldc C kcX10_86 dX10_stayed_21 ?_
      have l_m1000000002 : (-1000000002 : Int32).toInt = -1000000002 := by decide
      exact x_iretP C hr hlk (Nat.le_refl _) (Nat.le_refl _) dX10_stayed_23 ⟨hTy0, (-1000000002 : Int32), rfl, trivial⟩
  · have rq4 : r1.toInt = (0 : Int32).toInt := by rw [i_eq_iff] at q4; omega
    refine x_ldc C kcX10_193 dX10_stayed_8 ?_
    have l_m1000000001 : (-1000000001 : Int32).toInt = -1000000001 := by decide
    exact x_iretP C hr hlk (Nat.le_refl _) (Nat.le_refl _) dX10_stayed_10 ⟨hTy0, (-1000000001 : Int32), rfl, trivial⟩
set_option maxRecDepth 20000 in
set_option maxHeartbeats 2000000 in
theorem tc_X10_couldBe {G : GT} {l : Launch} {z n : Nat} {g : Nat → Int} (uu0 : HpT) (hTz0 : TyN G z g uu0) : Mp G l z yX10_couldBe cX10_couldBe 5 (some .int) { frames := 2, cells := 0, slots := 0, locals := 45 } [.ref (z + 134)] uu0 n (fun r v => uu0 = v ∧ ∃ x : Int32, r = some (.int x) ∧ True) := by
  refine mp_of (by decide +kernel) (Nat.le_of_ble_eq_true rfl) ?_
  intro p e s m below meth c C hr hlk hnm
  have hTy0 : TN G z g uu0 uu0 := TN.rf hTz0
  have J4 : ∀ (d : Nat) (x2_4 : Int32) (hl_x2_4 : 0 ≤ x2_4.toInt) (hh_x2_4 : x2_4.toInt ≤ 8) (x1_4 : Int32) (hd : d = (9 - x2_4.toInt).toNat), Xw p l e ({ frames := 2, cells := 0, slots := 0, locals := 45 } : Room) s m ([.ref (z + 134)] : List Value).toArray below meth c G z 5 (MQ below (Qp G z n (fun r v => uu0 = v ∧ ∃ x : Int32, r = some (.int x) ∧ True)) ([.ref (z + 134)] : List Value).toArray s 0 0 (zA z)) 4 [(2, .int x2_4), (1, .int x1_4), (0, .ref (z + 134))] [] uu0 n 0 0 := by
    intro d
    induction d using Nat.strongRecOn with
    | _ d ih4 =>
      intro  x2_4 hl_x2_4 hh_x2_4 x1_4 hd4
      have J76 : ∀ (x4_76 : Int32) (hl_x4_76 : 0 ≤ x4_76.toInt) (hh_x4_76 : x4_76.toInt ≤ 6) (x3_76 : Int32) (hl_x3_76 : 0 ≤ x3_76.toInt) (hh_x3_76 : x3_76.toInt ≤ 1) (y0_76 : Int32) (nl_x2_4_76 : 0 ≤ x2_4.toInt) (nh_x2_4_76 : x2_4.toInt ≤ 7), Xw p l e ({ frames := 2, cells := 0, slots := 0, locals := 45 } : Room) s m ([.ref (z + 134)] : List Value).toArray below meth c G z 5 (MQ below (Qp G z n (fun r v => uu0 = v ∧ ∃ x : Int32, r = some (.int x) ∧ True)) ([.ref (z + 134)] : List Value).toArray s 0 0 (zA z)) 76 [(4, .int x4_76), (3, .int x3_76), (2, .int x2_4), (1, .int x1_4), (0, .ref (z + 134))] [.int y0_76, .int x1_4] uu0 n 0 0 := by
        intro  x4_76 hl_x4_76 hh_x4_76 x3_76 hl_x3_76 hh_x3_76 y0_76 nl_x2_4_76 nh_x2_4_76
        refine x_ior C dX10_couldBe_76 ?_
        refine x_top (fun w1 ew1 => ?_)
        refine x_istore_n C [(1, .int w1), (4, .int x4_76), (3, .int x3_76), (2, .int x2_4), (0, .ref (z + 134))] dX10_couldBe_77 rfl (by decide) rfl ?_
        have l_1 : (1 : Int32).toInt = 1 := by decide
        obtain ⟨w2, ew2⟩ : ∃ w : Int32, w = x2_4 + Int32.ofInt 1 := ⟨_, rfl⟩
        have fw2 : w2.toInt = x2_4.toInt + (1) := by rw [ew2]; exact i_addk (by decide) (by omega) (by omega)
        refine x_iinc (v := w2) C 3 [(2, .int w2), (1, .int w1), (4, .int x4_76), (3, .int x3_76), (0, .ref (z + 134))] dX10_couldBe_78 rfl ew2.symm (by decide) rfl ?_
        refine x_goto C 4 dX10_couldBe_81 (by decide) ?_
        refine x_mv (lo2 := [(2, .int w2), (1, .int w1), (0, .ref (z + 134))]) [0, 1, 4] rfl ?_
        exact ih4 (9 - w2.toInt).toNat (by omega)  w2 (by omega) (by omega) w1 rfl
      have J17 : ∀ (d : Nat) (x4_17 : Int32) (hl_x4_17 : 0 ≤ x4_17.toInt) (hh_x4_17 : x4_17.toInt ≤ 6) (x3_17 : Int32) (hl_x3_17 : 0 ≤ x3_17.toInt) (hh_x3_17 : x3_17.toInt ≤ 1) (nl_x2_4_17 : 0 ≤ x2_4.toInt) (nh_x2_4_17 : x2_4.toInt ≤ 7) (hd : d = (7 - x4_17.toInt).toNat), Xw p l e ({ frames := 2, cells := 0, slots := 0, locals := 45 } : Room) s m ([.ref (z + 134)] : List Value).toArray below meth c G z 5 (MQ below (Qp G z n (fun r v => uu0 = v ∧ ∃ x : Int32, r = some (.int x) ∧ True)) ([.ref (z + 134)] : List Value).toArray s 0 0 (zA z)) 17 [(4, .int x4_17), (3, .int x3_17), (2, .int x2_4), (1, .int x1_4), (0, .ref (z + 134))] [] uu0 n 0 0 := by
        intro d
        induction d using Nat.strongRecOn with
        | _ d ih17 =>
          intro  x4_17 hl_x4_17 hh_x4_17 x3_17 hl_x3_17 hh_x3_17 nl_x2_4_17 nh_x2_4_17 hd17
          have J57 : ∀ (y0_57 : Int32) (hl_y0_57 : 0 ≤ y0_57.toInt) (hh_y0_57 : y0_57.toInt ≤ 1) (nl_x2_4_57 : 0 ≤ x2_4.toInt) (nh_x2_4_57 : x2_4.toInt ≤ 7) (nl_x4_17_57 : 0 ≤ x4_17.toInt) (nh_x4_17_57 : x4_17.toInt ≤ 5), Xw p l e ({ frames := 2, cells := 0, slots := 0, locals := 45 } : Room) s m ([.ref (z + 134)] : List Value).toArray below meth c G z 5 (MQ below (Qp G z n (fun r v => uu0 = v ∧ ∃ x : Int32, r = some (.int x) ∧ True)) ([.ref (z + 134)] : List Value).toArray s 0 0 (zA z)) 57 [(4, .int x4_17), (3, .int x3_17), (2, .int x2_4), (1, .int x1_4), (0, .ref (z + 134))] [.int y0_57] uu0 n 0 0 := by
            intro  y0_57 hl_y0_57 hh_y0_57 nl_x2_4_57 nh_x2_4_57 nl_x4_17_57 nh_x4_17_57
            refine x_istore_n C [(3, .int y0_57), (4, .int x4_17), (2, .int x2_4), (1, .int x1_4), (0, .ref (z + 134))] dX10_couldBe_57 rfl (by decide) rfl ?_
            have l_1 : (1 : Int32).toInt = 1 := by decide
            obtain ⟨w3, ew3⟩ : ∃ w : Int32, w = x4_17 + Int32.ofInt 1 := ⟨_, rfl⟩
            have fw3 : w3.toInt = x4_17.toInt + (1) := by rw [ew3]; exact i_addk (by decide) (by omega) (by omega)
            refine x_iinc (v := w3) C 1 [(4, .int w3), (3, .int y0_57), (2, .int x2_4), (1, .int x1_4), (0, .ref (z + 134))] dX10_couldBe_58 rfl ew3.symm (by decide) rfl ?_
            refine x_goto C 17 dX10_couldBe_61 (by decide) ?_
            exact ih17 (7 - w3.toInt).toNat (by omega)  w3 (by omega) (by omega) y0_57 (by omega) (by omega) (by omega) (by omega) rfl
          have J56 : ∀ (nl_x2_4_56 : 0 ≤ x2_4.toInt) (nh_x2_4_56 : x2_4.toInt ≤ 7) (nl_x4_17_56 : 0 ≤ x4_17.toInt) (nh_x4_17_56 : x4_17.toInt ≤ 5), Xw p l e ({ frames := 2, cells := 0, slots := 0, locals := 45 } : Room) s m ([.ref (z + 134)] : List Value).toArray below meth c G z 5 (MQ below (Qp G z n (fun r v => uu0 = v ∧ ∃ x : Int32, r = some (.int x) ∧ True)) ([.ref (z + 134)] : List Value).toArray s 0 0 (zA z)) 56 [(4, .int x4_17), (3, .int x3_17), (2, .int x2_4), (1, .int x1_4), (0, .ref (z + 134))] [] uu0 n 0 0 := by
            intro  nl_x2_4_56 nh_x2_4_56 nl_x4_17_56 nh_x4_17_56
            refine x_iconst (v := (0 : Int32)) C dX10_couldBe_56 (by decide) ?_
            have l_0 : (0 : Int32).toInt = 0 := by decide
            exact J57  (0 : Int32) (by omega) (by omega) (by omega) (by omega) (by omega) (by omega)
          refine x_iload C 0 dX10_couldBe_17 rfl ?_
          refine x_aload_n C 4 dX10_couldBe_19 rfl rfl ?_
          obtain ⟨c4_0, c4_2, c4_3, c4_4, c4_5, c4_6, c4_7, c4_8, c4_9, c4_15, c4_16, c4_17, c4_18, c4_25, c4_26, c4_28, c4_30, c4_31, c4_32, c4_34, c4_37, hc4, qc4_0, qc4_1, qc4_2, qc4_3, qc4_4, qc4_5, qc4_6, qc4_7, qc4_8, qc4_9, qc4_10, qc4_11, qc4_12, qc4_13, qc4_14, qc4_15, qc4_16, qc4_17, qc4_18, qc4_19, qc4_20, qc4_21, qc4_22, qc4_23, qc4_24, qc4_25, qc4_26, qc4_27, qc4_28⟩ := tn_134 hTy0
          refine gfX10_162 C dX10_couldBe_20 hc4 rfl ?_
          refine x_icmp_ge C 64 dX10_couldBe_23 (by decide) (fun q5 => ?_) (fun q5 => ?_)
          · have rq5 : x4_17.toInt ≥ c4_34.toInt := by rw [Int32.le_iff_toInt_le] at q5; omega
            refine x_iload_n C 3 dX10_couldBe_64 rfl rfl ?_
            refine x_iload_n C 1 dX10_couldBe_65 rfl rfl ?_
            have l_0 : (0 : Int32).toInt = 0 := by decide
            refine x_if_eq C 75 dX10_couldBe_66 (by decide) (fun q6 => ?_) (fun q6 => ?_)
            · have rq6 : x3_17.toInt = (0 : Int32).toInt := by rw [i_eq_iff] at q6; omega
              refine x_iconst (v := (0 : Int32)) C dX10_couldBe_75 (by decide) ?_
              exact J76  x4_17 (by omega) (by omega) x3_17 (by omega) (by omega) (0 : Int32) (by omega) (by omega)
            · have rq6 : ¬ x3_17.toInt = (0 : Int32).toInt := by rw [i_eq_iff] at q6; omega
              refine x_iconst (v := (1 : Int32)) C dX10_couldBe_69 (by decide) ?_
              refine x_iload_n C 2 dX10_couldBe_70 rfl rfl ?_
              refine x_ishl C dX10_couldBe_71 ?_
              have l_1 : (1 : Int32).toInt = 1 := by decide
              refine x_top (fun w7 ew7 => ?_)
              refine x_goto C 76 dX10_couldBe_72 (by decide) ?_
              exact J76  x4_17 (by omega) (by omega) x3_17 (by omega) (by omega) w7 (by omega) (by omega)
          · have rq5 : x4_17.toInt < c4_34.toInt := by rw [Int32.le_iff_toInt_le] at q5; omega
            refine x_iload_n C 1 dX10_couldBe_26 rfl rfl ?_
            have l_0 : (0 : Int32).toInt = 0 := by decide
            refine x_if_eq C 56 dX10_couldBe_27 (by decide) (fun q8 => ?_) (fun q8 => ?_)
            · have rq8 : x3_17.toInt = (0 : Int32).toInt := by rw [i_eq_iff] at q8; omega
              exact J56  (by omega) (by omega) (by omega) (by omega)
            · have rq8 : ¬ x3_17.toInt = (0 : Int32).toInt := by rw [i_eq_iff] at q8; omega
              refine x_aload_n C 4 dX10_couldBe_30 rfl rfl ?_
              refine x_aload_n C 4 dX10_couldBe_31 rfl rfl ?_
              refine gfX10_59 C dX10_couldBe_32 hc4 rfl ?_
              refine x_iload C 0 dX10_couldBe_35 rfl ?_
              obtain ⟨f9, hf9, qf9_0⟩ := tn_150 hTy0
              refine x_iald C hf9 (i_in (by omega) (by omega)) dX10_couldBe_37 ?_
              refine x_top (fun w10 ew10 => ?_)
              have fw10_0 : 0 ≤ w10.toInt ∧ w10.toInt ≤ 5 := by rw [ew10]; exact ap_get (P := fun (i x : Int) => 0 ≤ x ∧ x ≤ 5) qf9_0 (by omega) (by omega)
              refine x_iload_n C 2 dX10_couldBe_38 rfl rfl ?_
              refine x_callVP C cl_X10_stayOf kmX10_200 (ci := 9) (b := 134) (As := [.int w10, .int x2_4]) (rest := []) rfl hc4 (tc_X10_stayOf uu0 hTy0.1 w10 x2_4 (by omega) (by omega) (by omega) (by omega)) rfl rfl (Nat.le_of_ble_eq_true rfl) ⟨Nat.le_of_ble_eq_true rfl, Nat.le_of_ble_eq_true rfl⟩ ⟨Nat.le_of_ble_eq_true rfl, Nat.le_of_ble_eq_true rfl⟩ dX10_couldBe_39 ?_
              rintro _ _ ⟨rfl, r11, rfl, gr11⟩
              refine x_norm (st2 := [.int r11]) rfl rfl rfl rfl rfl ?_
              refine x_aload_n C 4 dX10_couldBe_42 rfl rfl ?_
              refine gfX10_62 C dX10_couldBe_43 hc4 rfl ?_
              refine x_iload C 0 dX10_couldBe_46 rfl ?_
              obtain ⟨f13, hf13⟩ := tn_151 hTy0
              refine x_iald C hf13 (i_in (by omega) (by omega)) dX10_couldBe_48 ?_
              refine x_top (fun w14 ew14 => ?_)
              refine x_icmp_ne C 56 dX10_couldBe_49 (by decide) (fun q15 => ?_) (fun q15 => ?_)
              · have rq15 : ¬ r11.toInt = w14.toInt := by rw [i_eq_iff] at q15; omega
                exact J56  (by omega) (by omega) (by omega) (by omega)
              · have rq15 : r11.toInt = w14.toInt := by rw [i_eq_iff] at q15; omega
                refine x_iconst (v := (1 : Int32)) C dX10_couldBe_52 (by decide) ?_
                refine x_goto C 57 dX10_couldBe_53 (by decide) ?_
                have l_1 : (1 : Int32).toInt = 1 := by decide
                exact J57  (1 : Int32) (by omega) (by omega) (by omega) (by omega) (by omega) (by omega)
      refine x_iload_n C 0 dX10_couldBe_4 rfl rfl ?_
      refine x_aload_n C 2 dX10_couldBe_5 rfl rfl ?_
      obtain ⟨c16_0, c16_2, c16_3, c16_4, c16_5, c16_6, c16_7, c16_8, c16_9, c16_15, c16_16, c16_17, c16_18, c16_25, c16_26, c16_28, c16_30, c16_31, c16_32, c16_34, c16_37, hc16, qc16_0, qc16_1, qc16_2, qc16_3, qc16_4, qc16_5, qc16_6, qc16_7, qc16_8, qc16_9, qc16_10, qc16_11, qc16_12, qc16_13, qc16_14, qc16_15, qc16_16, qc16_17, qc16_18, qc16_19, qc16_20, qc16_21, qc16_22, qc16_23, qc16_24, qc16_25, qc16_26, qc16_27, qc16_28⟩ := tn_134 hTy0
      refine gfX10_153 C dX10_couldBe_6 hc16 rfl ?_
      refine x_icmp_ge C 84 dX10_couldBe_9 (by decide) (fun q17 => ?_) (fun q17 => ?_)
      · have rq17 : x2_4.toInt ≥ c16_17.toInt := by rw [Int32.le_iff_toInt_le] at q17; omega
        refine x_iload_n C 1 dX10_couldBe_84 rfl rfl ?_
        exact x_iretP C hr hlk (Nat.le_refl _) (Nat.le_refl _) dX10_couldBe_85 ⟨rfl, x1_4, rfl, trivial⟩
      · have rq17 : x2_4.toInt < c16_17.toInt := by rw [Int32.le_iff_toInt_le] at q17; omega
        refine x_iconst (v := (1 : Int32)) C dX10_couldBe_12 (by decide) ?_
        refine x_istore_n C [(3, .int (1 : Int32)), (2, .int x2_4), (1, .int x1_4), (0, .ref (z + 134))] dX10_couldBe_13 rfl (by decide) rfl ?_
        refine x_iconst (v := (0 : Int32)) C dX10_couldBe_14 (by decide) ?_
        refine x_istore C [(4, .int (0 : Int32)), (3, .int (1 : Int32)), (2, .int x2_4), (1, .int x1_4), (0, .ref (z + 134))] dX10_couldBe_15 (by decide) rfl ?_
        have l_0 : (0 : Int32).toInt = 0 := by decide
        have l_1 : (1 : Int32).toInt = 1 := by decide
        exact J17 (7 - (0 : Int32).toInt).toNat  (0 : Int32) (by omega) (by omega) (1 : Int32) (by omega) (by omega) (by omega) (by omega) rfl
  refine x_iconst (v := (0 : Int32)) C dX10_couldBe_0 (by decide) ?_
  refine x_istore_n C [(1, .int (0 : Int32)), (0, .ref (z + 134))] dX10_couldBe_1 rfl (by decide) rfl ?_
  refine x_iconst (v := (0 : Int32)) C dX10_couldBe_2 (by decide) ?_
  refine x_istore_n C [(2, .int (0 : Int32)), (1, .int (0 : Int32)), (0, .ref (z + 134))] dX10_couldBe_3 rfl (by decide) rfl ?_
  have l_0 : (0 : Int32).toInt = 0 := by decide
  exact J4 (9 - (0 : Int32).toInt).toNat  (0 : Int32) (by omega) (by omega) (0 : Int32) rfl
set_option maxRecDepth 20000 in
set_option maxHeartbeats 2000000 in
theorem tc_X10_alike {G : GT} {l : Launch} {z n : Nat} {g : Nat → Int} (uu0 : HpT) (hTz0 : TyN G z g uu0) (a1 : Int32) (a2 : Int32) (pre0 : 0 ≤ a2.toInt) (pre1 : a2.toInt ≤ 5) : Mp G l z yX10_alike cX10_alike 7 (some .int) { frames := 2, cells := 0, slots := 0, locals := 45 } [.ref (z + 134), .int a1, .int a2] uu0 n (fun r v => uu0 = v ∧ ∃ x : Int32, r = some (.int x) ∧ True) := by
  refine mp_of (by decide +kernel) (Nat.le_of_ble_eq_true rfl) ?_
  intro p e s m below meth c C hr hlk hnm
  have hTy0 : TN G z g uu0 uu0 := TN.rf hTz0
  have zl_a1 : -2147483648 ≤ a1.toInt := Int32.le_toInt a1
  have zh_a1 : a1.toInt ≤ 2147483647 := Int32.toInt_le a1
  have J5 : ∀ (d : Nat) (x4_5 : Int32) (hl_x4_5 : 0 ≤ x4_5.toInt) (hh_x4_5 : x4_5.toInt ≤ 8) (x3_5 : Int32) (hl_x3_5 : 0 ≤ x3_5.toInt) (hd : d = (9 - x4_5.toInt).toNat), Xw p l e ({ frames := 2, cells := 0, slots := 0, locals := 45 } : Room) s m ([.ref (z + 134), .int a1, .int a2] : List Value).toArray below meth c G z 7 (MQ below (Qp G z n (fun r v => uu0 = v ∧ ∃ x : Int32, r = some (.int x) ∧ True)) ([.ref (z + 134), .int a1, .int a2] : List Value).toArray s 0 0 (zA z)) 5 [(4, .int x4_5), (3, .int x3_5), (0, .ref (z + 134)), (1, .int a1), (2, .int a2)] [] uu0 n 0 0 := by
    intro d
    induction d using Nat.strongRecOn with
    | _ d ih5 =>
      intro  x4_5 hl_x4_5 hh_x4_5 x3_5 hl_x3_5 hd5
      have J92 : ∀ (x6_92 : Int32) (hl_x6_92 : 0 ≤ x6_92.toInt) (hh_x6_92 : x6_92.toInt ≤ 8) (x5_92 : Int32) (y0_92 : Int32) (hl_y0_92 : 0 ≤ y0_92.toInt) (nl_x4_5_92 : 0 ≤ x4_5.toInt) (nh_x4_5_92 : x4_5.toInt ≤ 7), Xw p l e ({ frames := 2, cells := 0, slots := 0, locals := 45 } : Room) s m ([.ref (z + 134), .int a1, .int a2] : List Value).toArray below meth c G z 7 (MQ below (Qp G z n (fun r v => uu0 = v ∧ ∃ x : Int32, r = some (.int x) ∧ True)) ([.ref (z + 134), .int a1, .int a2] : List Value).toArray s 0 0 (zA z)) 92 [(6, .int x6_92), (5, .int x5_92), (4, .int x4_5), (3, .int x3_5), (0, .ref (z + 134)), (1, .int a1), (2, .int a2)] [.int y0_92] uu0 n 0 0 := by
        intro  x6_92 hl_x6_92 hh_x6_92 x5_92 y0_92 hl_y0_92 nl_x4_5_92 nh_x4_5_92
        refine x_istore_n C [(3, .int y0_92), (6, .int x6_92), (5, .int x5_92), (4, .int x4_5), (0, .ref (z + 134)), (1, .int a1), (2, .int a2)] dX10_alike_92 rfl (by decide) rfl ?_
        have l_1 : (1 : Int32).toInt = 1 := by decide
        obtain ⟨w1, ew1⟩ : ∃ w : Int32, w = x4_5 + Int32.ofInt 1 := ⟨_, rfl⟩
        have fw1 : w1.toInt = x4_5.toInt + (1) := by rw [ew1]; exact i_addk (by decide) (by omega) (by omega)
        refine x_iinc (v := w1) C 3 [(4, .int w1), (3, .int y0_92), (6, .int x6_92), (5, .int x5_92), (0, .ref (z + 134)), (1, .int a1), (2, .int a2)] dX10_alike_93 rfl ew1.symm (by decide) rfl ?_
        refine x_goto C 5 dX10_alike_96 (by decide) ?_
        refine x_mv (lo2 := [(4, .int w1), (3, .int y0_92), (0, .ref (z + 134)), (1, .int a1), (2, .int a2)]) [0, 1, 4, 5, 6] rfl ?_
        exact ih5 (9 - w1.toInt).toNat (by omega)  w1 (by omega) (by omega) y0_92 (by omega) rfl
      have J20 : ∀ (d : Nat) (x6_20 : Int32) (hl_x6_20 : 0 ≤ x6_20.toInt) (hh_x6_20 : x6_20.toInt ≤ 8) (x5_20 : Int32) (nl_x4_5_20 : 0 ≤ x4_5.toInt) (nh_x4_5_20 : x4_5.toInt ≤ 7) (hd : d = (9 - x6_20.toInt).toNat), Xw p l e ({ frames := 2, cells := 0, slots := 0, locals := 45 } : Room) s m ([.ref (z + 134), .int a1, .int a2] : List Value).toArray below meth c G z 7 (MQ below (Qp G z n (fun r v => uu0 = v ∧ ∃ x : Int32, r = some (.int x) ∧ True)) ([.ref (z + 134), .int a1, .int a2] : List Value).toArray s 0 0 (zA z)) 20 [(6, .int x6_20), (5, .int x5_20), (4, .int x4_5), (3, .int x3_5), (0, .ref (z + 134)), (1, .int a1), (2, .int a2)] [] uu0 n 0 0 := by
        intro d
        induction d using Nat.strongRecOn with
        | _ d ih20 =>
          intro  x6_20 hl_x6_20 hh_x6_20 x5_20 nl_x4_5_20 nh_x4_5_20 hd20
          have J71 : ∀ (y0_71 : Int32) (hl_y0_71 : 0 ≤ y0_71.toInt) (hh_y0_71 : y0_71.toInt ≤ 1) (nl_x4_5_71 : 0 ≤ x4_5.toInt) (nh_x4_5_71 : x4_5.toInt ≤ 7) (nl_x6_20_71 : 0 ≤ x6_20.toInt) (nh_x6_20_71 : x6_20.toInt ≤ 7), Xw p l e ({ frames := 2, cells := 0, slots := 0, locals := 45 } : Room) s m ([.ref (z + 134), .int a1, .int a2] : List Value).toArray below meth c G z 7 (MQ below (Qp G z n (fun r v => uu0 = v ∧ ∃ x : Int32, r = some (.int x) ∧ True)) ([.ref (z + 134), .int a1, .int a2] : List Value).toArray s 0 0 (zA z)) 71 [(6, .int x6_20), (5, .int x5_20), (4, .int x4_5), (3, .int x3_5), (0, .ref (z + 134)), (1, .int a1), (2, .int a2)] [.int y0_71, .int x5_20] uu0 n 0 0 := by
            intro  y0_71 hl_y0_71 hh_y0_71 nl_x4_5_71 nh_x4_5_71 nl_x6_20_71 nh_x6_20_71
            refine x_iadd C dX10_alike_71 ?_
            refine x_top (fun w2 ew2 => ?_)
            refine x_istore C [(5, .int w2), (6, .int x6_20), (4, .int x4_5), (3, .int x3_5), (0, .ref (z + 134)), (1, .int a1), (2, .int a2)] dX10_alike_72 (by decide) rfl ?_
            have l_1 : (1 : Int32).toInt = 1 := by decide
            obtain ⟨w3, ew3⟩ : ∃ w : Int32, w = x6_20 + Int32.ofInt 1 := ⟨_, rfl⟩
            have fw3 : w3.toInt = x6_20.toInt + (1) := by rw [ew3]; exact i_addk (by decide) (by omega) (by omega)
            refine x_iinc (v := w3) C 1 [(6, .int w3), (5, .int w2), (4, .int x4_5), (3, .int x3_5), (0, .ref (z + 134)), (1, .int a1), (2, .int a2)] dX10_alike_74 rfl ew3.symm (by decide) rfl ?_
            refine x_goto C 20 dX10_alike_77 (by decide) ?_
            exact ih20 (9 - w3.toInt).toNat (by omega)  w3 (by omega) (by omega) w2 (by omega) (by omega) rfl
          have J70 : ∀ (nl_x4_5_70 : 0 ≤ x4_5.toInt) (nh_x4_5_70 : x4_5.toInt ≤ 7) (nl_x6_20_70 : 0 ≤ x6_20.toInt) (nh_x6_20_70 : x6_20.toInt ≤ 7), Xw p l e ({ frames := 2, cells := 0, slots := 0, locals := 45 } : Room) s m ([.ref (z + 134), .int a1, .int a2] : List Value).toArray below meth c G z 7 (MQ below (Qp G z n (fun r v => uu0 = v ∧ ∃ x : Int32, r = some (.int x) ∧ True)) ([.ref (z + 134), .int a1, .int a2] : List Value).toArray s 0 0 (zA z)) 70 [(6, .int x6_20), (5, .int x5_20), (4, .int x4_5), (3, .int x3_5), (0, .ref (z + 134)), (1, .int a1), (2, .int a2)] [.int x5_20] uu0 n 0 0 := by
            intro  nl_x4_5_70 nh_x4_5_70 nl_x6_20_70 nh_x6_20_70
            refine x_iconst (v := (0 : Int32)) C dX10_alike_70 (by decide) ?_
            have l_0 : (0 : Int32).toInt = 0 := by decide
            exact J71  (0 : Int32) (by omega) (by omega) (by omega) (by omega) (by omega) (by omega)
          refine x_iload C 0 dX10_alike_20 rfl ?_
          refine x_aload_n C 4 dX10_alike_22 rfl rfl ?_
          obtain ⟨c4_0, c4_2, c4_3, c4_4, c4_5, c4_6, c4_7, c4_8, c4_9, c4_15, c4_16, c4_17, c4_18, c4_25, c4_26, c4_28, c4_30, c4_31, c4_32, c4_34, c4_37, hc4, qc4_0, qc4_1, qc4_2, qc4_3, qc4_4, qc4_5, qc4_6, qc4_7, qc4_8, qc4_9, qc4_10, qc4_11, qc4_12, qc4_13, qc4_14, qc4_15, qc4_16, qc4_17, qc4_18, qc4_19, qc4_20, qc4_21, qc4_22, qc4_23, qc4_24, qc4_25, qc4_26, qc4_27, qc4_28⟩ := tn_134 hTy0
          refine gfX10_153 C dX10_alike_23 hc4 rfl ?_
          refine x_icmp_ge C 80 dX10_alike_26 (by decide) (fun q5 => ?_) (fun q5 => ?_)
          · have rq5 : x6_20.toInt ≥ c4_17.toInt := by rw [Int32.le_iff_toInt_le] at q5; omega
            refine x_iload C 1 dX10_alike_80 rfl ?_
            refine x_iload_n C 3 dX10_alike_82 rfl rfl ?_
            refine x_icmp_le C 91 dX10_alike_83 (by decide) (fun q6 => ?_) (fun q6 => ?_)
            · have rq6 : x5_20.toInt ≤ x3_5.toInt := by rw [Int32.le_iff_toInt_le] at q6; omega
              refine x_iload_n C 3 dX10_alike_91 rfl rfl ?_
              exact J92  x6_20 (by omega) (by omega) x5_20 x3_5 (by omega) (by omega) (by omega)
            · have rq6 : x5_20.toInt > x3_5.toInt := by rw [Int32.le_iff_toInt_le] at q6; omega
              refine x_iload C 1 dX10_alike_86 rfl ?_
              refine x_goto C 92 dX10_alike_88 (by decide) ?_
              exact J92  x6_20 (by omega) (by omega) x5_20 x5_20 (by omega) (by omega) (by omega)
          · have rq5 : x6_20.toInt < c4_17.toInt := by rw [Int32.le_iff_toInt_le] at q5; omega
            refine x_iload C 1 dX10_alike_29 rfl ?_
            refine x_iload_n C 5 dX10_alike_31 rfl rfl ?_
            refine x_iload C 2 dX10_alike_32 rfl ?_
            refine x_callSP C cl_X10_has kmX10_168 (As := [.int a1, .int x4_5]) (rest := [.int x5_20]) (tc_X10_has uu0 hTy0.1 a1 x4_5) rfl rfl (Nat.le_of_ble_eq_true rfl) ⟨Nat.le_of_ble_eq_true rfl, Nat.le_of_ble_eq_true rfl⟩ ⟨Nat.le_of_ble_eq_true rfl, Nat.le_of_ble_eq_true rfl⟩ dX10_alike_34 ?_
            rintro _ _ ⟨rfl, r7, rfl, gr7⟩
            refine x_norm (st2 := [.int r7, .int x5_20]) rfl rfl rfl rfl rfl ?_
            have l_0 : (0 : Int32).toInt = 0 := by decide
            refine x_if_eq C 70 dX10_alike_37 (by decide) (fun q9 => ?_) (fun q9 => ?_)
            · have rq9 : r7.toInt = (0 : Int32).toInt := by rw [i_eq_iff] at q9; omega
              exact J70  (by omega) (by omega) (by omega) (by omega)
            · have rq9 : ¬ r7.toInt = (0 : Int32).toInt := by rw [i_eq_iff] at q9; omega
              refine x_iload_n C 5 dX10_alike_40 rfl rfl ?_
              refine x_iload C 0 dX10_alike_41 rfl ?_
              refine x_callSP C cl_X10_has kmX10_168 (As := [.int a1, .int x6_20]) (rest := [.int x5_20]) (tc_X10_has uu0 hTy0.1 a1 x6_20) rfl rfl (Nat.le_of_ble_eq_true rfl) ⟨Nat.le_of_ble_eq_true rfl, Nat.le_of_ble_eq_true rfl⟩ ⟨Nat.le_of_ble_eq_true rfl, Nat.le_of_ble_eq_true rfl⟩ dX10_alike_43 ?_
              rintro _ _ ⟨rfl, r10, rfl, gr10⟩
              refine x_norm (st2 := [.int r10, .int x5_20]) rfl rfl rfl rfl rfl ?_
              refine x_if_eq C 70 dX10_alike_46 (by decide) (fun q12 => ?_) (fun q12 => ?_)
              · have rq12 : r10.toInt = (0 : Int32).toInt := by rw [i_eq_iff] at q12; omega
                exact J70  (by omega) (by omega) (by omega) (by omega)
              · have rq12 : ¬ r10.toInt = (0 : Int32).toInt := by rw [i_eq_iff] at q12; omega
                refine x_aload_n C 4 dX10_alike_49 rfl rfl ?_
                refine x_iload_n C 6 dX10_alike_50 rfl rfl ?_
                refine x_iload C 2 dX10_alike_51 rfl ?_
                refine x_callVP C cl_X10_stayOf kmX10_200 (ci := 9) (b := 134) (As := [.int a2, .int x4_5]) (rest := [.int x5_20]) rfl hc4 (tc_X10_stayOf uu0 hTy0.1 a2 x4_5 (by omega) (by omega) (by omega) (by omega)) rfl rfl (Nat.le_of_ble_eq_true rfl) ⟨Nat.le_of_ble_eq_true rfl, Nat.le_of_ble_eq_true rfl⟩ ⟨Nat.le_of_ble_eq_true rfl, Nat.le_of_ble_eq_true rfl⟩ dX10_alike_53 ?_
                rintro _ _ ⟨rfl, r13, rfl, gr13⟩
                refine x_norm (st2 := [.int r13, .int x5_20]) rfl rfl rfl rfl rfl ?_
                refine x_aload_n C 4 dX10_alike_56 rfl rfl ?_
                refine x_iload_n C 6 dX10_alike_57 rfl rfl ?_
                refine x_iload C 0 dX10_alike_58 rfl ?_
                refine x_callVP C cl_X10_stayOf kmX10_200 (ci := 9) (b := 134) (As := [.int a2, .int x6_20]) (rest := [.int r13, .int x5_20]) rfl hc4 (tc_X10_stayOf uu0 hTy0.1 a2 x6_20 (by omega) (by omega) (by omega) (by omega)) rfl rfl (Nat.le_of_ble_eq_true rfl) ⟨Nat.le_of_ble_eq_true rfl, Nat.le_of_ble_eq_true rfl⟩ ⟨Nat.le_of_ble_eq_true rfl, Nat.le_of_ble_eq_true rfl⟩ dX10_alike_60 ?_
                rintro _ _ ⟨rfl, r15, rfl, gr15⟩
                refine x_norm (st2 := [.int r15, .int r13, .int x5_20]) rfl rfl rfl rfl rfl ?_
                refine x_icmp_ne C 70 dX10_alike_63 (by decide) (fun q17 => ?_) (fun q17 => ?_)
                · have rq17 : ¬ r13.toInt = r15.toInt := by rw [i_eq_iff] at q17; omega
                  exact J70  (by omega) (by omega) (by omega) (by omega)
                · have rq17 : r13.toInt = r15.toInt := by rw [i_eq_iff] at q17; omega
                  refine x_iconst (v := (1 : Int32)) C dX10_alike_66 (by decide) ?_
                  refine x_goto C 71 dX10_alike_67 (by decide) ?_
                  have l_1 : (1 : Int32).toInt = 1 := by decide
                  exact J71  (1 : Int32) (by omega) (by omega) (by omega) (by omega) (by omega) (by omega)
      refine x_iload C 0 dX10_alike_5 rfl ?_
      refine x_aload_n C 2 dX10_alike_7 rfl rfl ?_
      obtain ⟨c18_0, c18_2, c18_3, c18_4, c18_5, c18_6, c18_7, c18_8, c18_9, c18_15, c18_16, c18_17, c18_18, c18_25, c18_26, c18_28, c18_30, c18_31, c18_32, c18_34, c18_37, hc18, qc18_0, qc18_1, qc18_2, qc18_3, qc18_4, qc18_5, qc18_6, qc18_7, qc18_8, qc18_9, qc18_10, qc18_11, qc18_12, qc18_13, qc18_14, qc18_15, qc18_16, qc18_17, qc18_18, qc18_19, qc18_20, qc18_21, qc18_22, qc18_23, qc18_24, qc18_25, qc18_26, qc18_27, qc18_28⟩ := tn_134 hTy0
      refine gfX10_153 C dX10_alike_8 hc18 rfl ?_
      refine x_icmp_ge C 99 dX10_alike_11 (by decide) (fun q19 => ?_) (fun q19 => ?_)
      · have rq19 : x4_5.toInt ≥ c18_17.toInt := by rw [Int32.le_iff_toInt_le] at q19; omega
        refine x_iload_n C 1 dX10_alike_99 rfl rfl ?_
        exact x_iretP C hr hlk (Nat.le_refl _) (Nat.le_refl _) dX10_alike_100 ⟨rfl, x3_5, rfl, trivial⟩
      · have rq19 : x4_5.toInt < c18_17.toInt := by rw [Int32.le_iff_toInt_le] at q19; omega
        refine x_iconst (v := (0 : Int32)) C dX10_alike_14 (by decide) ?_
        refine x_istore C [(5, .int (0 : Int32)), (4, .int x4_5), (3, .int x3_5), (0, .ref (z + 134)), (1, .int a1), (2, .int a2)] dX10_alike_15 (by decide) rfl ?_
        refine x_iconst (v := (0 : Int32)) C dX10_alike_17 (by decide) ?_
        refine x_istore C [(6, .int (0 : Int32)), (5, .int (0 : Int32)), (4, .int x4_5), (3, .int x3_5), (0, .ref (z + 134)), (1, .int a1), (2, .int a2)] dX10_alike_18 (by decide) rfl ?_
        have l_0 : (0 : Int32).toInt = 0 := by decide
        exact J20 (9 - (0 : Int32).toInt).toNat  (0 : Int32) (by omega) (by omega) (0 : Int32) (by omega) (by omega) rfl
  refine x_iconst (v := (0 : Int32)) C dX10_alike_0 (by decide) ?_
  refine x_istore_n C [(3, .int (0 : Int32)), (0, .ref (z + 134)), (1, .int a1), (2, .int a2)] dX10_alike_1 rfl (by decide) rfl ?_
  refine x_iconst (v := (0 : Int32)) C dX10_alike_2 (by decide) ?_
  refine x_istore C [(4, .int (0 : Int32)), (3, .int (0 : Int32)), (0, .ref (z + 134)), (1, .int a1), (2, .int a2)] dX10_alike_3 (by decide) rfl ?_
  have l_0 : (0 : Int32).toInt = 0 := by decide
  exact J5 (9 - (0 : Int32).toInt).toNat  (0 : Int32) (by omega) (by omega) (0 : Int32) (by omega) rfl
set_option maxRecDepth 20000 in
set_option maxHeartbeats 2000000 in
theorem tc_X10_ask {G : GT} {l : Launch} {z n : Nat} {g : Nat → Int} (uu0 : HpT) (hTz0 : TyN G z g uu0) : Mp G l z yX10_ask cX10_ask 6 (some .int) { frames := 3, cells := 0, slots := 0, locals := 71 } [.ref (z + 134)] uu0 n (fun r v => uu0 = v ∧ ∃ x : Int32, r = some (.int x) ∧ True) := by
  refine mp_of (by decide +kernel) (Nat.le_of_ble_eq_true rfl) ?_
  intro p e s m below meth c C hr hlk hnm
  have hTy0 : TN G z g uu0 uu0 := TN.rf hTz0
  have J15 : ∀ (d : Nat) (x4_15 : Int32) (hl_x4_15 : 0 ≤ x4_15.toInt) (hh_x4_15 : x4_15.toInt ≤ 6) (x3_15 : Int32) (x2_15 : Int32) (hl_x2_15 : -1 ≤ x2_15.toInt) (hh_x2_15 : x2_15.toInt ≤ 5) (x1_15 : Int32) (hd : d = (7 - x4_15.toInt).toNat), Xw p l e ({ frames := 3, cells := 0, slots := 0, locals := 71 } : Room) s m ([.ref (z + 134)] : List Value).toArray below meth c G z 6 (MQ below (Qp G z n (fun r v => uu0 = v ∧ ∃ x : Int32, r = some (.int x) ∧ True)) ([.ref (z + 134)] : List Value).toArray s 0 0 (zA z)) 15 [(4, .int x4_15), (3, .int x3_15), (2, .int x2_15), (1, .int x1_15), (0, .ref (z + 134))] [] uu0 n 0 0 := by
    intro d
    induction d using Nat.strongRecOn with
    | _ d ih15 =>
      intro  x4_15 hl_x4_15 hh_x4_15 x3_15 x2_15 hl_x2_15 hh_x2_15 x1_15 hd15
      have J58 : ∀ (x2_58 : Int32) (hl_x2_58 : -1 ≤ x2_58.toInt) (hh_x2_58 : x2_58.toInt ≤ 5) (x5_58 : Int32) (y0_58 : Int32) (nl_x4_15_58 : 0 ≤ x4_15.toInt) (nh_x4_15_58 : x4_15.toInt ≤ 5), Xw p l e ({ frames := 3, cells := 0, slots := 0, locals := 71 } : Room) s m ([.ref (z + 134)] : List Value).toArray below meth c G z 6 (MQ below (Qp G z n (fun r v => uu0 = v ∧ ∃ x : Int32, r = some (.int x) ∧ True)) ([.ref (z + 134)] : List Value).toArray s 0 0 (zA z)) 58 [(2, .int x2_58), (5, .int x5_58), (4, .int x4_15), (3, .int x3_15), (1, .int x1_15), (0, .ref (z + 134))] [.int y0_58] uu0 n 0 0 := by
        intro  x2_58 hl_x2_58 hh_x2_58 x5_58 y0_58 nl_x4_15_58 nh_x4_15_58
        refine x_istore_n C [(3, .int y0_58), (2, .int x2_58), (5, .int x5_58), (4, .int x4_15), (1, .int x1_15), (0, .ref (z + 134))] dX10_ask_58 rfl (by decide) rfl ?_
        have l_1 : (1 : Int32).toInt = 1 := by decide
        obtain ⟨w1, ew1⟩ : ∃ w : Int32, w = x4_15 + Int32.ofInt 1 := ⟨_, rfl⟩
        have fw1 : w1.toInt = x4_15.toInt + (1) := by rw [ew1]; exact i_addk (by decide) (by omega) (by omega)
        refine x_iinc (v := w1) C 3 [(4, .int w1), (3, .int y0_58), (2, .int x2_58), (5, .int x5_58), (1, .int x1_15), (0, .ref (z + 134))] dX10_ask_59 rfl ew1.symm (by decide) rfl ?_
        refine x_goto C 15 dX10_ask_62 (by decide) ?_
        refine x_mv (lo2 := [(4, .int w1), (3, .int y0_58), (2, .int x2_58), (1, .int x1_15), (0, .ref (z + 134))]) [0, 1, 2, 4, 5] rfl ?_
        exact ih15 (7 - w1.toInt).toNat (by omega)  w1 (by omega) (by omega) y0_58 x2_58 (by omega) (by omega) x1_15 rfl
      have J45 : ∀ (x5_45 : Int32) (y0_45 : Int32) (hl_y0_45 : -1 ≤ y0_45.toInt) (hh_y0_45 : y0_45.toInt ≤ 5) (nl_x4_15_45 : 0 ≤ x4_15.toInt) (nh_x4_15_45 : x4_15.toInt ≤ 5), Xw p l e ({ frames := 3, cells := 0, slots := 0, locals := 71 } : Room) s m ([.ref (z + 134)] : List Value).toArray below meth c G z 6 (MQ below (Qp G z n (fun r v => uu0 = v ∧ ∃ x : Int32, r = some (.int x) ∧ True)) ([.ref (z + 134)] : List Value).toArray s 0 0 (zA z)) 45 [(5, .int x5_45), (4, .int x4_15), (3, .int x3_15), (2, .int x2_15), (1, .int x1_15), (0, .ref (z + 134))] [.int y0_45] uu0 n 0 0 := by
        intro  x5_45 y0_45 hl_y0_45 hh_y0_45 nl_x4_15_45 nh_x4_15_45
        refine x_istore_n C [(2, .int y0_45), (5, .int x5_45), (4, .int x4_15), (3, .int x3_15), (1, .int x1_15), (0, .ref (z + 134))] dX10_ask_45 rfl (by decide) rfl ?_
        refine x_iload C 1 dX10_ask_46 rfl ?_
        refine x_iload_n C 3 dX10_ask_48 rfl rfl ?_
        refine x_icmp_ge C 57 dX10_ask_49 (by decide) (fun q2 => ?_) (fun q2 => ?_)
        · have rq2 : x5_45.toInt ≥ x3_15.toInt := by rw [Int32.le_iff_toInt_le] at q2; omega
          refine x_iload_n C 3 dX10_ask_57 rfl rfl ?_
          exact J58  y0_45 (by omega) (by omega) x5_45 x3_15 (by omega) (by omega)
        · have rq2 : x5_45.toInt < x3_15.toInt := by rw [Int32.le_iff_toInt_le] at q2; omega
          refine x_iload C 1 dX10_ask_52 rfl ?_
          refine x_goto C 58 dX10_ask_54 (by decide) ?_
          exact J58  y0_45 (by omega) (by omega) x5_45 x5_45 (by omega) (by omega)
      refine x_iload C 0 dX10_ask_15 rfl ?_
      refine x_aload_n C 4 dX10_ask_17 rfl rfl ?_
      obtain ⟨c3_0, c3_2, c3_3, c3_4, c3_5, c3_6, c3_7, c3_8, c3_9, c3_15, c3_16, c3_17, c3_18, c3_25, c3_26, c3_28, c3_30, c3_31, c3_32, c3_34, c3_37, hc3, qc3_0, qc3_1, qc3_2, qc3_3, qc3_4, qc3_5, qc3_6, qc3_7, qc3_8, qc3_9, qc3_10, qc3_11, qc3_12, qc3_13, qc3_14, qc3_15, qc3_16, qc3_17, qc3_18, qc3_19, qc3_20, qc3_21, qc3_22, qc3_23, qc3_24, qc3_25, qc3_26, qc3_27, qc3_28⟩ := tn_134 hTy0
      refine gfX10_156 C dX10_ask_18 hc3 rfl ?_
      refine x_icmp_ge C 65 dX10_ask_21 (by decide) (fun q4 => ?_) (fun q4 => ?_)
      · have rq4 : x4_15.toInt ≥ c3_18.toInt := by rw [Int32.le_iff_toInt_le] at q4; omega
        refine x_iload_n C 2 dX10_ask_65 rfl rfl ?_
        exact x_iretP C hr hlk (Nat.le_refl _) (Nat.le_refl _) dX10_ask_66 ⟨rfl, x2_15, rfl, trivial⟩
      · have rq4 : x4_15.toInt < c3_18.toInt := by rw [Int32.le_iff_toInt_le] at q4; omega
        refine x_aload_n C 4 dX10_ask_24 rfl rfl ?_
        refine x_iload_n C 3 dX10_ask_25 rfl rfl ?_
        refine x_iload C 0 dX10_ask_26 rfl ?_
        refine x_callVP C cl_X10_alike kmX10_293 (ci := 9) (b := 134) (As := [.int x1_15, .int x4_15]) (rest := []) rfl hc3 (tc_X10_alike uu0 hTy0.1 x1_15 x4_15 (by omega) (by omega)) rfl rfl (Nat.le_of_ble_eq_true rfl) ⟨Nat.le_of_ble_eq_true rfl, Nat.le_of_ble_eq_true rfl⟩ ⟨Nat.le_of_ble_eq_true rfl, Nat.le_of_ble_eq_true rfl⟩ dX10_ask_28 ?_
        rintro _ _ ⟨rfl, r5, rfl, gr5⟩
        refine x_norm (st2 := [.int r5]) rfl rfl rfl rfl rfl ?_
        refine x_istore C [(5, .int r5), (4, .int x4_15), (3, .int x3_15), (2, .int x2_15), (1, .int x1_15), (0, .ref (z + 134))] dX10_ask_31 (by decide) rfl ?_
        refine x_iload C 0 dX10_ask_33 rfl ?_
        refine x_iload_n C 2 dX10_ask_35 rfl rfl ?_
        refine x_icmp_ge C 44 dX10_ask_36 (by decide) (fun q7 => ?_) (fun q7 => ?_)
        · have rq7 : r5.toInt ≥ x3_15.toInt := by rw [Int32.le_iff_toInt_le] at q7; omega
          refine x_iload_n C 3 dX10_ask_44 rfl rfl ?_
          exact J45  r5 x2_15 (by omega) (by omega) (by omega) (by omega)
        · have rq7 : r5.toInt < x3_15.toInt := by rw [Int32.le_iff_toInt_le] at q7; omega
          refine x_iload C 1 dX10_ask_39 rfl ?_
          refine x_goto C 45 dX10_ask_41 (by decide) ?_
          exact J45  r5 x4_15 (by omega) (by omega) (by omega) (by omega)
  refine x_aload_n C 0 dX10_ask_0 rfl rfl ?_
  obtain ⟨c9_0, c9_2, c9_3, c9_4, c9_5, c9_6, c9_7, c9_8, c9_9, c9_15, c9_16, c9_17, c9_18, c9_25, c9_26, c9_28, c9_30, c9_31, c9_32, c9_34, c9_37, hc9, qc9_0, qc9_1, qc9_2, qc9_3, qc9_4, qc9_5, qc9_6, qc9_7, qc9_8, qc9_9, qc9_10, qc9_11, qc9_12, qc9_13, qc9_14, qc9_15, qc9_16, qc9_17, qc9_18, qc9_19, qc9_20, qc9_21, qc9_22, qc9_23, qc9_24, qc9_25, qc9_26, qc9_27, qc9_28⟩ := tn_134 hTy0
  refine x_callVP C cl_X10_couldBe kmX10_290 (ci := 9) (b := 134) (As := []) (rest := []) rfl hc9 (tc_X10_couldBe uu0 hTy0.1) rfl rfl (Nat.le_of_ble_eq_true rfl) ⟨Nat.le_of_ble_eq_true rfl, Nat.le_of_ble_eq_true rfl⟩ ⟨Nat.le_of_ble_eq_true rfl, Nat.le_of_ble_eq_true rfl⟩ dX10_ask_1 ?_
  rintro _ _ ⟨rfl, r8, rfl, gr8⟩
  refine x_norm (st2 := [.int r8]) rfl rfl rfl rfl rfl ?_
  refine x_istore_n C [(1, .int r8), (0, .ref (z + 134))] dX10_ask_4 rfl (by decide) rfl ?_
  refine x_iconst (v := (-1 : Int32)) C dX10_ask_5 (by decide) ?_
  refine x_istore_n C [(2, .int (-1 : Int32)), (1, .int r8), (0, .ref (z + 134))] dX10_ask_6 rfl (by decide) rfl ?_
  refine x_iload_n C 1 dX10_ask_7 rfl rfl ?_
  refine x_callSP C cl_X10_bits kmX10_172 (As := [.int r8]) (rest := []) (tc_X10_bits uu0 hTy0.1 r8) rfl rfl (Nat.le_of_ble_eq_true rfl) ⟨Nat.le_of_ble_eq_true rfl, Nat.le_of_ble_eq_true rfl⟩ ⟨Nat.le_of_ble_eq_true rfl, Nat.le_of_ble_eq_true rfl⟩ dX10_ask_8 ?_
  rintro _ _ ⟨rfl, r11, rfl, gr11⟩
  refine x_norm (st2 := [.int r11]) rfl rfl rfl rfl rfl ?_
  refine x_istore_n C [(3, .int r11), (2, .int (-1 : Int32)), (1, .int r8), (0, .ref (z + 134))] dX10_ask_11 rfl (by decide) rfl ?_
  refine x_iconst (v := (0 : Int32)) C dX10_ask_12 (by decide) ?_
  refine x_istore C [(4, .int (0 : Int32)), (3, .int r11), (2, .int (-1 : Int32)), (1, .int r8), (0, .ref (z + 134))] dX10_ask_13 (by decide) rfl ?_
  have l_0 : (0 : Int32).toInt = 0 := by decide
  have l_m1 : (-1 : Int32).toInt = -1 := by decide
  exact J15 (7 - (0 : Int32).toInt).toNat  (0 : Int32) (by omega) (by omega) r11 (-1 : Int32) (by omega) (by omega) r8 rfl
set_option maxRecDepth 20000 in
set_option maxHeartbeats 2000000 in
theorem tc_X10_write {G : GT} {l : Launch} {z n : Nat} {g : Nat → Int} (uu0 : HpT) (hTz0 : TyN G z g uu0) (a1 : Int32) (a2 : Int32) : Mp G l z yX10_write cX10_write 3 (some .int) { frames := 2, cells := 0, slots := 0, locals := 43 } [.ref (z + 134), .int a1, .int a2] uu0 n (fun r v => TN G z g uu0 v ∧ ∃ x : Int32, r = some (.int x) ∧ True) := by
  refine mp_of (by decide +kernel) (Nat.le_of_ble_eq_true rfl) ?_
  intro p e s m below meth c C hr hlk hnm
  have hTy0 : TN G z g uu0 uu0 := TN.rf hTz0
  refine x_aload_n C 0 dX10_write_0 rfl rfl ?_
  refine x_iload_n C 1 dX10_write_1 rfl rfl ?_
  obtain ⟨c2_0, c2_2, c2_3, c2_4, c2_5, c2_6, c2_7, c2_8, c2_9, c2_15, c2_16, c2_17, c2_18, c2_25, c2_26, c2_28, c2_30, c2_31, c2_32, c2_34, c2_37, hc2, qc2_0, qc2_1, qc2_2, qc2_3, qc2_4, qc2_5, qc2_6, qc2_7, qc2_8, qc2_9, qc2_10, qc2_11, qc2_12, qc2_13, qc2_14, qc2_15, qc2_16, qc2_17, qc2_18, qc2_19, qc2_20, qc2_21, qc2_22, qc2_23, qc2_24, qc2_25, qc2_26, qc2_27, qc2_28⟩ := tn_134 hTy0
  refine x_callVP C cl_X10_isTraveller kmX10_203 (ci := 9) (b := 134) (As := [.int a1]) (rest := []) rfl hc2 (tc_X10_isTraveller uu0 hTy0.1 a1) rfl rfl (Nat.le_of_ble_eq_true rfl) ⟨Nat.le_of_ble_eq_true rfl, Nat.le_of_ble_eq_true rfl⟩ ⟨Nat.le_of_ble_eq_true rfl, Nat.le_of_ble_eq_true rfl⟩ dX10_write_2 ?_
  rintro _ _ ⟨rfl, r1, rfl, gr1⟩
  refine x_norm (st2 := [.int r1]) rfl rfl rfl rfl rfl ?_
  have l_0 : (0 : Int32).toInt = 0 := by decide
  refine x_if_ne C 11 dX10_write_5 (by decide) (fun q4 => ?_) (fun q4 => ?_)
  · have rq4 : ¬ r1.toInt = (0 : Int32).toInt := by rw [i_eq_iff] at q4; omega
    refine x_iload_n C 2 dX10_write_11 rfl rfl ?_
    refine x_iconst (v := (0 : Int32)) C dX10_write_12 (by decide) ?_
    refine x_sipush (v := (9999 : Int32)) C dX10_write_13 (by decide) ?_
    have l_9999 : (9999 : Int32).toInt = 9999 := by decide
    refine x_callSP C cl_X10_in kmX10_82 (As := [.int a2, .int (0 : Int32), .int (9999 : Int32)]) (rest := []) (tc_X10_in uu0 hTy0.1 a2 (0 : Int32) (9999 : Int32)) rfl rfl (Nat.le_of_ble_eq_true rfl) ⟨Nat.le_of_ble_eq_true rfl, Nat.le_of_ble_eq_true rfl⟩ ⟨Nat.le_of_ble_eq_true rfl, Nat.le_of_ble_eq_true rfl⟩ dX10_write_16 ?_
    rintro _ _ ⟨rfl, r5, rfl, gr5⟩
    refine x_norm (st2 := [.int r5]) rfl rfl rfl rfl rfl ?_
    refine x_if_ne C 25 dX10_write_19 (by decide) (fun q7 => ?_) (fun q7 => ?_)
    · have rq7 : ¬ r5.toInt = (0 : Int32).toInt := by rw [i_eq_iff] at q7; omega
      refine x_aload_n C 0 dX10_write_25 rfl rfl ?_
      refine gfX10_165 C dX10_write_26 hc2 rfl ?_
      refine x_bipush (v := (20 : Int32)) C dX10_write_29 (by decide) ?_
      have l_20 : (20 : Int32).toInt = 20 := by decide
      refine x_icmp_ne C 37 dX10_write_31 (by decide) (fun q8 => ?_) (fun q8 => ?_)
      · have rq8 : ¬ c2_37.toInt = (20 : Int32).toInt := by rw [i_eq_iff] at q8; omega
        refine x_aload_n C 0 dX10_write_37 rfl rfl ?_
        refine gfX10_65 C dX10_write_38 hc2 rfl ?_
        refine x_aload_n C 0 dX10_write_41 rfl rfl ?_
        refine gfX10_165 C dX10_write_42 hc2 rfl ?_
        refine x_iload_n C 1 dX10_write_45 rfl rfl ?_
        obtain ⟨f9, hf9, qf9_0⟩ := tn_152 hTy0
        have qf10_0 : ∀ j : Nat, j < 20 → (fun (i x : Int) => 0 ≤ x ∧ x ≤ 5) j ((upd f9 c2_37.toNatClampNeg a1) j).toInt := ap_upd (P := fun (i x : Int) => 0 ≤ x ∧ x ≤ 5) qf9_0 (by omega) (show 0 ≤ a1.toInt ∧ a1.toInt ≤ 5 from by omega)
        refine x_iast C hf9 (i_in (by omega) (by omega)) dX10_write_46 ?_
        obtain ⟨u11, eu11⟩ : ∃ w : HpT, w = hup uu0 152 (aI G 20 (upd f9 c2_37.toNatClampNeg a1)) := ⟨_, rfl⟩
        refine x_heap (u2 := u11) eu11.symm ?_
        have hTu11 : TN G z g uu0 u11 := by rw [eu11]; exact hTy0.up_152 qf10_0
        have hn13 := (congrFun eu11 152).trans (hup_s _ _ _)
        generalize (upd f9 c2_37.toNatClampNeg a1) = f10 at *
        refine x_aload_n C 0 dX10_write_47 rfl rfl ?_
        have k14 := (congrFun eu11 134).trans (hup_n' (by omega) hc2)
        refine gfX10_68 C dX10_write_48 k14 rfl ?_
        refine x_aload_n C 0 dX10_write_51 rfl rfl ?_
        refine gfX10_165 C dX10_write_52 k14 rfl ?_
        refine x_iload_n C 2 dX10_write_55 rfl rfl ?_
        obtain ⟨f15, hf15⟩ := tn_153 hTu11
        refine x_iast C hf15 (i_in (by omega) (by omega)) dX10_write_56 ?_
        obtain ⟨u17, eu17⟩ : ∃ w : HpT, w = hup u11 153 (aI G 20 (upd f15 c2_37.toNatClampNeg a2)) := ⟨_, rfl⟩
        refine x_heap (u2 := u17) eu17.symm ?_
        have hTu17 : TN G z g uu0 u17 := by rw [eu17]; exact hTu11.up_153
        have hn20 := (congrFun eu17 153).trans (hup_s _ _ _)
        generalize (upd f15 c2_37.toNatClampNeg a2) = f16 at *
        refine x_aload_n C 0 dX10_write_57 rfl rfl ?_
        refine x_dup C dX10_write_58 rfl ?_
        have k21 := (congrFun eu17 134).trans (hup_n' (by omega) k14)
        refine gfX10_165 C dX10_write_59 k21 rfl ?_
        refine x_iconst (v := (1 : Int32)) C dX10_write_62 (by decide) ?_
        refine x_iadd C dX10_write_63 ?_
        have l_1 : (1 : Int32).toInt = 1 := by decide
        refine x_top (fun w22 ew22 => ?_)
        have fw22_0 : w22.toInt = c2_37.toInt + (1 : Int32).toInt := by rw [ew22]; exact i_add (by omega) (by omega)
        obtain ⟨u23, eu23⟩ : ∃ w : HpT, w = hup u17 134 (.inr (9, [.int c2_0, .ref (z + 135), .int c2_2, .int c2_3, .int c2_4, .int c2_5, .int c2_6, .int c2_7, .int c2_8, .int c2_9, .ref (z + 136), .ref (z + 137), .ref (z + 138), .ref (z + 139), .ref (z + 140), .int c2_15, .int c2_16, .int c2_17, .int c2_18, .ref (z + 141), .ref (z + 142), .ref (z + 143), .ref (z + 144), .ref (z + 145), .ref (z + 146), .int c2_25, .int c2_26, .ref (z + 147), .long c2_28, .ref (z + 148), .int c2_30, .int c2_31, .int c2_32, .ref (z + 149), .int c2_34, .ref (z + 150), .ref (z + 151), .int w22, .ref (z + 152), .ref (z + 153), .ref (z + 154), .ref (z + 155), .ref (z + 156)])) := ⟨_, rfl⟩
        refine pfX10_165 C dX10_write_64 k21 (Nat.le_of_ble_eq_true rfl) rfl eu23.symm ?_
        have hTu23 : TN G z g uu0 u23 := by rw [eu23]; exact hTu17.up_134 (by omega)
        have hn26 := (congrFun eu23 134).trans (hup_s _ _ _)
        refine x_aload_n C 0 dX10_write_67 rfl rfl ?_
        refine gfX10_165 C dX10_write_68 hn26 rfl ?_
        exact x_iretP C hr hlk (Nat.le_refl _) (Nat.le_refl _) dX10_write_71 ⟨hTu23, w22, rfl, trivial⟩
      · have rq8 : c2_37.toInt = (20 : Int32).toInt := by rw [i_eq_iff] at q8; omega
        refine x_ldc C kcX10_90 dX10_write_34 ?_
        have l_m1000000004 : (-1000000004 : Int32).toInt = -1000000004 := by decide
        exact x_iretP C hr hlk (Nat.le_refl _) (Nat.le_refl _) dX10_write_36 ⟨hTy0, (-1000000004 : Int32), rfl, trivial⟩
    · have rq7 : r5.toInt = (0 : Int32).toInt := by rw [i_eq_iff] at q7; omega
      refine x_ldc C kcX10_86 dX10_write_22 ?_
      have l_m1000000002 : (-1000000002 : Int32).toInt = -1000000002 := by decide
      exact x_iretP C hr hlk (Nat.le_refl _) (Nat.le_refl _) dX10_write_24 ⟨hTy0, (-1000000002 : Int32), rfl, trivial⟩
  · have rq4 : r1.toInt = (0 : Int32).toInt := by rw [i_eq_iff] at q4; omega
    refine x_ldc C kcX10_193 dX10_write_8 ?_
    have l_m1000000001 : (-1000000001 : Int32).toInt = -1000000001 := by decide
    exact x_iretP C hr hlk (Nat.le_refl _) (Nat.le_refl _) dX10_write_10 ⟨hTy0, (-1000000001 : Int32), rfl, trivial⟩
set_option maxRecDepth 20000 in
set_option maxHeartbeats 2000000 in
theorem tc_X10_judge {G : GT} {l : Launch} {z n : Nat} {g : Nat → Int} (uu0 : HpT) (hTz0 : TyN G z g uu0) : Mp G l z yX10_judge cX10_judge 2 (some .int) { frames := 0, cells := 0, slots := 0, locals := 0 } [.ref (z + 134)] uu0 n (fun r v => uu0 = v ∧ ∃ x : Int32, r = some (.int x) ∧ True) := by
  refine mp_of (by decide +kernel) (Nat.le_of_ble_eq_true rfl) ?_
  intro p e s m below meth c C hr hlk hnm
  have hTy0 : TN G z g uu0 uu0 := TN.rf hTz0
  have J2 : ∀ (d : Nat) (x1_2 : Int32) (hl_x1_2 : 0 ≤ x1_2.toInt) (hh_x1_2 : x1_2.toInt ≤ 20) (hd : d = (21 - x1_2.toInt).toNat), Xw p l e ({ frames := 0, cells := 0, slots := 0, locals := 0 } : Room) s m ([.ref (z + 134)] : List Value).toArray below meth c G z 2 (MQ below (Qp G z n (fun r v => uu0 = v ∧ ∃ x : Int32, r = some (.int x) ∧ True)) ([.ref (z + 134)] : List Value).toArray s 0 0 (zA z)) 2 [(1, .int x1_2), (0, .ref (z + 134))] [] uu0 n 0 0 := by
    intro d
    induction d using Nat.strongRecOn with
    | _ d ih2 =>
      intro  x1_2 hl_x1_2 hh_x1_2 hd2
      refine x_iload_n C 0 dX10_judge_2 rfl rfl ?_
      refine x_aload_n C 1 dX10_judge_3 rfl rfl ?_
      obtain ⟨c1_0, c1_2, c1_3, c1_4, c1_5, c1_6, c1_7, c1_8, c1_9, c1_15, c1_16, c1_17, c1_18, c1_25, c1_26, c1_28, c1_30, c1_31, c1_32, c1_34, c1_37, hc1, qc1_0, qc1_1, qc1_2, qc1_3, qc1_4, qc1_5, qc1_6, qc1_7, qc1_8, qc1_9, qc1_10, qc1_11, qc1_12, qc1_13, qc1_14, qc1_15, qc1_16, qc1_17, qc1_18, qc1_19, qc1_20, qc1_21, qc1_22, qc1_23, qc1_24, qc1_25, qc1_26, qc1_27, qc1_28⟩ := tn_134 hTy0
      refine gfX10_165 C dX10_judge_4 hc1 rfl ?_
      refine x_icmp_ge C 41 dX10_judge_7 (by decide) (fun q2 => ?_) (fun q2 => ?_)
      · have rq2 : x1_2.toInt ≥ c1_37.toInt := by rw [Int32.le_iff_toInt_le] at q2; omega
        refine x_iconst (v := (-1 : Int32)) C dX10_judge_41 (by decide) ?_
        have l_m1 : (-1 : Int32).toInt = -1 := by decide
        exact x_iretP C hr hlk (Nat.le_refl _) (Nat.le_refl _) dX10_judge_42 ⟨rfl, (-1 : Int32), rfl, trivial⟩
      · have rq2 : x1_2.toInt < c1_37.toInt := by rw [Int32.le_iff_toInt_le] at q2; omega
        refine x_aload_n C 1 dX10_judge_10 rfl rfl ?_
        refine gfX10_47 C dX10_judge_11 hc1 rfl ?_
        refine x_bipush (v := (13 : Int32)) C dX10_judge_14 (by decide) ?_
        refine x_aload_n C 1 dX10_judge_16 rfl rfl ?_
        refine gfX10_65 C dX10_judge_17 hc1 rfl ?_
        refine x_iload_n C 0 dX10_judge_20 rfl rfl ?_
        obtain ⟨f3, hf3, qf3_0⟩ := tn_152 hTy0
        refine x_iald C hf3 (i_in (by omega) (by omega)) dX10_judge_21 ?_
        refine x_top (fun w4 ew4 => ?_)
        have fw4_0 : 0 ≤ w4.toInt ∧ w4.toInt ≤ 5 := by rw [ew4]; exact ap_get (P := fun (i x : Int) => 0 ≤ x ∧ x ≤ 5) qf3_0 (by omega) (by omega)
        refine x_iadd C dX10_judge_22 ?_
        have l_13 : (13 : Int32).toInt = 13 := by decide
        refine x_top (fun w5 ew5 => ?_)
        have fw5_0 : w5.toInt = (13 : Int32).toInt + w4.toInt := by rw [ew5]; exact i_add (by omega) (by omega)
        obtain ⟨f6, hf6, qf6_0⟩ := tn_146 hTy0
        refine x_iald C hf6 (i_in (by omega) (by omega)) dX10_judge_23 ?_
        refine x_top (fun w7 ew7 => ?_)
        have fw7_0 : (w5.toInt = 4 → -1 ≤ w7.toInt ∧ w7.toInt ≤ 6 * g 0 - 1) ∧ (w5.toInt = 6 → -1 ≤ w7.toInt ∧ w7.toInt ≤ 7) := by rw [ew7]; exact ap_get (P := fun (i x : Int) => (i = 4 → -1 ≤ x ∧ x ≤ 6 * g 0 - 1) ∧ (i = 6 → -1 ≤ x ∧ x ≤ 7)) qf6_0 (by omega) (by omega)
        refine x_aload_n C 1 dX10_judge_24 rfl rfl ?_
        refine gfX10_68 C dX10_judge_25 hc1 rfl ?_
        refine x_iload_n C 0 dX10_judge_28 rfl rfl ?_
        obtain ⟨f8, hf8⟩ := tn_153 hTy0
        refine x_iald C hf8 (i_in (by omega) (by omega)) dX10_judge_29 ?_
        refine x_top (fun w9 ew9 => ?_)
        refine x_icmp_eq C 35 dX10_judge_30 (by decide) (fun q10 => ?_) (fun q10 => ?_)
        · have rq10 : w7.toInt = w9.toInt := by rw [i_eq_iff] at q10; omega
          have l_1 : (1 : Int32).toInt = 1 := by decide
          obtain ⟨w11, ew11⟩ : ∃ w : Int32, w = x1_2 + Int32.ofInt 1 := ⟨_, rfl⟩
          have fw11 : w11.toInt = x1_2.toInt + (1) := by rw [ew11]; exact i_addk (by decide) (by omega) (by omega)
          refine x_iinc (v := w11) C 0 [(1, .int w11), (0, .ref (z + 134))] dX10_judge_35 rfl ew11.symm (by decide) rfl ?_
          refine x_goto C 2 dX10_judge_38 (by decide) ?_
          exact ih2 (21 - w11.toInt).toNat (by omega)  w11 (by omega) (by omega) rfl
        · have rq10 : ¬ w7.toInt = w9.toInt := by rw [i_eq_iff] at q10; omega
          refine x_iload_n C 0 dX10_judge_33 rfl rfl ?_
          exact x_iretP C hr hlk (Nat.le_refl _) (Nat.le_refl _) dX10_judge_34 ⟨rfl, x1_2, rfl, trivial⟩
  refine x_iconst (v := (0 : Int32)) C dX10_judge_0 (by decide) ?_
  refine x_istore_n C [(1, .int (0 : Int32)), (0, .ref (z + 134))] dX10_judge_1 rfl (by decide) rfl ?_
  have l_0 : (0 : Int32).toInt = 0 := by decide
  exact J2 (21 - (0 : Int32).toInt).toNat  (0 : Int32) (by omega) (by omega) rfl
set_option maxRecDepth 20000 in
set_option maxHeartbeats 2000000 in
theorem tc_X10_tear {G : GT} {l : Launch} {z n : Nat} {g : Nat → Int} (uu0 : HpT) (hTz0 : TyN G z g uu0) : Mp G l z yX10_tear cX10_tear 2 (some .int) { frames := 0, cells := 0, slots := 0, locals := 0 } [.ref (z + 134)] uu0 n (fun r v => TN G z g uu0 v ∧ ∃ x : Int32, r = some (.int x) ∧ True) := by
  refine mp_of (by decide +kernel) (Nat.le_of_ble_eq_true rfl) ?_
  intro p e s m below meth c C hr hlk hnm
  have hTy0 : TN G z g uu0 uu0 := TN.rf hTz0
  refine x_aload_n C 0 dX10_tear_0 rfl rfl ?_
  obtain ⟨c1_0, c1_2, c1_3, c1_4, c1_5, c1_6, c1_7, c1_8, c1_9, c1_15, c1_16, c1_17, c1_18, c1_25, c1_26, c1_28, c1_30, c1_31, c1_32, c1_34, c1_37, hc1, qc1_0, qc1_1, qc1_2, qc1_3, qc1_4, qc1_5, qc1_6, qc1_7, qc1_8, qc1_9, qc1_10, qc1_11, qc1_12, qc1_13, qc1_14, qc1_15, qc1_16, qc1_17, qc1_18, qc1_19, qc1_20, qc1_21, qc1_22, qc1_23, qc1_24, qc1_25, qc1_26, qc1_27, qc1_28⟩ := tn_134 hTy0
  refine gfX10_162 C dX10_tear_1 hc1 rfl ?_
  refine x_aload_n C 0 dX10_tear_4 rfl rfl ?_
  refine gfX10_165 C dX10_tear_5 hc1 rfl ?_
  refine x_iadd C dX10_tear_8 ?_
  refine x_top (fun w2 ew2 => ?_)
  have fw2_0 : w2.toInt = c1_34.toInt + c1_37.toInt := by rw [ew2]; exact i_add (by omega) (by omega)
  refine x_istore_n C [(1, .int w2), (0, .ref (z + 134))] dX10_tear_9 rfl (by decide) rfl ?_
  refine x_aload_n C 1 dX10_tear_10 rfl rfl ?_
  refine x_iconst (v := (0 : Int32)) C dX10_tear_11 (by decide) ?_
  have l_0 : (0 : Int32).toInt = 0 := by decide
  obtain ⟨u3, eu3⟩ : ∃ w : HpT, w = hup uu0 134 (.inr (9, [.int c1_0, .ref (z + 135), .int c1_2, .int c1_3, .int c1_4, .int c1_5, .int c1_6, .int c1_7, .int c1_8, .int c1_9, .ref (z + 136), .ref (z + 137), .ref (z + 138), .ref (z + 139), .ref (z + 140), .int c1_15, .int c1_16, .int c1_17, .int c1_18, .ref (z + 141), .ref (z + 142), .ref (z + 143), .ref (z + 144), .ref (z + 145), .ref (z + 146), .int c1_25, .int c1_26, .ref (z + 147), .long c1_28, .ref (z + 148), .int c1_30, .int c1_31, .int c1_32, .ref (z + 149), .int (0 : Int32), .ref (z + 150), .ref (z + 151), .int c1_37, .ref (z + 152), .ref (z + 153), .ref (z + 154), .ref (z + 155), .ref (z + 156)])) := ⟨_, rfl⟩
  refine pfX10_162 C dX10_tear_12 hc1 (Nat.le_of_ble_eq_true rfl) rfl eu3.symm ?_
  have hTu3 : TN G z g uu0 u3 := by rw [eu3]; exact hTy0.up_134 (by omega)
  have hn4 := (congrFun eu3 134).trans (hup_s _ _ _)
  refine x_aload_n C 1 dX10_tear_15 rfl rfl ?_
  refine x_iconst (v := (0 : Int32)) C dX10_tear_16 (by decide) ?_
  obtain ⟨u5, eu5⟩ : ∃ w : HpT, w = hup u3 134 (.inr (9, [.int c1_0, .ref (z + 135), .int c1_2, .int c1_3, .int c1_4, .int c1_5, .int c1_6, .int c1_7, .int c1_8, .int c1_9, .ref (z + 136), .ref (z + 137), .ref (z + 138), .ref (z + 139), .ref (z + 140), .int c1_15, .int c1_16, .int c1_17, .int c1_18, .ref (z + 141), .ref (z + 142), .ref (z + 143), .ref (z + 144), .ref (z + 145), .ref (z + 146), .int c1_25, .int c1_26, .ref (z + 147), .long c1_28, .ref (z + 148), .int c1_30, .int c1_31, .int c1_32, .ref (z + 149), .int (0 : Int32), .ref (z + 150), .ref (z + 151), .int (0 : Int32), .ref (z + 152), .ref (z + 153), .ref (z + 154), .ref (z + 155), .ref (z + 156)])) := ⟨_, rfl⟩
  refine pfX10_165 C dX10_tear_17 hn4 (Nat.le_of_ble_eq_true rfl) rfl eu5.symm ?_
  have hTu5 : TN G z g uu0 u5 := by rw [eu5]; exact hTu3.up_134 (by omega)
  have hn6 := (congrFun eu5 134).trans (hup_s _ _ _)
  refine x_iload_n C 0 dX10_tear_20 rfl rfl ?_
  exact x_iretP C hr hlk (Nat.le_refl _) (Nat.le_refl _) dX10_tear_21 ⟨hTu5, w2, rfl, trivial⟩
set_option maxRecDepth 20000 in
set_option maxHeartbeats 2000000 in
theorem tc_X10_seed {G : GT} {l : Launch} {z n : Nat} {g : Nat → Int} (uu0 : HpT) (hTz0 : TyN G z g uu0) (a1 : Int32) : Mp G l z yX10_seed cX10_seed 3 (some .int) { frames := 0, cells := 0, slots := 0, locals := 0 } [.ref (z + 134), .int a1] uu0 n (fun r v => TN G z g uu0 v ∧ ∃ x : Int32, r = some (.int x) ∧ True) := by
  refine mp_of (by decide +kernel) (Nat.le_of_ble_eq_true rfl) ?_
  intro p e s m below meth c C hr hlk hnm
  have hTy0 : TN G z g uu0 uu0 := TN.rf hTz0
  refine x_iload_n C 1 dX10_seed_0 rfl rfl ?_
  have l_0 : (0 : Int32).toInt = 0 := by decide
  refine x_if_ge C 7 dX10_seed_1 (by decide) (fun q1 => ?_) (fun q1 => ?_)
  · have rq1 : a1.toInt ≥ (0 : Int32).toInt := by rw [Int32.le_iff_toInt_le] at q1; omega
    refine x_aload_n C 0 dX10_seed_7 rfl rfl ?_
    obtain ⟨c2_0, c2_2, c2_3, c2_4, c2_5, c2_6, c2_7, c2_8, c2_9, c2_15, c2_16, c2_17, c2_18, c2_25, c2_26, c2_28, c2_30, c2_31, c2_32, c2_34, c2_37, hc2, qc2_0, qc2_1, qc2_2, qc2_3, qc2_4, qc2_5, qc2_6, qc2_7, qc2_8, qc2_9, qc2_10, qc2_11, qc2_12, qc2_13, qc2_14, qc2_15, qc2_16, qc2_17, qc2_18, qc2_19, qc2_20, qc2_21, qc2_22, qc2_23, qc2_24, qc2_25, qc2_26, qc2_27, qc2_28⟩ := tn_134 hTy0
    refine gfX10_243 C dX10_seed_8 hc2 rfl ?_
    refine x_l2i C dX10_seed_11 ?_
    refine x_top (fun w3 ew3 => ?_)
    refine x_istore_n C [(2, .int w3), (0, .ref (z + 134)), (1, .int a1)] dX10_seed_12 rfl (by decide) rfl ?_
    refine x_aload_n C 1 dX10_seed_13 rfl rfl ?_
    refine x_iload_n C 2 dX10_seed_14 rfl rfl ?_
    refine x_i2l C dX10_seed_15 ?_
    refine x_topl (fun g4 eg4 => ?_)
    have zl_a1 : -2147483648 ≤ a1.toInt := Int32.le_toInt a1
    have zh_a1 : a1.toInt ≤ 2147483647 := Int32.toInt_le a1
    have fg4_0 : g4.toInt = a1.toInt := by rw [eg4]; exact Int32.toInt_toInt64 _
    obtain ⟨u5, eu5⟩ : ∃ w : HpT, w = hup uu0 134 (.inr (9, [.int c2_0, .ref (z + 135), .int c2_2, .int c2_3, .int c2_4, .int c2_5, .int c2_6, .int c2_7, .int c2_8, .int c2_9, .ref (z + 136), .ref (z + 137), .ref (z + 138), .ref (z + 139), .ref (z + 140), .int c2_15, .int c2_16, .int c2_17, .int c2_18, .ref (z + 141), .ref (z + 142), .ref (z + 143), .ref (z + 144), .ref (z + 145), .ref (z + 146), .int c2_25, .int c2_26, .ref (z + 147), .long g4, .ref (z + 148), .int c2_30, .int c2_31, .int c2_32, .ref (z + 149), .int c2_34, .ref (z + 150), .ref (z + 151), .int c2_37, .ref (z + 152), .ref (z + 153), .ref (z + 154), .ref (z + 155), .ref (z + 156)])) := ⟨_, rfl⟩
    refine pfX10_243 C dX10_seed_16 hc2 (Nat.le_of_ble_eq_true rfl) rfl eu5.symm ?_
    have hTu5 : TN G z g uu0 u5 := by rw [eu5]; exact hTy0.up_134 (by omega)
    have hn6 := (congrFun eu5 134).trans (hup_s _ _ _)
    refine x_iload_n C 0 dX10_seed_19 rfl rfl ?_
    exact x_iretP C hr hlk (Nat.le_refl _) (Nat.le_refl _) dX10_seed_20 ⟨hTu5, w3, rfl, trivial⟩
  · have rq1 : a1.toInt < (0 : Int32).toInt := by rw [Int32.le_iff_toInt_le] at q1; omega
    refine x_ldc C kcX10_86 dX10_seed_4 ?_
    have l_m1000000002 : (-1000000002 : Int32).toInt = -1000000002 := by decide
    exact x_iretP C hr hlk (Nat.le_refl _) (Nat.le_refl _) dX10_seed_6 ⟨hTy0, (-1000000002 : Int32), rfl, trivial⟩
set_option maxRecDepth 20000 in
set_option maxHeartbeats 2000000 in
theorem tc_X10_layTalks {G : GT} {l : Launch} {z n : Nat} {g : Nat → Int} (uu0 : HpT) (hTz0 : TyN G z g uu0) (a1 : Int32) : Mp G l z yX10_layTalks cX10_layTalks 7 none { frames := 1, cells := 0, slots := 0, locals := 21 } [.ref (z + 134), .int a1] uu0 n (fun r v => TN G z g uu0 v ∧ r = none) := by
  refine mp_of (by decide +kernel) (Nat.le_of_ble_eq_true rfl) ?_
  intro p e s m below meth c C hr hlk hnm
  have hTy0 : TN G z g uu0 uu0 := TN.rf hTz0
  have zl_a1 : -2147483648 ≤ a1.toInt := Int32.le_toInt a1
  have zh_a1 : a1.toInt ≤ 2147483647 := Int32.toInt_le a1
  have J24 : ∀ (d : Nat) (u_24 : HpT) (hT_24 : TN G z g uu0 u_24) (x2_24 : Int32) (hl_x2_24 : 1 ≤ x2_24.toInt) (hh_x2_24 : x2_24.toInt ≤ 256) (hd : d = (257 - x2_24.toInt).toNat), Xw p l e ({ frames := 1, cells := 0, slots := 0, locals := 21 } : Room) s m ([.ref (z + 134), .int a1] : List Value).toArray below meth c G z 7 (MQ below (Qp G z n (fun r v => TN G z g uu0 v ∧ r = none)) ([.ref (z + 134), .int a1] : List Value).toArray s 0 0 (zA z)) 24 [(2, .int x2_24), (0, .ref (z + 134)), (1, .int a1)] [] u_24 n 0 0 := by
    intro d
    induction d using Nat.strongRecOn with
    | _ d ih24 =>
      intro u_24 hT_24 x2_24 hl_x2_24 hh_x2_24 hd24
      have J163 : ∀ (u_163 : HpT) (hT_163 : TN G z g uu0 u_163) (x3_163 : Int32) (hl_x3_163 : 0 ≤ x3_163.toInt) (hh_x3_163 : x3_163.toInt ≤ 8) (nl_x2_24_163 : 1 ≤ x2_24.toInt) (nh_x2_24_163 : x2_24.toInt ≤ 255), Xw p l e ({ frames := 1, cells := 0, slots := 0, locals := 21 } : Room) s m ([.ref (z + 134), .int a1] : List Value).toArray below meth c G z 7 (MQ below (Qp G z n (fun r v => TN G z g uu0 v ∧ r = none)) ([.ref (z + 134), .int a1] : List Value).toArray s 0 0 (zA z)) 163 [(3, .int x3_163), (2, .int x2_24), (0, .ref (z + 134)), (1, .int a1)] [] u_163 n 0 0 := by
        intro u_163 hT_163 x3_163 hl_x3_163 hh_x3_163 nl_x2_24_163 nh_x2_24_163
        have l_1 : (1 : Int32).toInt = 1 := by decide
        obtain ⟨w1, ew1⟩ : ∃ w : Int32, w = x2_24 + Int32.ofInt 1 := ⟨_, rfl⟩
        have fw1 : w1.toInt = x2_24.toInt + (1) := by rw [ew1]; exact i_addk (by decide) (by omega) (by omega)
        refine x_iinc (v := w1) C 1 [(2, .int w1), (3, .int x3_163), (0, .ref (z + 134)), (1, .int a1)] dX10_layTalks_163 rfl ew1.symm (by decide) rfl ?_
        refine x_goto C 24 dX10_layTalks_166 (by decide) ?_
        refine x_mv (lo2 := [(2, .int w1), (0, .ref (z + 134)), (1, .int a1)]) [0, 2, 3] rfl ?_
        exact ih24 (257 - w1.toInt).toNat (by omega) u_163 hT_163 w1 (by omega) (by omega) rfl
      have J33 : ∀ (d : Nat) (u_33 : HpT) (hT_33 : TN G z g uu0 u_33) (x3_33 : Int32) (hl_x3_33 : 0 ≤ x3_33.toInt) (hh_x3_33 : x3_33.toInt ≤ 8) (nl_x2_24_33 : 1 ≤ x2_24.toInt) (nh_x2_24_33 : x2_24.toInt ≤ 255) (hd : d = (9 - x3_33.toInt).toNat), Xw p l e ({ frames := 1, cells := 0, slots := 0, locals := 21 } : Room) s m ([.ref (z + 134), .int a1] : List Value).toArray below meth c G z 7 (MQ below (Qp G z n (fun r v => TN G z g uu0 v ∧ r = none)) ([.ref (z + 134), .int a1] : List Value).toArray s 0 0 (zA z)) 33 [(3, .int x3_33), (2, .int x2_24), (0, .ref (z + 134)), (1, .int a1)] [] u_33 n 0 0 := by
        intro d
        induction d using Nat.strongRecOn with
        | _ d ih33 =>
          intro u_33 hT_33 x3_33 hl_x3_33 hh_x3_33 nl_x2_24_33 nh_x2_24_33 hd33
          have J157 : ∀ (u_157 : HpT) (hT_157 : TN G z g uu0 u_157) (nl_x2_24_157 : 1 ≤ x2_24.toInt) (nh_x2_24_157 : x2_24.toInt ≤ 255) (nl_x3_33_157 : 0 ≤ x3_33.toInt) (nh_x3_33_157 : x3_33.toInt ≤ 7), Xw p l e ({ frames := 1, cells := 0, slots := 0, locals := 21 } : Room) s m ([.ref (z + 134), .int a1] : List Value).toArray below meth c G z 7 (MQ below (Qp G z n (fun r v => TN G z g uu0 v ∧ r = none)) ([.ref (z + 134), .int a1] : List Value).toArray s 0 0 (zA z)) 157 [(3, .int x3_33), (2, .int x2_24), (0, .ref (z + 134)), (1, .int a1)] [] u_157 n 0 0 := by
            intro u_157 hT_157 nl_x2_24_157 nh_x2_24_157 nl_x3_33_157 nh_x3_33_157
            have l_1 : (1 : Int32).toInt = 1 := by decide
            obtain ⟨w2, ew2⟩ : ∃ w : Int32, w = x3_33 + Int32.ofInt 1 := ⟨_, rfl⟩
            have fw2 : w2.toInt = x3_33.toInt + (1) := by rw [ew2]; exact i_addk (by decide) (by omega) (by omega)
            refine x_iinc (v := w2) C 0 [(3, .int w2), (2, .int x2_24), (0, .ref (z + 134)), (1, .int a1)] dX10_layTalks_157 rfl ew2.symm (by decide) rfl ?_
            refine x_goto C 33 dX10_layTalks_160 (by decide) ?_
            exact ih33 (9 - w2.toInt).toNat (by omega) u_157 hT_157 w2 (by omega) (by omega) (by omega) (by omega) rfl
          have J83 : ∀ (d : Nat) (u_83 : HpT) (hT_83 : TN G z g uu0 u_83) (x6_83 : Int32) (hl_x6_83 : 0 ≤ x6_83.toInt) (hh_x6_83 : x6_83.toInt ≤ 8) (x5_83 : Int32) (x4_83 : Int32) (hl_x4_83 : 0 ≤ x4_83.toInt) (hh_x4_83 : x4_83.toInt ≤ 255) (nl_x2_24_83 : 1 ≤ x2_24.toInt) (nh_x2_24_83 : x2_24.toInt ≤ 255) (nl_x3_33_83 : 0 ≤ x3_33.toInt) (nh_x3_33_83 : x3_33.toInt ≤ 7) (hd : d = (9 - x6_83.toInt).toNat), Xw p l e ({ frames := 1, cells := 0, slots := 0, locals := 21 } : Room) s m ([.ref (z + 134), .int a1] : List Value).toArray below meth c G z 7 (MQ below (Qp G z n (fun r v => TN G z g uu0 v ∧ r = none)) ([.ref (z + 134), .int a1] : List Value).toArray s 0 0 (zA z)) 83 [(6, .int x6_83), (5, .int x5_83), (4, .int x4_83), (3, .int x3_33), (2, .int x2_24), (0, .ref (z + 134)), (1, .int a1)] [] u_83 n 0 0 := by
            intro d
            induction d using Nat.strongRecOn with
            | _ d ih83 =>
              intro u_83 hT_83 x6_83 hl_x6_83 hh_x6_83 x5_83 x4_83 hl_x4_83 hh_x4_83 nl_x2_24_83 nh_x2_24_83 nl_x3_33_83 nh_x3_33_83 hd83
              have J135 : ∀ (u_135 : HpT) (hT_135 : TN G z g uu0 u_135) (y0_135 : Int32) (nl_x2_24_135 : 1 ≤ x2_24.toInt) (nh_x2_24_135 : x2_24.toInt ≤ 255) (nl_x3_33_135 : 0 ≤ x3_33.toInt) (nh_x3_33_135 : x3_33.toInt ≤ 7) (nl_x6_83_135 : 0 ≤ x6_83.toInt) (nh_x6_83_135 : x6_83.toInt ≤ 7), Xw p l e ({ frames := 1, cells := 0, slots := 0, locals := 21 } : Room) s m ([.ref (z + 134), .int a1] : List Value).toArray below meth c G z 7 (MQ below (Qp G z n (fun r v => TN G z g uu0 v ∧ r = none)) ([.ref (z + 134), .int a1] : List Value).toArray s 0 0 (zA z)) 135 [(6, .int x6_83), (5, .int x5_83), (4, .int x4_83), (3, .int x3_33), (2, .int x2_24), (0, .ref (z + 134)), (1, .int a1)] [.int y0_135, .int x5_83] u_135 n 0 0 := by
                intro u_135 hT_135 y0_135 nl_x2_24_135 nh_x2_24_135 nl_x3_33_135 nh_x3_33_135 nl_x6_83_135 nh_x6_83_135
                refine x_ior C dX10_layTalks_135 ?_
                refine x_top (fun w3 ew3 => ?_)
                refine x_istore C [(5, .int w3), (6, .int x6_83), (4, .int x4_83), (3, .int x3_33), (2, .int x2_24), (0, .ref (z + 134)), (1, .int a1)] dX10_layTalks_136 (by decide) rfl ?_
                have l_1 : (1 : Int32).toInt = 1 := by decide
                obtain ⟨w4, ew4⟩ : ∃ w : Int32, w = x6_83 + Int32.ofInt 1 := ⟨_, rfl⟩
                have fw4 : w4.toInt = x6_83.toInt + (1) := by rw [ew4]; exact i_addk (by decide) (by omega) (by omega)
                refine x_iinc (v := w4) C 1 [(6, .int w4), (5, .int w3), (4, .int x4_83), (3, .int x3_33), (2, .int x2_24), (0, .ref (z + 134)), (1, .int a1)] dX10_layTalks_138 rfl ew4.symm (by decide) rfl ?_
                refine x_goto C 83 dX10_layTalks_141 (by decide) ?_
                exact ih83 (9 - w4.toInt).toNat (by omega) u_135 hT_135 w4 (by omega) (by omega) w3 x4_83 (by omega) (by omega) (by omega) (by omega) (by omega) (by omega) rfl
              have J134 : ∀ (u_134 : HpT) (hT_134 : TN G z g uu0 u_134) (nl_x2_24_134 : 1 ≤ x2_24.toInt) (nh_x2_24_134 : x2_24.toInt ≤ 255) (nl_x3_33_134 : 0 ≤ x3_33.toInt) (nh_x3_33_134 : x3_33.toInt ≤ 7) (nl_x6_83_134 : 0 ≤ x6_83.toInt) (nh_x6_83_134 : x6_83.toInt ≤ 7), Xw p l e ({ frames := 1, cells := 0, slots := 0, locals := 21 } : Room) s m ([.ref (z + 134), .int a1] : List Value).toArray below meth c G z 7 (MQ below (Qp G z n (fun r v => TN G z g uu0 v ∧ r = none)) ([.ref (z + 134), .int a1] : List Value).toArray s 0 0 (zA z)) 134 [(6, .int x6_83), (5, .int x5_83), (4, .int x4_83), (3, .int x3_33), (2, .int x2_24), (0, .ref (z + 134)), (1, .int a1)] [.int x5_83] u_134 n 0 0 := by
                intro u_134 hT_134 nl_x2_24_134 nh_x2_24_134 nl_x3_33_134 nh_x3_33_134 nl_x6_83_134 nh_x6_83_134
                refine x_iconst (v := (0 : Int32)) C dX10_layTalks_134 (by decide) ?_
                have l_0 : (0 : Int32).toInt = 0 := by decide
                exact J135 u_134 hT_134 (0 : Int32) (by omega) (by omega) (by omega) (by omega) (by omega) (by omega)
              refine x_iload C 0 dX10_layTalks_83 rfl ?_
              refine x_aload_n C 5 dX10_layTalks_85 rfl rfl ?_
              obtain ⟨c5_0, c5_2, c5_3, c5_4, c5_5, c5_6, c5_7, c5_8, c5_9, c5_15, c5_16, c5_17, c5_18, c5_25, c5_26, c5_28, c5_30, c5_31, c5_32, c5_34, c5_37, hc5, qc5_0, qc5_1, qc5_2, qc5_3, qc5_4, qc5_5, qc5_6, qc5_7, qc5_8, qc5_9, qc5_10, qc5_11, qc5_12, qc5_13, qc5_14, qc5_15, qc5_16, qc5_17, qc5_18, qc5_19, qc5_20, qc5_21, qc5_22, qc5_23, qc5_24, qc5_25, qc5_26, qc5_27, qc5_28⟩ := tn_134 hT_83
              refine gfX10_153 C dX10_layTalks_86 hc5 rfl ?_
              refine x_icmp_ge C 144 dX10_layTalks_89 (by decide) (fun q6 => ?_) (fun q6 => ?_)
              · have rq6 : x6_83.toInt ≥ c5_17.toInt := by rw [Int32.le_iff_toInt_le] at q6; omega
                refine x_aload_n C 5 dX10_layTalks_144 rfl rfl ?_
                refine gfX10_53 C dX10_layTalks_145 hc5 rfl ?_
                refine x_bipush (v := (8 : Int32)) C dX10_layTalks_148 (by decide) ?_
                refine x_iload_n C 4 dX10_layTalks_150 rfl rfl ?_
                refine x_imul C dX10_layTalks_151 ?_
                have l_8 : (8 : Int32).toInt = 8 := by decide
                refine x_top (fun w7 ew7 => ?_)
                have fw7_0 : w7.toInt = 8 * x2_24.toInt := by rw [ew7]; exact i_mulkl (by decide) (by omega) (by omega)
                refine x_iload_n C 3 dX10_layTalks_152 rfl rfl ?_
                refine x_iadd C dX10_layTalks_153 ?_
                refine x_top (fun w8 ew8 => ?_)
                have fw8_0 : w8.toInt = w7.toInt + x3_33.toInt := by rw [ew8]; exact i_add (by omega) (by omega)
                refine x_iload C 1 dX10_layTalks_154 rfl ?_
                obtain ⟨f9, hf9⟩ := tn_148 hT_83
                refine x_iast C hf9 (i_in (by omega) (by omega)) dX10_layTalks_156 ?_
                obtain ⟨u11, eu11⟩ : ∃ w : HpT, w = hup u_83 148 (aI G 2048 (upd f9 w8.toNatClampNeg x5_83)) := ⟨_, rfl⟩
                refine x_heap (u2 := u11) eu11.symm ?_
                have hTu11 : TN G z g uu0 u11 := by rw [eu11]; exact hT_83.up_148
                have hn13 := (congrFun eu11 148).trans (hup_s _ _ _)
                generalize (upd f9 w8.toNatClampNeg x5_83) = f10 at *
                refine x_mv (lo2 := [(3, .int x3_33), (2, .int x2_24), (0, .ref (z + 134)), (1, .int a1)]) [3, 4, 5, 6] rfl ?_
                exact J157 u11 hTu11 (by omega) (by omega) (by omega) (by omega)
              · have rq6 : x6_83.toInt < c5_17.toInt := by rw [Int32.le_iff_toInt_le] at q6; omega
                refine x_iload C 1 dX10_layTalks_92 rfl ?_
                refine x_iload C 2 dX10_layTalks_94 rfl ?_
                refine x_iload C 0 dX10_layTalks_96 rfl ?_
                refine x_callSP C cl_X10_has kmX10_168 (As := [.int x4_83, .int x6_83]) (rest := [.int x5_83]) (tc_X10_has u_83 hT_83.1 x4_83 x6_83) rfl rfl (Nat.le_of_ble_eq_true rfl) ⟨Nat.le_of_ble_eq_true rfl, Nat.le_of_ble_eq_true rfl⟩ ⟨Nat.le_of_ble_eq_true rfl, Nat.le_of_ble_eq_true rfl⟩ dX10_layTalks_98 ?_
                rintro _ _ ⟨rfl, r14, rfl, gr14⟩
                refine x_norm (st2 := [.int r14, .int x5_83]) rfl rfl rfl rfl rfl ?_
                have l_0 : (0 : Int32).toInt = 0 := by decide
                refine x_if_eq C 134 dX10_layTalks_101 (by decide) (fun q16 => ?_) (fun q16 => ?_)
                · have rq16 : r14.toInt = (0 : Int32).toInt := by rw [i_eq_iff] at q16; omega
                  exact J134 u_83 hT_83 (by omega) (by omega) (by omega) (by omega) (by omega) (by omega)
                · have rq16 : ¬ r14.toInt = (0 : Int32).toInt := by rw [i_eq_iff] at q16; omega
                  refine x_aload_n C 5 dX10_layTalks_104 rfl rfl ?_
                  refine gfX10_35 C dX10_layTalks_105 hc5 rfl ?_
                  refine x_iload C 0 dX10_layTalks_108 rfl ?_
                  obtain ⟨f17, hf17⟩ := tn_142 hT_83
                  refine x_iald C hf17 (i_in (by omega) (by omega)) dX10_layTalks_110 ?_
                  refine x_top (fun w18 ew18 => ?_)
                  refine x_iload_n C 3 dX10_layTalks_111 rfl rfl ?_
                  refine x_callSP C cl_X10_has kmX10_168 (As := [.int w18, .int x3_33]) (rest := [.int x5_83]) (tc_X10_has u_83 hT_83.1 w18 x3_33) rfl rfl (Nat.le_of_ble_eq_true rfl) ⟨Nat.le_of_ble_eq_true rfl, Nat.le_of_ble_eq_true rfl⟩ ⟨Nat.le_of_ble_eq_true rfl, Nat.le_of_ble_eq_true rfl⟩ dX10_layTalks_112 ?_
                  rintro _ _ ⟨rfl, r19, rfl, gr19⟩
                  refine x_norm (st2 := [.int r19, .int x5_83]) rfl rfl rfl rfl rfl ?_
                  refine x_if_eq C 134 dX10_layTalks_115 (by decide) (fun q21 => ?_) (fun q21 => ?_)
                  · have rq21 : r19.toInt = (0 : Int32).toInt := by rw [i_eq_iff] at q21; omega
                    exact J134 u_83 hT_83 (by omega) (by omega) (by omega) (by omega) (by omega) (by omega)
                  · have rq21 : ¬ r19.toInt = (0 : Int32).toInt := by rw [i_eq_iff] at q21; omega
                    refine x_aload_n C 5 dX10_layTalks_118 rfl rfl ?_
                    refine gfX10_53 C dX10_layTalks_119 hc5 rfl ?_
                    refine x_bipush (v := (8 : Int32)) C dX10_layTalks_122 (by decide) ?_
                    refine x_iload C 2 dX10_layTalks_124 rfl ?_
                    refine x_imul C dX10_layTalks_126 ?_
                    have l_8 : (8 : Int32).toInt = 8 := by decide
                    refine x_top (fun w22 ew22 => ?_)
                    have fw22_0 : w22.toInt = 8 * x4_83.toInt := by rw [ew22]; exact i_mulkl (by decide) (by omega) (by omega)
                    refine x_iload C 0 dX10_layTalks_127 rfl ?_
                    refine x_iadd C dX10_layTalks_129 ?_
                    refine x_top (fun w23 ew23 => ?_)
                    have fw23_0 : w23.toInt = w22.toInt + x6_83.toInt := by rw [ew23]; exact i_add (by omega) (by omega)
                    obtain ⟨f24, hf24⟩ := tn_148 hT_83
                    refine x_iald C hf24 (i_in (by omega) (by omega)) dX10_layTalks_130 ?_
                    refine x_top (fun w25 ew25 => ?_)
                    refine x_goto C 135 dX10_layTalks_131 (by decide) ?_
                    exact J135 u_83 hT_83 w25 (by omega) (by omega) (by omega) (by omega) (by omega) (by omega)
          have J78 : ∀ (u_78 : HpT) (hT_78 : TN G z g uu0 u_78) (x4_78 : Int32) (hl_x4_78 : 0 ≤ x4_78.toInt) (hh_x4_78 : x4_78.toInt ≤ 255) (y0_78 : Int32) (nl_x2_24_78 : 1 ≤ x2_24.toInt) (nh_x2_24_78 : x2_24.toInt ≤ 255) (nl_x3_33_78 : 0 ≤ x3_33.toInt) (nh_x3_33_78 : x3_33.toInt ≤ 7), Xw p l e ({ frames := 1, cells := 0, slots := 0, locals := 21 } : Room) s m ([.ref (z + 134), .int a1] : List Value).toArray below meth c G z 7 (MQ below (Qp G z n (fun r v => TN G z g uu0 v ∧ r = none)) ([.ref (z + 134), .int a1] : List Value).toArray s 0 0 (zA z)) 78 [(4, .int x4_78), (3, .int x3_33), (2, .int x2_24), (0, .ref (z + 134)), (1, .int a1)] [.int y0_78] u_78 n 0 0 := by
            intro u_78 hT_78 x4_78 hl_x4_78 hh_x4_78 y0_78 nl_x2_24_78 nh_x2_24_78 nl_x3_33_78 nh_x3_33_78
            refine x_istore C [(5, .int y0_78), (4, .int x4_78), (3, .int x3_33), (2, .int x2_24), (0, .ref (z + 134)), (1, .int a1)] dX10_layTalks_78 (by decide) rfl ?_
            refine x_iconst (v := (0 : Int32)) C dX10_layTalks_80 (by decide) ?_
            refine x_istore C [(6, .int (0 : Int32)), (5, .int y0_78), (4, .int x4_78), (3, .int x3_33), (2, .int x2_24), (0, .ref (z + 134)), (1, .int a1)] dX10_layTalks_81 (by decide) rfl ?_
            have l_0 : (0 : Int32).toInt = 0 := by decide
            exact J83 (9 - (0 : Int32).toInt).toNat u_78 hT_78 (0 : Int32) (by omega) (by omega) y0_78 x4_78 (by omega) (by omega) (by omega) (by omega) (by omega) (by omega) rfl
          refine x_iload_n C 0 dX10_layTalks_33 rfl rfl ?_
          refine x_aload_n C 2 dX10_layTalks_34 rfl rfl ?_
          obtain ⟨c26_0, c26_2, c26_3, c26_4, c26_5, c26_6, c26_7, c26_8, c26_9, c26_15, c26_16, c26_17, c26_18, c26_25, c26_26, c26_28, c26_30, c26_31, c26_32, c26_34, c26_37, hc26, qc26_0, qc26_1, qc26_2, qc26_3, qc26_4, qc26_5, qc26_6, qc26_7, qc26_8, qc26_9, qc26_10, qc26_11, qc26_12, qc26_13, qc26_14, qc26_15, qc26_16, qc26_17, qc26_18, qc26_19, qc26_20, qc26_21, qc26_22, qc26_23, qc26_24, qc26_25, qc26_26, qc26_27, qc26_28⟩ := tn_134 hT_33
          refine gfX10_153 C dX10_layTalks_35 hc26 rfl ?_
          refine x_icmp_ge C 163 dX10_layTalks_38 (by decide) (fun q27 => ?_) (fun q27 => ?_)
          · have rq27 : x3_33.toInt ≥ c26_17.toInt := by rw [Int32.le_iff_toInt_le] at q27; omega
            exact J163 u_33 hT_33 x3_33 (by omega) (by omega) (by omega) (by omega)
          · have rq27 : x3_33.toInt < c26_17.toInt := by rw [Int32.le_iff_toInt_le] at q27; omega
            refine x_iload_n C 1 dX10_layTalks_41 rfl rfl ?_
            refine x_iload_n C 3 dX10_layTalks_42 rfl rfl ?_
            refine x_iconst (v := (-1 : Int32)) C dX10_layTalks_43 (by decide) ?_
            refine x_ixor C dX10_layTalks_44 ?_
            have l_m1 : (-1 : Int32).toInt = -1 := by decide
            refine x_top (fun w28 ew28 => ?_)
            refine x_iand C dX10_layTalks_45 ?_
            refine x_top (fun w29 ew29 => ?_)
            have fw29_0 : 0 ≤ w29.toInt ∧ w29.toInt ≤ x2_24.toInt := by rw [ew29]; exact i_and_l (by omega)
            have l_0 : (0 : Int32).toInt = 0 := by decide
            refine x_if_ne C 163 dX10_layTalks_46 (by decide) (fun q30 => ?_) (fun q30 => ?_)
            · have rq30 : ¬ w29.toInt = (0 : Int32).toInt := by rw [i_eq_iff] at q30; omega
              exact J163 u_33 hT_33 x3_33 (by omega) (by omega) (by omega) (by omega)
            · have rq30 : w29.toInt = (0 : Int32).toInt := by rw [i_eq_iff] at q30; omega
              refine x_iload_n C 1 dX10_layTalks_49 rfl rfl ?_
              refine x_iload_n C 0 dX10_layTalks_50 rfl rfl ?_
              refine x_callSP C cl_X10_has kmX10_168 (As := [.int x2_24, .int x3_33]) (rest := []) (tc_X10_has u_33 hT_33.1 x2_24 x3_33) rfl rfl (Nat.le_of_ble_eq_true rfl) ⟨Nat.le_of_ble_eq_true rfl, Nat.le_of_ble_eq_true rfl⟩ ⟨Nat.le_of_ble_eq_true rfl, Nat.le_of_ble_eq_true rfl⟩ dX10_layTalks_51 ?_
              rintro _ _ ⟨rfl, r31, rfl, gr31⟩
              refine x_norm (st2 := [.int r31]) rfl rfl rfl rfl rfl ?_
              refine x_if_eq C 157 dX10_layTalks_54 (by decide) (fun q33 => ?_) (fun q33 => ?_)
              · have rq33 : r31.toInt = (0 : Int32).toInt := by rw [i_eq_iff] at q33; omega
                exact J157 u_33 hT_33 (by omega) (by omega) (by omega) (by omega)
              · have rq33 : ¬ r31.toInt = (0 : Int32).toInt := by rw [i_eq_iff] at q33; omega
                refine x_iload_n C 1 dX10_layTalks_57 rfl rfl ?_
                refine x_iconst (v := (1 : Int32)) C dX10_layTalks_58 (by decide) ?_
                refine x_iload_n C 0 dX10_layTalks_59 rfl rfl ?_
                refine x_ishl C dX10_layTalks_60 ?_
                have l_1 : (1 : Int32).toInt = 1 := by decide
                refine x_top (fun w34 ew34 => ?_)
                refine x_iconst (v := (-1 : Int32)) C dX10_layTalks_61 (by decide) ?_
                refine x_ixor C dX10_layTalks_62 ?_
                refine x_top (fun w35 ew35 => ?_)
                refine x_iand C dX10_layTalks_63 ?_
                refine x_top (fun w36 ew36 => ?_)
                have fw36_0 : 0 ≤ w36.toInt ∧ w36.toInt ≤ x2_24.toInt := by rw [ew36]; exact i_and_l (by omega)
                refine x_istore C [(4, .int w36), (3, .int x3_33), (2, .int x2_24), (0, .ref (z + 134)), (1, .int a1)] dX10_layTalks_64 (by decide) rfl ?_
                refine x_iload C 0 dX10_layTalks_66 rfl ?_
                refine x_if_ne C 77 dX10_layTalks_68 (by decide) (fun q37 => ?_) (fun q37 => ?_)
                · have rq37 : ¬ w36.toInt = (0 : Int32).toInt := by rw [i_eq_iff] at q37; omega
                  refine x_iconst (v := (0 : Int32)) C dX10_layTalks_77 (by decide) ?_
                  exact J78 u_33 hT_33 w36 (by omega) (by omega) (0 : Int32) (by omega) (by omega) (by omega) (by omega)
                · have rq37 : w36.toInt = (0 : Int32).toInt := by rw [i_eq_iff] at q37; omega
                  refine x_iconst (v := (1 : Int32)) C dX10_layTalks_71 (by decide) ?_
                  refine x_iload_n C 1 dX10_layTalks_72 rfl rfl ?_
                  refine x_ishl C dX10_layTalks_73 ?_
                  refine x_top (fun w38 ew38 => ?_)
                  refine x_goto C 78 dX10_layTalks_74 (by decide) ?_
                  exact J78 u_33 hT_33 w36 (by omega) (by omega) w38 (by omega) (by omega) (by omega) (by omega)
      refine x_iload_n C 0 dX10_layTalks_24 rfl rfl ?_
      refine x_sipush (v := (256 : Int32)) C dX10_layTalks_25 (by decide) ?_
      have l_256 : (256 : Int32).toInt = 256 := by decide
      refine x_icmp_ge C 169 dX10_layTalks_28 (by decide) (fun q39 => ?_) (fun q39 => ?_)
      · have rq39 : x2_24.toInt ≥ (256 : Int32).toInt := by rw [Int32.le_iff_toInt_le] at q39; omega
        exact x_vretP C hr hlk (Nat.le_refl _) (Nat.le_refl _) dX10_layTalks_169 ⟨hT_24, rfl⟩
      · have rq39 : x2_24.toInt < (256 : Int32).toInt := by rw [Int32.le_iff_toInt_le] at q39; omega
        refine x_iconst (v := (0 : Int32)) C dX10_layTalks_31 (by decide) ?_
        refine x_istore_n C [(3, .int (0 : Int32)), (2, .int x2_24), (0, .ref (z + 134)), (1, .int a1)] dX10_layTalks_32 rfl (by decide) rfl ?_
        have l_0 : (0 : Int32).toInt = 0 := by decide
        exact J33 (9 - (0 : Int32).toInt).toNat u_24 hT_24 (0 : Int32) (by omega) (by omega) (by omega) (by omega) rfl
  have J2 : ∀ (d : Nat) (u_2 : HpT) (hT_2 : TN G z g uu0 u_2) (x2_2 : Int32) (hl_x2_2 : 0 ≤ x2_2.toInt) (hh_x2_2 : x2_2.toInt ≤ 2048) (hd : d = (2049 - x2_2.toInt).toNat), Xw p l e ({ frames := 1, cells := 0, slots := 0, locals := 21 } : Room) s m ([.ref (z + 134), .int a1] : List Value).toArray below meth c G z 7 (MQ below (Qp G z n (fun r v => TN G z g uu0 v ∧ r = none)) ([.ref (z + 134), .int a1] : List Value).toArray s 0 0 (zA z)) 2 [(2, .int x2_2), (0, .ref (z + 134)), (1, .int a1)] [] u_2 n 0 0 := by
    intro d
    induction d using Nat.strongRecOn with
    | _ d ih2 =>
      intro u_2 hT_2 x2_2 hl_x2_2 hh_x2_2 hd2
      refine x_iload_n C 0 dX10_layTalks_2 rfl rfl ?_
      refine x_sipush (v := (2048 : Int32)) C dX10_layTalks_3 (by decide) ?_
      have l_2048 : (2048 : Int32).toInt = 2048 := by decide
      refine x_icmp_ge C 22 dX10_layTalks_6 (by decide) (fun q40 => ?_) (fun q40 => ?_)
      · have rq40 : x2_2.toInt ≥ (2048 : Int32).toInt := by rw [Int32.le_iff_toInt_le] at q40; omega
        refine x_iconst (v := (1 : Int32)) C dX10_layTalks_22 (by decide) ?_
        refine x_istore_n C [(2, .int (1 : Int32)), (0, .ref (z + 134)), (1, .int a1)] dX10_layTalks_23 rfl (by decide) rfl ?_
        have l_1 : (1 : Int32).toInt = 1 := by decide
        exact J24 (257 - (1 : Int32).toInt).toNat u_2 hT_2 (1 : Int32) (by omega) (by omega) rfl
      · have rq40 : x2_2.toInt < (2048 : Int32).toInt := by rw [Int32.le_iff_toInt_le] at q40; omega
        refine x_aload_n C 1 dX10_layTalks_9 rfl rfl ?_
        obtain ⟨c41_0, c41_2, c41_3, c41_4, c41_5, c41_6, c41_7, c41_8, c41_9, c41_15, c41_16, c41_17, c41_18, c41_25, c41_26, c41_28, c41_30, c41_31, c41_32, c41_34, c41_37, hc41, qc41_0, qc41_1, qc41_2, qc41_3, qc41_4, qc41_5, qc41_6, qc41_7, qc41_8, qc41_9, qc41_10, qc41_11, qc41_12, qc41_13, qc41_14, qc41_15, qc41_16, qc41_17, qc41_18, qc41_19, qc41_20, qc41_21, qc41_22, qc41_23, qc41_24, qc41_25, qc41_26, qc41_27, qc41_28⟩ := tn_134 hT_2
        refine gfX10_53 C dX10_layTalks_10 hc41 rfl ?_
        refine x_iload_n C 0 dX10_layTalks_13 rfl rfl ?_
        refine x_iconst (v := (0 : Int32)) C dX10_layTalks_14 (by decide) ?_
        obtain ⟨f42, hf42⟩ := tn_148 hT_2
        have l_0 : (0 : Int32).toInt = 0 := by decide
        refine x_iast C hf42 (i_in (by omega) (by omega)) dX10_layTalks_15 ?_
        obtain ⟨u44, eu44⟩ : ∃ w : HpT, w = hup u_2 148 (aI G 2048 (upd f42 x2_2.toNatClampNeg (0 : Int32))) := ⟨_, rfl⟩
        refine x_heap (u2 := u44) eu44.symm ?_
        have hTu44 : TN G z g uu0 u44 := by rw [eu44]; exact hT_2.up_148
        have hn46 := (congrFun eu44 148).trans (hup_s _ _ _)
        generalize (upd f42 x2_2.toNatClampNeg (0 : Int32)) = f43 at *
        have l_1 : (1 : Int32).toInt = 1 := by decide
        obtain ⟨w47, ew47⟩ : ∃ w : Int32, w = x2_2 + Int32.ofInt 1 := ⟨_, rfl⟩
        have fw47 : w47.toInt = x2_2.toInt + (1) := by rw [ew47]; exact i_addk (by decide) (by omega) (by omega)
        refine x_iinc (v := w47) C 0 [(2, .int w47), (0, .ref (z + 134)), (1, .int a1)] dX10_layTalks_16 rfl ew47.symm (by decide) rfl ?_
        refine x_goto C 2 dX10_layTalks_19 (by decide) ?_
        exact ih2 (2049 - w47.toInt).toNat (by omega) u44 hTu44 w47 (by omega) (by omega) rfl
  refine x_iconst (v := (0 : Int32)) C dX10_layTalks_0 (by decide) ?_
  refine x_istore_n C [(2, .int (0 : Int32)), (0, .ref (z + 134)), (1, .int a1)] dX10_layTalks_1 rfl (by decide) rfl ?_
  have l_0 : (0 : Int32).toInt = 0 := by decide
  exact J2 (2049 - (0 : Int32).toInt).toNat uu0 hTy0 (0 : Int32) (by omega) (by omega) rfl
set_option maxRecDepth 20000 in
set_option maxHeartbeats 2000000 in
theorem tc_X10_layTalk {G : GT} {l : Launch} {z n : Nat} {g : Nat → Int} (uu0 : HpT) (hTz0 : TyN G z g uu0) (a1 : Int32) (a2 : Int32) (pre0 : 0 ≤ a1.toInt) (pre1 : a1.toInt ≤ 5) : Mp G l z yX10_layTalk cX10_layTalk 8 none { frames := 2, cells := 0, slots := 0, locals := 47 } [.ref (z + 134), .int a1, .int a2] uu0 n (fun r v => TN G z g uu0 v ∧ r = none) := by
  refine mp_of (by decide +kernel) (Nat.le_of_ble_eq_true rfl) ?_
  intro p e s m below meth c C hr hlk hnm
  have hTy0 : TN G z g uu0 uu0 := TN.rf hTz0
  have zl_a2 : -2147483648 ≤ a2.toInt := Int32.le_toInt a2
  have zh_a2 : a2.toInt ≤ 2147483647 := Int32.toInt_le a2
  have J22 : ∀ (d : Nat) (u_22 : HpT) (hT_22 : TN G z g uu0 u_22) (x3_22 : Int32) (hl_x3_22 : 1 ≤ x3_22.toInt) (hh_x3_22 : x3_22.toInt ≤ 256) (hd : d = (257 - x3_22.toInt).toNat), Xw p l e ({ frames := 2, cells := 0, slots := 0, locals := 47 } : Room) s m ([.ref (z + 134), .int a1, .int a2] : List Value).toArray below meth c G z 8 (MQ below (Qp G z n (fun r v => TN G z g uu0 v ∧ r = none)) ([.ref (z + 134), .int a1, .int a2] : List Value).toArray s 0 0 (zA z)) 22 [(3, .int x3_22), (0, .ref (z + 134)), (1, .int a1), (2, .int a2)] [] u_22 n 0 0 := by
    intro d
    induction d using Nat.strongRecOn with
    | _ d ih22 =>
      intro u_22 hT_22 x3_22 hl_x3_22 hh_x3_22 hd22
      have J199 : ∀ (u_199 : HpT) (hT_199 : TN G z g uu0 u_199) (x7_199 : Int32) (hl_x7_199 : 0 ≤ x7_199.toInt) (hh_x7_199 : x7_199.toInt ≤ 1) (x6_199 : Int32) (x5_199 : Int32) (x4_199 : Int32) (nl_x3_22_199 : 1 ≤ x3_22.toInt) (nh_x3_22_199 : x3_22.toInt ≤ 255), Xw p l e ({ frames := 2, cells := 0, slots := 0, locals := 47 } : Room) s m ([.ref (z + 134), .int a1, .int a2] : List Value).toArray below meth c G z 8 (MQ below (Qp G z n (fun r v => TN G z g uu0 v ∧ r = none)) ([.ref (z + 134), .int a1, .int a2] : List Value).toArray s 0 0 (zA z)) 199 [(7, .int x7_199), (6, .int x6_199), (5, .int x5_199), (4, .int x4_199), (3, .int x3_22), (0, .ref (z + 134)), (1, .int a1), (2, .int a2)] [] u_199 n 0 0 := by
        intro u_199 hT_199 x7_199 hl_x7_199 hh_x7_199 x6_199 x5_199 x4_199 nl_x3_22_199 nh_x3_22_199
        have l_1 : (1 : Int32).toInt = 1 := by decide
        obtain ⟨w1, ew1⟩ : ∃ w : Int32, w = x3_22 + Int32.ofInt 1 := ⟨_, rfl⟩
        have fw1 : w1.toInt = x3_22.toInt + (1) := by rw [ew1]; exact i_addk (by decide) (by omega) (by omega)
        refine x_iinc (v := w1) C 4 [(3, .int w1), (7, .int x7_199), (6, .int x6_199), (5, .int x5_199), (4, .int x4_199), (0, .ref (z + 134)), (1, .int a1), (2, .int a2)] dX10_layTalk_199 rfl ew1.symm (by decide) rfl ?_
        refine x_goto C 22 dX10_layTalk_202 (by decide) ?_
        refine x_mv (lo2 := [(3, .int w1), (0, .ref (z + 134)), (1, .int a1), (2, .int a2)]) [0, 5, 6, 7] rfl ?_
        exact ih22 (257 - w1.toInt).toNat (by omega) u_199 hT_199 w1 (by omega) (by omega) rfl
      have J162 : ∀ (u_162 : HpT) (hT_162 : TN G z g uu0 u_162) (x6_162 : Int32) (x5_162 : Int32) (x4_162 : Int32) (y0_162 : Int32) (hl_y0_162 : 0 ≤ y0_162.toInt) (hh_y0_162 : y0_162.toInt ≤ 1) (nl_x3_22_162 : 1 ≤ x3_22.toInt) (nh_x3_22_162 : x3_22.toInt ≤ 255), Xw p l e ({ frames := 2, cells := 0, slots := 0, locals := 47 } : Room) s m ([.ref (z + 134), .int a1, .int a2] : List Value).toArray below meth c G z 8 (MQ below (Qp G z n (fun r v => TN G z g uu0 v ∧ r = none)) ([.ref (z + 134), .int a1, .int a2] : List Value).toArray s 0 0 (zA z)) 162 [(6, .int x6_162), (5, .int x5_162), (4, .int x4_162), (3, .int x3_22), (0, .ref (z + 134)), (1, .int a1), (2, .int a2)] [.int y0_162] u_162 n 0 0 := by
        intro u_162 hT_162 x6_162 x5_162 x4_162 y0_162 hl_y0_162 hh_y0_162 nl_x3_22_162 nh_x3_22_162
        refine x_istore C [(7, .int y0_162), (6, .int x6_162), (5, .int x5_162), (4, .int x4_162), (3, .int x3_22), (0, .ref (z + 134)), (1, .int a1), (2, .int a2)] dX10_layTalk_162 (by decide) rfl ?_
        refine x_iload C 3 dX10_layTalk_164 rfl ?_
        have l_0 : (0 : Int32).toInt = 0 := by decide
        refine x_if_eq C 199 dX10_layTalk_166 (by decide) (fun q2 => ?_) (fun q2 => ?_)
        · have rq2 : x4_162.toInt = (0 : Int32).toInt := by rw [i_eq_iff] at q2; omega
          exact J199 u_162 hT_162 y0_162 (by omega) (by omega) x6_162 x5_162 x4_162 (by omega) (by omega)
        · have rq2 : ¬ x4_162.toInt = (0 : Int32).toInt := by rw [i_eq_iff] at q2; omega
          refine x_iload C 2 dX10_layTalk_169 rfl ?_
          refine x_if_le C 199 dX10_layTalk_171 (by decide) (fun q3 => ?_) (fun q3 => ?_)
          · have rq3 : x5_162.toInt ≤ (0 : Int32).toInt := by rw [Int32.le_iff_toInt_le] at q3; omega
            exact J199 u_162 hT_162 y0_162 (by omega) (by omega) x6_162 x5_162 x4_162 (by omega) (by omega)
          · have rq3 : x5_162.toInt > (0 : Int32).toInt := by rw [Int32.le_iff_toInt_le] at q3; omega
            refine x_iload C 0 dX10_layTalk_174 rfl ?_
            refine x_if_eq C 199 dX10_layTalk_176 (by decide) (fun q4 => ?_) (fun q4 => ?_)
            · have rq4 : y0_162.toInt = (0 : Int32).toInt := by rw [i_eq_iff] at q4; omega
              exact J199 u_162 hT_162 y0_162 (by omega) (by omega) x6_162 x5_162 x4_162 (by omega) (by omega)
            · have rq4 : ¬ y0_162.toInt = (0 : Int32).toInt := by rw [i_eq_iff] at q4; omega
              refine x_aload_n C 5 dX10_layTalk_179 rfl rfl ?_
              refine x_iload C 2 dX10_layTalk_180 rfl ?_
              obtain ⟨c5_0, c5_2, c5_3, c5_4, c5_5, c5_6, c5_7, c5_8, c5_9, c5_15, c5_16, c5_17, c5_18, c5_25, c5_26, c5_28, c5_30, c5_31, c5_32, c5_34, c5_37, hc5, qc5_0, qc5_1, qc5_2, qc5_3, qc5_4, qc5_5, qc5_6, qc5_7, qc5_8, qc5_9, qc5_10, qc5_11, qc5_12, qc5_13, qc5_14, qc5_15, qc5_16, qc5_17, qc5_18, qc5_19, qc5_20, qc5_21, qc5_22, qc5_23, qc5_24, qc5_25, qc5_26, qc5_27, qc5_28⟩ := tn_134 hT_162
              obtain ⟨u6, eu6⟩ : ∃ w : HpT, w = hup u_162 134 (.inr (9, [.int c5_0, .ref (z + 135), .int c5_2, .int c5_3, .int c5_4, .int c5_5, .int c5_6, .int c5_7, .int c5_8, .int c5_9, .ref (z + 136), .ref (z + 137), .ref (z + 138), .ref (z + 139), .ref (z + 140), .int c5_15, .int c5_16, .int c5_17, .int c5_18, .ref (z + 141), .ref (z + 142), .ref (z + 143), .ref (z + 144), .ref (z + 145), .ref (z + 146), .int c5_25, .int c5_26, .ref (z + 147), .long c5_28, .ref (z + 148), .int x5_162, .int c5_31, .int c5_32, .ref (z + 149), .int c5_34, .ref (z + 150), .ref (z + 151), .int c5_37, .ref (z + 152), .ref (z + 153), .ref (z + 154), .ref (z + 155), .ref (z + 156)])) := ⟨_, rfl⟩
              refine pfX10_264 C dX10_layTalk_182 hc5 (Nat.le_of_ble_eq_true rfl) rfl eu6.symm ?_
              have hTu6 : TN G z g uu0 u6 := by rw [eu6]; exact hT_162.up_134 (by omega)
              have hn7 := (congrFun eu6 134).trans (hup_s _ _ _)
              refine x_aload_n C 5 dX10_layTalk_185 rfl rfl ?_
              refine x_iload C 1 dX10_layTalk_186 rfl ?_
              obtain ⟨u8, eu8⟩ : ∃ w : HpT, w = hup u6 134 (.inr (9, [.int c5_0, .ref (z + 135), .int c5_2, .int c5_3, .int c5_4, .int c5_5, .int c5_6, .int c5_7, .int c5_8, .int c5_9, .ref (z + 136), .ref (z + 137), .ref (z + 138), .ref (z + 139), .ref (z + 140), .int c5_15, .int c5_16, .int c5_17, .int c5_18, .ref (z + 141), .ref (z + 142), .ref (z + 143), .ref (z + 144), .ref (z + 145), .ref (z + 146), .int c5_25, .int c5_26, .ref (z + 147), .long c5_28, .ref (z + 148), .int x5_162, .int x6_162, .int c5_32, .ref (z + 149), .int c5_34, .ref (z + 150), .ref (z + 151), .int c5_37, .ref (z + 152), .ref (z + 153), .ref (z + 154), .ref (z + 155), .ref (z + 156)])) := ⟨_, rfl⟩
              refine pfX10_267 C dX10_layTalk_188 hn7 (Nat.le_of_ble_eq_true rfl) rfl eu8.symm ?_
              have hTu8 : TN G z g uu0 u8 := by rw [eu8]; exact hTu6.up_134 (by omega)
              have hn9 := (congrFun eu8 134).trans (hup_s _ _ _)
              refine x_aload_n C 5 dX10_layTalk_191 rfl rfl ?_
              refine x_iload_n C 4 dX10_layTalk_192 rfl rfl ?_
              refine x_callSP C cl_X10_bits kmX10_172 (As := [.int x3_22]) (rest := [.ref (z + 134)]) (tc_X10_bits u8 hTu8.1 x3_22) rfl rfl (Nat.le_of_ble_eq_true rfl) ⟨Nat.le_of_ble_eq_true rfl, Nat.le_of_ble_eq_true rfl⟩ ⟨Nat.le_of_ble_eq_true rfl, Nat.le_of_ble_eq_true rfl⟩ dX10_layTalk_193 ?_
              rintro _ _ ⟨rfl, r10, rfl, gr10⟩
              refine x_norm (st2 := [.int r10, .ref (z + 134)]) rfl rfl rfl rfl rfl ?_
              obtain ⟨u12, eu12⟩ : ∃ w : HpT, w = hup u8 134 (.inr (9, [.int c5_0, .ref (z + 135), .int c5_2, .int c5_3, .int c5_4, .int c5_5, .int c5_6, .int c5_7, .int c5_8, .int c5_9, .ref (z + 136), .ref (z + 137), .ref (z + 138), .ref (z + 139), .ref (z + 140), .int c5_15, .int c5_16, .int c5_17, .int c5_18, .ref (z + 141), .ref (z + 142), .ref (z + 143), .ref (z + 144), .ref (z + 145), .ref (z + 146), .int c5_25, .int c5_26, .ref (z + 147), .long c5_28, .ref (z + 148), .int x5_162, .int x6_162, .int r10, .ref (z + 149), .int c5_34, .ref (z + 150), .ref (z + 151), .int c5_37, .ref (z + 152), .ref (z + 153), .ref (z + 154), .ref (z + 155), .ref (z + 156)])) := ⟨_, rfl⟩
              refine pfX10_270 C dX10_layTalk_196 hn9 (Nat.le_of_ble_eq_true rfl) rfl eu12.symm ?_
              have hTu12 : TN G z g uu0 u12 := by rw [eu12]; exact hTu8.up_134 (by omega)
              have hn13 := (congrFun eu12 134).trans (hup_s _ _ _)
              exact J199 u12 hTu12 y0_162 (by omega) (by omega) x6_162 x5_162 x4_162 (by omega) (by omega)
      have J161 : ∀ (u_161 : HpT) (hT_161 : TN G z g uu0 u_161) (x6_161 : Int32) (x5_161 : Int32) (x4_161 : Int32) (nl_x3_22_161 : 1 ≤ x3_22.toInt) (nh_x3_22_161 : x3_22.toInt ≤ 255), Xw p l e ({ frames := 2, cells := 0, slots := 0, locals := 47 } : Room) s m ([.ref (z + 134), .int a1, .int a2] : List Value).toArray below meth c G z 8 (MQ below (Qp G z n (fun r v => TN G z g uu0 v ∧ r = none)) ([.ref (z + 134), .int a1, .int a2] : List Value).toArray s 0 0 (zA z)) 161 [(6, .int x6_161), (5, .int x5_161), (4, .int x4_161), (3, .int x3_22), (0, .ref (z + 134)), (1, .int a1), (2, .int a2)] [] u_161 n 0 0 := by
        intro u_161 hT_161 x6_161 x5_161 x4_161 nl_x3_22_161 nh_x3_22_161
        refine x_iconst (v := (0 : Int32)) C dX10_layTalk_161 (by decide) ?_
        have l_0 : (0 : Int32).toInt = 0 := by decide
        exact J162 u_161 hT_161 x6_161 x5_161 x4_161 (0 : Int32) (by omega) (by omega) (by omega) (by omega)
      have J157 : ∀ (u_157 : HpT) (hT_157 : TN G z g uu0 u_157) (x6_157 : Int32) (x5_157 : Int32) (x4_157 : Int32) (nl_x3_22_157 : 1 ≤ x3_22.toInt) (nh_x3_22_157 : x3_22.toInt ≤ 255), Xw p l e ({ frames := 2, cells := 0, slots := 0, locals := 47 } : Room) s m ([.ref (z + 134), .int a1, .int a2] : List Value).toArray below meth c G z 8 (MQ below (Qp G z n (fun r v => TN G z g uu0 v ∧ r = none)) ([.ref (z + 134), .int a1, .int a2] : List Value).toArray s 0 0 (zA z)) 157 [(6, .int x6_157), (5, .int x5_157), (4, .int x4_157), (3, .int x3_22), (0, .ref (z + 134)), (1, .int a1), (2, .int a2)] [] u_157 n 0 0 := by
        intro u_157 hT_157 x6_157 x5_157 x4_157 nl_x3_22_157 nh_x3_22_157
        refine x_iconst (v := (1 : Int32)) C dX10_layTalk_157 (by decide) ?_
        refine x_goto C 162 dX10_layTalk_158 (by decide) ?_
        have l_1 : (1 : Int32).toInt = 1 := by decide
        exact J162 u_157 hT_157 x6_157 x5_157 x4_157 (1 : Int32) (by omega) (by omega) (by omega) (by omega)
      have J38 : ∀ (d : Nat) (u_38 : HpT) (hT_38 : TN G z g uu0 u_38) (x6_38 : Int32) (hl_x6_38 : 0 ≤ x6_38.toInt) (hh_x6_38 : x6_38.toInt ≤ 8) (x5_38 : Int32) (x4_38 : Int32) (nl_x3_22_38 : 1 ≤ x3_22.toInt) (nh_x3_22_38 : x3_22.toInt ≤ 255) (hd : d = (9 - x6_38.toInt).toNat), Xw p l e ({ frames := 2, cells := 0, slots := 0, locals := 47 } : Room) s m ([.ref (z + 134), .int a1, .int a2] : List Value).toArray below meth c G z 8 (MQ below (Qp G z n (fun r v => TN G z g uu0 v ∧ r = none)) ([.ref (z + 134), .int a1, .int a2] : List Value).toArray s 0 0 (zA z)) 38 [(6, .int x6_38), (5, .int x5_38), (4, .int x4_38), (3, .int x3_22), (0, .ref (z + 134)), (1, .int a1), (2, .int a2)] [] u_38 n 0 0 := by
        intro d
        induction d using Nat.strongRecOn with
        | _ d ih38 =>
          intro u_38 hT_38 x6_38 hl_x6_38 hh_x6_38 x5_38 x4_38 nl_x3_22_38 nh_x3_22_38 hd38
          have J86 : ∀ (u_86 : HpT) (hT_86 : TN G z g uu0 u_86) (x4_86 : Int32) (y0_86 : Int32) (nl_x3_22_86 : 1 ≤ x3_22.toInt) (nh_x3_22_86 : x3_22.toInt ≤ 255) (nl_x6_38_86 : 0 ≤ x6_38.toInt) (nh_x6_38_86 : x6_38.toInt ≤ 7), Xw p l e ({ frames := 2, cells := 0, slots := 0, locals := 47 } : Room) s m ([.ref (z + 134), .int a1, .int a2] : List Value).toArray below meth c G z 8 (MQ below (Qp G z n (fun r v => TN G z g uu0 v ∧ r = none)) ([.ref (z + 134), .int a1, .int a2] : List Value).toArray s 0 0 (zA z)) 86 [(4, .int x4_86), (6, .int x6_38), (5, .int x5_38), (3, .int x3_22), (0, .ref (z + 134)), (1, .int a1), (2, .int a2)] [.int y0_86, .int x5_38] u_86 n 0 0 := by
            intro u_86 hT_86 x4_86 y0_86 nl_x3_22_86 nh_x3_22_86 nl_x6_38_86 nh_x6_38_86
            refine x_iadd C dX10_layTalk_86 ?_
            refine x_top (fun w14 ew14 => ?_)
            refine x_istore C [(5, .int w14), (4, .int x4_86), (6, .int x6_38), (3, .int x3_22), (0, .ref (z + 134)), (1, .int a1), (2, .int a2)] dX10_layTalk_87 (by decide) rfl ?_
            have l_1 : (1 : Int32).toInt = 1 := by decide
            obtain ⟨w15, ew15⟩ : ∃ w : Int32, w = x6_38 + Int32.ofInt 1 := ⟨_, rfl⟩
            have fw15 : w15.toInt = x6_38.toInt + (1) := by rw [ew15]; exact i_addk (by decide) (by omega) (by omega)
            refine x_iinc (v := w15) C 2 [(6, .int w15), (5, .int w14), (4, .int x4_86), (3, .int x3_22), (0, .ref (z + 134)), (1, .int a1), (2, .int a2)] dX10_layTalk_89 rfl ew15.symm (by decide) rfl ?_
            refine x_goto C 38 dX10_layTalk_92 (by decide) ?_
            exact ih38 (9 - w15.toInt).toNat (by omega) u_86 hT_86 w15 (by omega) (by omega) w14 x4_86 (by omega) (by omega) rfl
          refine x_iload C 0 dX10_layTalk_38 rfl ?_
          refine x_aload_n C 4 dX10_layTalk_40 rfl rfl ?_
          obtain ⟨c16_0, c16_2, c16_3, c16_4, c16_5, c16_6, c16_7, c16_8, c16_9, c16_15, c16_16, c16_17, c16_18, c16_25, c16_26, c16_28, c16_30, c16_31, c16_32, c16_34, c16_37, hc16, qc16_0, qc16_1, qc16_2, qc16_3, qc16_4, qc16_5, qc16_6, qc16_7, qc16_8, qc16_9, qc16_10, qc16_11, qc16_12, qc16_13, qc16_14, qc16_15, qc16_16, qc16_17, qc16_18, qc16_19, qc16_20, qc16_21, qc16_22, qc16_23, qc16_24, qc16_25, qc16_26, qc16_27, qc16_28⟩ := tn_134 hT_38
          refine gfX10_153 C dX10_layTalk_41 hc16 rfl ?_
          refine x_icmp_ge C 95 dX10_layTalk_44 (by decide) (fun q17 => ?_) (fun q17 => ?_)
          · have rq17 : x6_38.toInt ≥ c16_17.toInt := by rw [Int32.le_iff_toInt_le] at q17; omega
            refine x_iload C 2 dX10_layTalk_95 rfl ?_
            refine x_iload C 2 dX10_layTalk_97 rfl ?_
            refine x_ineg C dX10_layTalk_99 ?_
            refine x_top (fun w18 ew18 => ?_)
            refine x_iand C dX10_layTalk_100 ?_
            refine x_top (fun w19 ew19 => ?_)
            refine x_iconst (v := (1 : Int32)) C dX10_layTalk_101 (by decide) ?_
            refine x_isub C dX10_layTalk_102 ?_
            have l_1 : (1 : Int32).toInt = 1 := by decide
            refine x_top (fun w20 ew20 => ?_)
            refine x_callSP C cl_X10_bits kmX10_172 (As := [.int w20]) (rest := []) (tc_X10_bits u_38 hT_38.1 w20) rfl rfl (Nat.le_of_ble_eq_true rfl) ⟨Nat.le_of_ble_eq_true rfl, Nat.le_of_ble_eq_true rfl⟩ ⟨Nat.le_of_ble_eq_true rfl, Nat.le_of_ble_eq_true rfl⟩ dX10_layTalk_103 ?_
            rintro _ _ ⟨rfl, r21, rfl, gr21⟩
            refine x_norm (st2 := [.int r21]) rfl rfl rfl rfl rfl ?_
            refine x_istore C [(6, .int r21), (5, .int x5_38), (4, .int x4_38), (3, .int x3_22), (0, .ref (z + 134)), (1, .int a1), (2, .int a2)] dX10_layTalk_106 (by decide) rfl ?_
            refine x_iload C 1 dX10_layTalk_108 rfl ?_
            refine x_aload_n C 4 dX10_layTalk_110 rfl rfl ?_
            refine gfX10_264 C dX10_layTalk_111 hc16 rfl ?_
            refine x_icmp_gt C 157 dX10_layTalk_114 (by decide) (fun q23 => ?_) (fun q23 => ?_)
            · have rq23 : x5_38.toInt > c16_30.toInt := by rw [Int32.lt_iff_toInt_lt] at q23; omega
              exact J157 u_38 hT_38 r21 x5_38 x4_38 (by omega) (by omega)
            · have rq23 : x5_38.toInt ≤ c16_30.toInt := by rw [Int32.lt_iff_toInt_lt] at q23; omega
              refine x_iload C 1 dX10_layTalk_117 rfl ?_
              refine x_aload_n C 4 dX10_layTalk_119 rfl rfl ?_
              refine gfX10_264 C dX10_layTalk_120 hc16 rfl ?_
              refine x_icmp_ne C 161 dX10_layTalk_123 (by decide) (fun q24 => ?_) (fun q24 => ?_)
              · have rq24 : ¬ x5_38.toInt = c16_30.toInt := by rw [i_eq_iff] at q24; omega
                exact J161 u_38 hT_38 r21 x5_38 x4_38 (by omega) (by omega)
              · have rq24 : x5_38.toInt = c16_30.toInt := by rw [i_eq_iff] at q24; omega
                refine x_iload_n C 3 dX10_layTalk_126 rfl rfl ?_
                refine x_callSP C cl_X10_bits kmX10_172 (As := [.int x3_22]) (rest := []) (tc_X10_bits u_38 hT_38.1 x3_22) rfl rfl (Nat.le_of_ble_eq_true rfl) ⟨Nat.le_of_ble_eq_true rfl, Nat.le_of_ble_eq_true rfl⟩ ⟨Nat.le_of_ble_eq_true rfl, Nat.le_of_ble_eq_true rfl⟩ dX10_layTalk_127 ?_
                rintro _ _ ⟨rfl, r25, rfl, gr25⟩
                refine x_norm (st2 := [.int r25]) rfl rfl rfl rfl rfl ?_
                refine x_aload_n C 4 dX10_layTalk_130 rfl rfl ?_
                refine gfX10_270 C dX10_layTalk_131 hc16 rfl ?_
                refine x_icmp_lt C 157 dX10_layTalk_134 (by decide) (fun q27 => ?_) (fun q27 => ?_)
                · have rq27 : r25.toInt < c16_32.toInt := by rw [Int32.lt_iff_toInt_lt] at q27; omega
                  exact J157 u_38 hT_38 r21 x5_38 x4_38 (by omega) (by omega)
                · have rq27 : r25.toInt ≥ c16_32.toInt := by rw [Int32.lt_iff_toInt_lt] at q27; omega
                  refine x_iload_n C 3 dX10_layTalk_137 rfl rfl ?_
                  refine x_callSP C cl_X10_bits kmX10_172 (As := [.int x3_22]) (rest := []) (tc_X10_bits u_38 hT_38.1 x3_22) rfl rfl (Nat.le_of_ble_eq_true rfl) ⟨Nat.le_of_ble_eq_true rfl, Nat.le_of_ble_eq_true rfl⟩ ⟨Nat.le_of_ble_eq_true rfl, Nat.le_of_ble_eq_true rfl⟩ dX10_layTalk_138 ?_
                  rintro _ _ ⟨rfl, r28, rfl, gr28⟩
                  refine x_norm (st2 := [.int r28]) rfl rfl rfl rfl rfl ?_
                  refine x_aload_n C 4 dX10_layTalk_141 rfl rfl ?_
                  refine gfX10_270 C dX10_layTalk_142 hc16 rfl ?_
                  refine x_icmp_ne C 161 dX10_layTalk_145 (by decide) (fun q30 => ?_) (fun q30 => ?_)
                  · have rq30 : ¬ r28.toInt = c16_32.toInt := by rw [i_eq_iff] at q30; omega
                    exact J161 u_38 hT_38 r21 x5_38 x4_38 (by omega) (by omega)
                  · have rq30 : r28.toInt = c16_32.toInt := by rw [i_eq_iff] at q30; omega
                    refine x_iload C 0 dX10_layTalk_148 rfl ?_
                    refine x_aload_n C 4 dX10_layTalk_150 rfl rfl ?_
                    refine gfX10_267 C dX10_layTalk_151 hc16 rfl ?_
                    refine x_icmp_ge C 161 dX10_layTalk_154 (by decide) (fun q31 => ?_) (fun q31 => ?_)
                    · have rq31 : r21.toInt ≥ c16_31.toInt := by rw [Int32.le_iff_toInt_le] at q31; omega
                      exact J161 u_38 hT_38 r21 x5_38 x4_38 (by omega) (by omega)
                    · have rq31 : r21.toInt < c16_31.toInt := by rw [Int32.le_iff_toInt_le] at q31; omega
                      exact J157 u_38 hT_38 r21 x5_38 x4_38 (by omega) (by omega)
          · have rq17 : x6_38.toInt < c16_17.toInt := by rw [Int32.le_iff_toInt_le] at q17; omega
            refine x_iload C 2 dX10_layTalk_47 rfl ?_
            refine x_aload_n C 4 dX10_layTalk_49 rfl rfl ?_
            refine gfX10_53 C dX10_layTalk_50 hc16 rfl ?_
            refine x_bipush (v := (8 : Int32)) C dX10_layTalk_53 (by decide) ?_
            refine x_iload_n C 3 dX10_layTalk_55 rfl rfl ?_
            refine x_imul C dX10_layTalk_56 ?_
            have l_8 : (8 : Int32).toInt = 8 := by decide
            refine x_top (fun w32 ew32 => ?_)
            have fw32_0 : w32.toInt = 8 * x3_22.toInt := by rw [ew32]; exact i_mulkl (by decide) (by omega) (by omega)
            refine x_iload C 0 dX10_layTalk_57 rfl ?_
            refine x_iadd C dX10_layTalk_59 ?_
            refine x_top (fun w33 ew33 => ?_)
            have fw33_0 : w33.toInt = w32.toInt + x6_38.toInt := by rw [ew33]; exact i_add (by omega) (by omega)
            obtain ⟨f34, hf34⟩ := tn_148 hT_38
            refine x_iald C hf34 (i_in (by omega) (by omega)) dX10_layTalk_60 ?_
            refine x_top (fun w35 ew35 => ?_)
            refine x_ior C dX10_layTalk_61 ?_
            refine x_top (fun w36 ew36 => ?_)
            refine x_istore C [(4, .int w36), (6, .int x6_38), (5, .int x5_38), (3, .int x3_22), (0, .ref (z + 134)), (1, .int a1), (2, .int a2)] dX10_layTalk_62 (by decide) rfl ?_
            refine x_iload C 2 dX10_layTalk_64 rfl ?_
            refine x_iload_n C 3 dX10_layTalk_66 rfl rfl ?_
            refine x_iload C 1 dX10_layTalk_67 rfl ?_
            refine x_callSP C cl_X10_has kmX10_168 (As := [.int x3_22, .int x6_38]) (rest := [.int x5_38]) (tc_X10_has u_38 hT_38.1 x3_22 x6_38) rfl rfl (Nat.le_of_ble_eq_true rfl) ⟨Nat.le_of_ble_eq_true rfl, Nat.le_of_ble_eq_true rfl⟩ ⟨Nat.le_of_ble_eq_true rfl, Nat.le_of_ble_eq_true rfl⟩ dX10_layTalk_69 ?_
            rintro _ _ ⟨rfl, r37, rfl, gr37⟩
            refine x_norm (st2 := [.int r37, .int x5_38]) rfl rfl rfl rfl rfl ?_
            have l_0 : (0 : Int32).toInt = 0 := by decide
            refine x_if_eq C 85 dX10_layTalk_72 (by decide) (fun q39 => ?_) (fun q39 => ?_)
            · have rq39 : r37.toInt = (0 : Int32).toInt := by rw [i_eq_iff] at q39; omega
              refine x_iconst (v := (0 : Int32)) C dX10_layTalk_85 (by decide) ?_
              exact J86 u_38 hT_38 w36 (0 : Int32) (by omega) (by omega) (by omega) (by omega)
            · have rq39 : ¬ r37.toInt = (0 : Int32).toInt := by rw [i_eq_iff] at q39; omega
              refine x_aload_n C 4 dX10_layTalk_75 rfl rfl ?_
              refine x_iload_n C 5 dX10_layTalk_76 rfl rfl ?_
              refine x_iload C 1 dX10_layTalk_77 rfl ?_
              refine x_callVP C cl_X10_stayOf kmX10_200 (ci := 9) (b := 134) (As := [.int a1, .int x6_38]) (rest := [.int x5_38]) rfl hc16 (tc_X10_stayOf u_38 hT_38.1 a1 x6_38 (by omega) (by omega) (by omega) (by omega)) rfl rfl (Nat.le_of_ble_eq_true rfl) ⟨Nat.le_of_ble_eq_true rfl, Nat.le_of_ble_eq_true rfl⟩ ⟨Nat.le_of_ble_eq_true rfl, Nat.le_of_ble_eq_true rfl⟩ dX10_layTalk_79 ?_
              rintro _ _ ⟨rfl, r40, rfl, gr40⟩
              refine x_norm (st2 := [.int r40, .int x5_38]) rfl rfl rfl rfl rfl ?_
              refine x_goto C 86 dX10_layTalk_82 (by decide) ?_
              exact J86 u_38 hT_38 w36 r40 (by omega) (by omega) (by omega) (by omega)
      refine x_iload_n C 0 dX10_layTalk_22 rfl rfl ?_
      refine x_sipush (v := (256 : Int32)) C dX10_layTalk_23 (by decide) ?_
      have l_256 : (256 : Int32).toInt = 256 := by decide
      refine x_icmp_ge C 205 dX10_layTalk_26 (by decide) (fun q42 => ?_) (fun q42 => ?_)
      · have rq42 : x3_22.toInt ≥ (256 : Int32).toInt := by rw [Int32.le_iff_toInt_le] at q42; omega
        exact x_vretP C hr hlk (Nat.le_refl _) (Nat.le_refl _) dX10_layTalk_205 ⟨hT_22, rfl⟩
      · have rq42 : x3_22.toInt < (256 : Int32).toInt := by rw [Int32.le_iff_toInt_le] at q42; omega
        refine x_iconst (v := (0 : Int32)) C dX10_layTalk_29 (by decide) ?_
        refine x_istore C [(4, .int (0 : Int32)), (3, .int x3_22), (0, .ref (z + 134)), (1, .int a1), (2, .int a2)] dX10_layTalk_30 (by decide) rfl ?_
        refine x_iconst (v := (0 : Int32)) C dX10_layTalk_32 (by decide) ?_
        refine x_istore C [(5, .int (0 : Int32)), (4, .int (0 : Int32)), (3, .int x3_22), (0, .ref (z + 134)), (1, .int a1), (2, .int a2)] dX10_layTalk_33 (by decide) rfl ?_
        refine x_iconst (v := (0 : Int32)) C dX10_layTalk_35 (by decide) ?_
        refine x_istore C [(6, .int (0 : Int32)), (5, .int (0 : Int32)), (4, .int (0 : Int32)), (3, .int x3_22), (0, .ref (z + 134)), (1, .int a1), (2, .int a2)] dX10_layTalk_36 (by decide) rfl ?_
        have l_0 : (0 : Int32).toInt = 0 := by decide
        exact J38 (9 - (0 : Int32).toInt).toNat u_22 hT_22 (0 : Int32) (by omega) (by omega) (0 : Int32) (0 : Int32) (by omega) (by omega) rfl
  refine x_aload_n C 0 dX10_layTalk_0 rfl rfl ?_
  refine x_iload_n C 2 dX10_layTalk_1 rfl rfl ?_
  obtain ⟨c43_0, c43_2, c43_3, c43_4, c43_5, c43_6, c43_7, c43_8, c43_9, c43_15, c43_16, c43_17, c43_18, c43_25, c43_26, c43_28, c43_30, c43_31, c43_32, c43_34, c43_37, hc43, qc43_0, qc43_1, qc43_2, qc43_3, qc43_4, qc43_5, qc43_6, qc43_7, qc43_8, qc43_9, qc43_10, qc43_11, qc43_12, qc43_13, qc43_14, qc43_15, qc43_16, qc43_17, qc43_18, qc43_19, qc43_20, qc43_21, qc43_22, qc43_23, qc43_24, qc43_25, qc43_26, qc43_27, qc43_28⟩ := tn_134 hTy0
  refine x_callVP C cl_X10_layTalks kmX10_261 (ci := 9) (b := 134) (As := [.int a2]) (rest := []) rfl hc43 (tc_X10_layTalks uu0 hTy0.1 a2) rfl rfl (Nat.le_of_ble_eq_true rfl) ⟨Nat.le_of_ble_eq_true rfl, Nat.le_of_ble_eq_true rfl⟩ ⟨Nat.le_of_ble_eq_true rfl, Nat.le_of_ble_eq_true rfl⟩ dX10_layTalk_2 ?_
  rintro _ u44 ⟨ju44, rfl⟩
  have hTu44 := hTy0.tr ju44
  refine x_norm (st2 := []) rfl rfl rfl rfl rfl ?_
  refine x_aload_n C 0 dX10_layTalk_5 rfl rfl ?_
  refine x_iconst (v := (0 : Int32)) C dX10_layTalk_6 (by decide) ?_
  obtain ⟨c45_0, c45_2, c45_3, c45_4, c45_5, c45_6, c45_7, c45_8, c45_9, c45_15, c45_16, c45_17, c45_18, c45_25, c45_26, c45_28, c45_30, c45_31, c45_32, c45_34, c45_37, hc45, qc45_0, qc45_1, qc45_2, qc45_3, qc45_4, qc45_5, qc45_6, qc45_7, qc45_8, qc45_9, qc45_10, qc45_11, qc45_12, qc45_13, qc45_14, qc45_15, qc45_16, qc45_17, qc45_18, qc45_19, qc45_20, qc45_21, qc45_22, qc45_23, qc45_24, qc45_25, qc45_26, qc45_27, qc45_28⟩ := tn_134 hTu44
  have l_0 : (0 : Int32).toInt = 0 := by decide
  obtain ⟨u46, eu46⟩ : ∃ w : HpT, w = hup u44 134 (.inr (9, [.int c45_0, .ref (z + 135), .int c45_2, .int c45_3, .int c45_4, .int c45_5, .int c45_6, .int c45_7, .int c45_8, .int c45_9, .ref (z + 136), .ref (z + 137), .ref (z + 138), .ref (z + 139), .ref (z + 140), .int c45_15, .int c45_16, .int c45_17, .int c45_18, .ref (z + 141), .ref (z + 142), .ref (z + 143), .ref (z + 144), .ref (z + 145), .ref (z + 146), .int c45_25, .int c45_26, .ref (z + 147), .long c45_28, .ref (z + 148), .int (0 : Int32), .int c45_31, .int c45_32, .ref (z + 149), .int c45_34, .ref (z + 150), .ref (z + 151), .int c45_37, .ref (z + 152), .ref (z + 153), .ref (z + 154), .ref (z + 155), .ref (z + 156)])) := ⟨_, rfl⟩
  refine pfX10_264 C dX10_layTalk_7 hc45 (Nat.le_of_ble_eq_true rfl) rfl eu46.symm ?_
  have hTu46 : TN G z g uu0 u46 := by rw [eu46]; exact hTu44.up_134 (by omega)
  have hn47 := (congrFun eu46 134).trans (hup_s _ _ _)
  refine x_aload_n C 0 dX10_layTalk_10 rfl rfl ?_
  refine x_iconst (v := (-1 : Int32)) C dX10_layTalk_11 (by decide) ?_
  have l_m1 : (-1 : Int32).toInt = -1 := by decide
  obtain ⟨u48, eu48⟩ : ∃ w : HpT, w = hup u46 134 (.inr (9, [.int c45_0, .ref (z + 135), .int c45_2, .int c45_3, .int c45_4, .int c45_5, .int c45_6, .int c45_7, .int c45_8, .int c45_9, .ref (z + 136), .ref (z + 137), .ref (z + 138), .ref (z + 139), .ref (z + 140), .int c45_15, .int c45_16, .int c45_17, .int c45_18, .ref (z + 141), .ref (z + 142), .ref (z + 143), .ref (z + 144), .ref (z + 145), .ref (z + 146), .int c45_25, .int c45_26, .ref (z + 147), .long c45_28, .ref (z + 148), .int (0 : Int32), .int (-1 : Int32), .int c45_32, .ref (z + 149), .int c45_34, .ref (z + 150), .ref (z + 151), .int c45_37, .ref (z + 152), .ref (z + 153), .ref (z + 154), .ref (z + 155), .ref (z + 156)])) := ⟨_, rfl⟩
  refine pfX10_267 C dX10_layTalk_12 hn47 (Nat.le_of_ble_eq_true rfl) rfl eu48.symm ?_
  have hTu48 : TN G z g uu0 u48 := by rw [eu48]; exact hTu46.up_134 (by omega)
  have hn49 := (congrFun eu48 134).trans (hup_s _ _ _)
  refine x_aload_n C 0 dX10_layTalk_15 rfl rfl ?_
  refine x_iconst (v := (0 : Int32)) C dX10_layTalk_16 (by decide) ?_
  obtain ⟨u50, eu50⟩ : ∃ w : HpT, w = hup u48 134 (.inr (9, [.int c45_0, .ref (z + 135), .int c45_2, .int c45_3, .int c45_4, .int c45_5, .int c45_6, .int c45_7, .int c45_8, .int c45_9, .ref (z + 136), .ref (z + 137), .ref (z + 138), .ref (z + 139), .ref (z + 140), .int c45_15, .int c45_16, .int c45_17, .int c45_18, .ref (z + 141), .ref (z + 142), .ref (z + 143), .ref (z + 144), .ref (z + 145), .ref (z + 146), .int c45_25, .int c45_26, .ref (z + 147), .long c45_28, .ref (z + 148), .int (0 : Int32), .int (-1 : Int32), .int (0 : Int32), .ref (z + 149), .int c45_34, .ref (z + 150), .ref (z + 151), .int c45_37, .ref (z + 152), .ref (z + 153), .ref (z + 154), .ref (z + 155), .ref (z + 156)])) := ⟨_, rfl⟩
  refine pfX10_270 C dX10_layTalk_17 hn49 (Nat.le_of_ble_eq_true rfl) rfl eu50.symm ?_
  have hTu50 : TN G z g uu0 u50 := by rw [eu50]; exact hTu48.up_134 (by omega)
  have hn51 := (congrFun eu50 134).trans (hup_s _ _ _)
  refine x_iconst (v := (1 : Int32)) C dX10_layTalk_20 (by decide) ?_
  refine x_istore_n C [(3, .int (1 : Int32)), (0, .ref (z + 134)), (1, .int a1), (2, .int a2)] dX10_layTalk_21 rfl (by decide) rfl ?_
  have l_1 : (1 : Int32).toInt = 1 := by decide
  exact J22 (257 - (1 : Int32).toInt).toNat u50 hTu50 (1 : Int32) (by omega) (by omega) rfl
set_option maxRecDepth 20000 in
set_option maxHeartbeats 2000000 in
theorem tc_X10_talk {G : GT} {l : Launch} {z n : Nat} {g : Nat → Int} (uu0 : HpT) (hTz0 : TyN G z g uu0) (a1 : Int32) (a2 : Int32) : Mp G l z yX10_talk cX10_talk 3 (some .int) { frames := 3, cells := 0, slots := 0, locals := 74 } [.ref (z + 134), .int a1, .int a2] uu0 n (fun r v => TN G z g uu0 v ∧ ∃ x : Int32, r = some (.int x) ∧ True) := by
  refine mp_of (by decide +kernel) (Nat.le_of_ble_eq_true rfl) ?_
  intro p e s m below meth c C hr hlk hnm
  have hTy0 : TN G z g uu0 uu0 := TN.rf hTz0
  refine x_aload_n C 0 dX10_talk_0 rfl rfl ?_
  refine x_iload_n C 1 dX10_talk_1 rfl rfl ?_
  obtain ⟨c2_0, c2_2, c2_3, c2_4, c2_5, c2_6, c2_7, c2_8, c2_9, c2_15, c2_16, c2_17, c2_18, c2_25, c2_26, c2_28, c2_30, c2_31, c2_32, c2_34, c2_37, hc2, qc2_0, qc2_1, qc2_2, qc2_3, qc2_4, qc2_5, qc2_6, qc2_7, qc2_8, qc2_9, qc2_10, qc2_11, qc2_12, qc2_13, qc2_14, qc2_15, qc2_16, qc2_17, qc2_18, qc2_19, qc2_20, qc2_21, qc2_22, qc2_23, qc2_24, qc2_25, qc2_26, qc2_27, qc2_28⟩ := tn_134 hTy0
  refine x_callVP C cl_X10_isTraveller kmX10_203 (ci := 9) (b := 134) (As := [.int a1]) (rest := []) rfl hc2 (tc_X10_isTraveller uu0 hTy0.1 a1) rfl rfl (Nat.le_of_ble_eq_true rfl) ⟨Nat.le_of_ble_eq_true rfl, Nat.le_of_ble_eq_true rfl⟩ ⟨Nat.le_of_ble_eq_true rfl, Nat.le_of_ble_eq_true rfl⟩ dX10_talk_2 ?_
  rintro _ _ ⟨rfl, r1, rfl, gr1⟩
  refine x_norm (st2 := [.int r1]) rfl rfl rfl rfl rfl ?_
  have l_0 : (0 : Int32).toInt = 0 := by decide
  refine x_if_ne C 11 dX10_talk_5 (by decide) (fun q4 => ?_) (fun q4 => ?_)
  · have rq4 : ¬ r1.toInt = (0 : Int32).toInt := by rw [i_eq_iff] at q4; omega
    refine x_iload_n C 2 dX10_talk_11 rfl rfl ?_
    refine x_iconst (v := (0 : Int32)) C dX10_talk_12 (by decide) ?_
    refine x_iconst (v := (3 : Int32)) C dX10_talk_13 (by decide) ?_
    have l_3 : (3 : Int32).toInt = 3 := by decide
    refine x_callSP C cl_X10_in kmX10_82 (As := [.int a2, .int (0 : Int32), .int (3 : Int32)]) (rest := []) (tc_X10_in uu0 hTy0.1 a2 (0 : Int32) (3 : Int32)) rfl rfl (Nat.le_of_ble_eq_true rfl) ⟨Nat.le_of_ble_eq_true rfl, Nat.le_of_ble_eq_true rfl⟩ ⟨Nat.le_of_ble_eq_true rfl, Nat.le_of_ble_eq_true rfl⟩ dX10_talk_14 ?_
    rintro _ _ ⟨rfl, r5, rfl, gr5⟩
    refine x_norm (st2 := [.int r5]) rfl rfl rfl rfl rfl ?_
    refine x_if_ne C 23 dX10_talk_17 (by decide) (fun q7 => ?_) (fun q7 => ?_)
    · have rq7 : ¬ r5.toInt = (0 : Int32).toInt := by rw [i_eq_iff] at q7; omega
      refine x_aload_n C 0 dX10_talk_23 rfl rfl ?_
      refine x_iload_n C 1 dX10_talk_24 rfl rfl ?_
      refine x_aload_n C 0 dX10_talk_25 rfl rfl ?_
      refine gfX10_47 C dX10_talk_26 hc2 rfl ?_
      refine x_iconst (v := (3 : Int32)) C dX10_talk_29 (by decide) ?_
      obtain ⟨f8, hf8, qf8_0⟩ := tn_146 hTy0
      refine x_iald C hf8 (i_in (by omega) (by omega)) dX10_talk_30 ?_
      refine x_top (fun w9 ew9 => ?_)
      have fw9_0 : ((3 : Int32).toInt = 4 → -1 ≤ w9.toInt ∧ w9.toInt ≤ 6 * g 0 - 1) ∧ ((3 : Int32).toInt = 6 → -1 ≤ w9.toInt ∧ w9.toInt ≤ 7) := by rw [ew9]; exact ap_get (P := fun (i x : Int) => (i = 4 → -1 ≤ x ∧ x ≤ 6 * g 0 - 1) ∧ (i = 6 → -1 ≤ x ∧ x ≤ 7)) qf8_0 (by omega) (by omega)
      refine x_callVP C cl_X10_layTalk kmX10_273 (ci := 9) (b := 134) (As := [.int a1, .int w9]) (rest := []) rfl hc2 (tc_X10_layTalk uu0 hTy0.1 a1 w9 (by omega) (by omega)) rfl rfl (Nat.le_of_ble_eq_true rfl) ⟨Nat.le_of_ble_eq_true rfl, Nat.le_of_ble_eq_true rfl⟩ ⟨Nat.le_of_ble_eq_true rfl, Nat.le_of_ble_eq_true rfl⟩ dX10_talk_31 ?_
      rintro _ u10 ⟨ju10, rfl⟩
      have hTu10 := hTy0.tr ju10
      refine x_norm (st2 := []) rfl rfl rfl rfl rfl ?_
      refine x_iload_n C 2 dX10_talk_34 rfl rfl ?_
      refine x_if_ne C 45 dX10_talk_35 (by decide) (fun q11 => ?_) (fun q11 => ?_)
      · have rq11 : ¬ a2.toInt = (0 : Int32).toInt := by rw [i_eq_iff] at q11; omega
        refine x_iload_n C 2 dX10_talk_45 rfl rfl ?_
        refine x_iconst (v := (1 : Int32)) C dX10_talk_46 (by decide) ?_
        have l_1 : (1 : Int32).toInt = 1 := by decide
        refine x_icmp_ne C 57 dX10_talk_47 (by decide) (fun q12 => ?_) (fun q12 => ?_)
        · have rq12 : ¬ a2.toInt = (1 : Int32).toInt := by rw [i_eq_iff] at q12; omega
          refine x_iload_n C 2 dX10_talk_57 rfl rfl ?_
          refine x_iconst (v := (2 : Int32)) C dX10_talk_58 (by decide) ?_
          have l_2 : (2 : Int32).toInt = 2 := by decide
          refine x_icmp_ne C 69 dX10_talk_59 (by decide) (fun q13 => ?_) (fun q13 => ?_)
          · have rq13 : ¬ a2.toInt = (2 : Int32).toInt := by rw [i_eq_iff] at q13; omega
            refine x_aload_n C 0 dX10_talk_69 rfl rfl ?_
            refine x_aload_n C 0 dX10_talk_70 rfl rfl ?_
            obtain ⟨c14_0, c14_2, c14_3, c14_4, c14_5, c14_6, c14_7, c14_8, c14_9, c14_15, c14_16, c14_17, c14_18, c14_25, c14_26, c14_28, c14_30, c14_31, c14_32, c14_34, c14_37, hc14, qc14_0, qc14_1, qc14_2, qc14_3, qc14_4, qc14_5, qc14_6, qc14_7, qc14_8, qc14_9, qc14_10, qc14_11, qc14_12, qc14_13, qc14_14, qc14_15, qc14_16, qc14_17, qc14_18, qc14_19, qc14_20, qc14_21, qc14_22, qc14_23, qc14_24, qc14_25, qc14_26, qc14_27, qc14_28⟩ := tn_134 hTu10
            refine gfX10_264 C dX10_talk_71 hc14 rfl ?_
            refine x_callVP C cl_X10_payFor kmX10_223 (ci := 9) (b := 134) (As := [.int c14_30]) (rest := []) rfl hc14 (tc_X10_payFor u10 hTu10.1 c14_30 (by omega)) rfl rfl (Nat.le_of_ble_eq_true rfl) ⟨Nat.le_of_ble_eq_true rfl, Nat.le_of_ble_eq_true rfl⟩ ⟨Nat.le_of_ble_eq_true rfl, Nat.le_of_ble_eq_true rfl⟩ dX10_talk_74 ?_
            rintro _ _ ⟨rfl, r15, rfl, gr15⟩
            refine x_norm (st2 := [.int r15]) rfl rfl rfl rfl rfl ?_
            exact x_iretP C hr hlk (Nat.le_refl _) (Nat.le_refl _) dX10_talk_77 ⟨hTu10, r15, rfl, trivial⟩
          · have rq13 : a2.toInt = (2 : Int32).toInt := by rw [i_eq_iff] at q13; omega
            refine x_aload_n C 0 dX10_talk_62 rfl rfl ?_
            obtain ⟨c17_0, c17_2, c17_3, c17_4, c17_5, c17_6, c17_7, c17_8, c17_9, c17_15, c17_16, c17_17, c17_18, c17_25, c17_26, c17_28, c17_30, c17_31, c17_32, c17_34, c17_37, hc17, qc17_0, qc17_1, qc17_2, qc17_3, qc17_4, qc17_5, qc17_6, qc17_7, qc17_8, qc17_9, qc17_10, qc17_11, qc17_12, qc17_13, qc17_14, qc17_15, qc17_16, qc17_17, qc17_18, qc17_19, qc17_20, qc17_21, qc17_22, qc17_23, qc17_24, qc17_25, qc17_26, qc17_27, qc17_28⟩ := tn_134 hTu10
            refine gfX10_270 C dX10_talk_63 hc17 rfl ?_
            refine x_goto C 77 dX10_talk_66 (by decide) ?_
            exact x_iretP C hr hlk (Nat.le_refl _) (Nat.le_refl _) dX10_talk_77 ⟨hTu10, c17_32, rfl, trivial⟩
        · have rq12 : a2.toInt = (1 : Int32).toInt := by rw [i_eq_iff] at q12; omega
          refine x_aload_n C 0 dX10_talk_50 rfl rfl ?_
          obtain ⟨c18_0, c18_2, c18_3, c18_4, c18_5, c18_6, c18_7, c18_8, c18_9, c18_15, c18_16, c18_17, c18_18, c18_25, c18_26, c18_28, c18_30, c18_31, c18_32, c18_34, c18_37, hc18, qc18_0, qc18_1, qc18_2, qc18_3, qc18_4, qc18_5, qc18_6, qc18_7, qc18_8, qc18_9, qc18_10, qc18_11, qc18_12, qc18_13, qc18_14, qc18_15, qc18_16, qc18_17, qc18_18, qc18_19, qc18_20, qc18_21, qc18_22, qc18_23, qc18_24, qc18_25, qc18_26, qc18_27, qc18_28⟩ := tn_134 hTu10
          refine gfX10_267 C dX10_talk_51 hc18 rfl ?_
          refine x_goto C 77 dX10_talk_54 (by decide) ?_
          exact x_iretP C hr hlk (Nat.le_refl _) (Nat.le_refl _) dX10_talk_77 ⟨hTu10, c18_31, rfl, trivial⟩
      · have rq11 : a2.toInt = (0 : Int32).toInt := by rw [i_eq_iff] at q11; omega
        refine x_aload_n C 0 dX10_talk_38 rfl rfl ?_
        obtain ⟨c19_0, c19_2, c19_3, c19_4, c19_5, c19_6, c19_7, c19_8, c19_9, c19_15, c19_16, c19_17, c19_18, c19_25, c19_26, c19_28, c19_30, c19_31, c19_32, c19_34, c19_37, hc19, qc19_0, qc19_1, qc19_2, qc19_3, qc19_4, qc19_5, qc19_6, qc19_7, qc19_8, qc19_9, qc19_10, qc19_11, qc19_12, qc19_13, qc19_14, qc19_15, qc19_16, qc19_17, qc19_18, qc19_19, qc19_20, qc19_21, qc19_22, qc19_23, qc19_24, qc19_25, qc19_26, qc19_27, qc19_28⟩ := tn_134 hTu10
        refine gfX10_264 C dX10_talk_39 hc19 rfl ?_
        refine x_goto C 77 dX10_talk_42 (by decide) ?_
        exact x_iretP C hr hlk (Nat.le_refl _) (Nat.le_refl _) dX10_talk_77 ⟨hTu10, c19_30, rfl, trivial⟩
    · have rq7 : r5.toInt = (0 : Int32).toInt := by rw [i_eq_iff] at q7; omega
      refine x_ldc C kcX10_86 dX10_talk_20 ?_
      have l_m1000000002 : (-1000000002 : Int32).toInt = -1000000002 := by decide
      exact x_iretP C hr hlk (Nat.le_refl _) (Nat.le_refl _) dX10_talk_22 ⟨hTy0, (-1000000002 : Int32), rfl, trivial⟩
  · have rq4 : r1.toInt = (0 : Int32).toInt := by rw [i_eq_iff] at q4; omega
    refine x_ldc C kcX10_193 dX10_talk_8 ?_
    have l_m1000000001 : (-1000000001 : Int32).toInt = -1000000001 := by decide
    exact x_iretP C hr hlk (Nat.le_refl _) (Nat.le_refl _) dX10_talk_10 ⟨hTy0, (-1000000001 : Int32), rfl, trivial⟩
set_option maxRecDepth 20000 in
set_option maxHeartbeats 2000000 in
theorem tc_X10_worthOfAll {G : GT} {l : Launch} {z n : Nat} {g : Nat → Int} (uu0 : HpT) (hTz0 : TyN G z g uu0) (a1 : Int32) : Mp G l z yX10_worthOfAll cX10_worthOfAll 4 (some .int) { frames := 3, cells := 0, slots := 0, locals := 74 } [.ref (z + 134), .int a1] uu0 n (fun r v => TN G z g uu0 v ∧ ∃ x : Int32, r = some (.int x) ∧ True) := by
  refine mp_of (by decide +kernel) (Nat.le_of_ble_eq_true rfl) ?_
  intro p e s m below meth c C hr hlk hnm
  have hTy0 : TN G z g uu0 uu0 := TN.rf hTz0
  have zl_a1 : -2147483648 ≤ a1.toInt := Int32.le_toInt a1
  have zh_a1 : a1.toInt ≤ 2147483647 := Int32.toInt_le a1
  have J4 : ∀ (d : Nat) (u_4 : HpT) (hT_4 : TN G z g uu0 u_4) (x3_4 : Int32) (hl_x3_4 : 0 ≤ x3_4.toInt) (hh_x3_4 : x3_4.toInt ≤ 6) (x2_4 : Int32) (hd : d = (7 - x3_4.toInt).toNat), Xw p l e ({ frames := 3, cells := 0, slots := 0, locals := 74 } : Room) s m ([.ref (z + 134), .int a1] : List Value).toArray below meth c G z 4 (MQ below (Qp G z n (fun r v => TN G z g uu0 v ∧ ∃ x : Int32, r = some (.int x) ∧ True)) ([.ref (z + 134), .int a1] : List Value).toArray s 0 0 (zA z)) 4 [(3, .int x3_4), (2, .int x2_4), (0, .ref (z + 134)), (1, .int a1)] [] u_4 n 0 0 := by
    intro d
    induction d using Nat.strongRecOn with
    | _ d ih4 =>
      intro u_4 hT_4 x3_4 hl_x3_4 hh_x3_4 x2_4 hd4
      refine x_iload_n C 0 dX10_worthOfAll_4 rfl rfl ?_
      refine x_aload_n C 2 dX10_worthOfAll_5 rfl rfl ?_
      obtain ⟨c1_0, c1_2, c1_3, c1_4, c1_5, c1_6, c1_7, c1_8, c1_9, c1_15, c1_16, c1_17, c1_18, c1_25, c1_26, c1_28, c1_30, c1_31, c1_32, c1_34, c1_37, hc1, qc1_0, qc1_1, qc1_2, qc1_3, qc1_4, qc1_5, qc1_6, qc1_7, qc1_8, qc1_9, qc1_10, qc1_11, qc1_12, qc1_13, qc1_14, qc1_15, qc1_16, qc1_17, qc1_18, qc1_19, qc1_20, qc1_21, qc1_22, qc1_23, qc1_24, qc1_25, qc1_26, qc1_27, qc1_28⟩ := tn_134 hT_4
      refine gfX10_156 C dX10_worthOfAll_6 hc1 rfl ?_
      refine x_icmp_ge C 35 dX10_worthOfAll_9 (by decide) (fun q2 => ?_) (fun q2 => ?_)
      · have rq2 : x3_4.toInt ≥ c1_18.toInt := by rw [Int32.le_iff_toInt_le] at q2; omega
        refine x_iload_n C 1 dX10_worthOfAll_35 rfl rfl ?_
        exact x_iretP C hr hlk (Nat.le_refl _) (Nat.le_refl _) dX10_worthOfAll_36 ⟨hT_4, x2_4, rfl, trivial⟩
      · have rq2 : x3_4.toInt < c1_18.toInt := by rw [Int32.le_iff_toInt_le] at q2; omega
        refine x_aload_n C 2 dX10_worthOfAll_12 rfl rfl ?_
        refine x_iload_n C 0 dX10_worthOfAll_13 rfl rfl ?_
        refine x_iload_n C 3 dX10_worthOfAll_14 rfl rfl ?_
        refine x_callVP C cl_X10_layTalk kmX10_273 (ci := 9) (b := 134) (As := [.int x3_4, .int a1]) (rest := []) rfl hc1 (tc_X10_layTalk u_4 hT_4.1 x3_4 a1 (by omega) (by omega)) rfl rfl (Nat.le_of_ble_eq_true rfl) ⟨Nat.le_of_ble_eq_true rfl, Nat.le_of_ble_eq_true rfl⟩ ⟨Nat.le_of_ble_eq_true rfl, Nat.le_of_ble_eq_true rfl⟩ dX10_worthOfAll_15 ?_
        rintro _ u3 ⟨ju3, rfl⟩
        have hTu3 := hT_4.tr ju3
        refine x_norm (st2 := []) rfl rfl rfl rfl rfl ?_
        refine x_iload_n C 1 dX10_worthOfAll_18 rfl rfl ?_
        refine x_aload_n C 2 dX10_worthOfAll_19 rfl rfl ?_
        refine x_aload_n C 2 dX10_worthOfAll_20 rfl rfl ?_
        obtain ⟨c4_0, c4_2, c4_3, c4_4, c4_5, c4_6, c4_7, c4_8, c4_9, c4_15, c4_16, c4_17, c4_18, c4_25, c4_26, c4_28, c4_30, c4_31, c4_32, c4_34, c4_37, hc4, qc4_0, qc4_1, qc4_2, qc4_3, qc4_4, qc4_5, qc4_6, qc4_7, qc4_8, qc4_9, qc4_10, qc4_11, qc4_12, qc4_13, qc4_14, qc4_15, qc4_16, qc4_17, qc4_18, qc4_19, qc4_20, qc4_21, qc4_22, qc4_23, qc4_24, qc4_25, qc4_26, qc4_27, qc4_28⟩ := tn_134 hTu3
        refine gfX10_264 C dX10_worthOfAll_21 hc4 rfl ?_
        refine x_callVP C cl_X10_payFor kmX10_223 (ci := 9) (b := 134) (As := [.int c4_30]) (rest := [.int x2_4]) rfl hc4 (tc_X10_payFor u3 hTu3.1 c4_30 (by omega)) rfl rfl (Nat.le_of_ble_eq_true rfl) ⟨Nat.le_of_ble_eq_true rfl, Nat.le_of_ble_eq_true rfl⟩ ⟨Nat.le_of_ble_eq_true rfl, Nat.le_of_ble_eq_true rfl⟩ dX10_worthOfAll_24 ?_
        rintro _ _ ⟨rfl, r5, rfl, gr5⟩
        refine x_norm (st2 := [.int r5, .int x2_4]) rfl rfl rfl rfl rfl ?_
        refine x_iadd C dX10_worthOfAll_27 ?_
        refine x_top (fun w7 ew7 => ?_)
        refine x_istore_n C [(2, .int w7), (3, .int x3_4), (0, .ref (z + 134)), (1, .int a1)] dX10_worthOfAll_28 rfl (by decide) rfl ?_
        have l_1 : (1 : Int32).toInt = 1 := by decide
        obtain ⟨w8, ew8⟩ : ∃ w : Int32, w = x3_4 + Int32.ofInt 1 := ⟨_, rfl⟩
        have fw8 : w8.toInt = x3_4.toInt + (1) := by rw [ew8]; exact i_addk (by decide) (by omega) (by omega)
        refine x_iinc (v := w8) C 1 [(3, .int w8), (2, .int w7), (0, .ref (z + 134)), (1, .int a1)] dX10_worthOfAll_29 rfl ew8.symm (by decide) rfl ?_
        refine x_goto C 4 dX10_worthOfAll_32 (by decide) ?_
        exact ih4 (7 - w8.toInt).toNat (by omega) u3 hTu3 w8 (by omega) (by omega) w7 rfl
  refine x_iconst (v := (0 : Int32)) C dX10_worthOfAll_0 (by decide) ?_
  refine x_istore_n C [(2, .int (0 : Int32)), (0, .ref (z + 134)), (1, .int a1)] dX10_worthOfAll_1 rfl (by decide) rfl ?_
  refine x_iconst (v := (0 : Int32)) C dX10_worthOfAll_2 (by decide) ?_
  refine x_istore_n C [(3, .int (0 : Int32)), (2, .int (0 : Int32)), (0, .ref (z + 134)), (1, .int a1)] dX10_worthOfAll_3 rfl (by decide) rfl ?_
  have l_0 : (0 : Int32).toInt = 0 := by decide
  exact J4 (7 - (0 : Int32).toInt).toNat uu0 hTy0 (0 : Int32) (by omega) (by omega) (0 : Int32) rfl
set_option maxRecDepth 20000 in
set_option maxHeartbeats 2000000 in
theorem tc_X10_bestToLearn {G : GT} {l : Launch} {z n : Nat} {g : Nat → Int} (uu0 : HpT) (hTz0 : TyN G z g uu0) : Mp G l z yX10_bestToLearn cX10_bestToLearn 5 (some .int) { frames := 4, cells := 0, slots := 0, locals := 97 } [.ref (z + 134)] uu0 n (fun r v => TN G z g uu0 v ∧ ∃ x : Int32, r = some (.int x) ∧ True) := by
  refine mp_of (by decide +kernel) (Nat.le_of_ble_eq_true rfl) ?_
  intro p e s m below meth c C hr hlk hnm
  have hTy0 : TN G z g uu0 uu0 := TN.rf hTz0
  have J6 : ∀ (d : Nat) (u_6 : HpT) (hT_6 : TN G z g uu0 u_6) (x3_6 : Int32) (hl_x3_6 : 0 ≤ x3_6.toInt) (hh_x3_6 : x3_6.toInt ≤ 8) (x2_6 : Int32) (hl_x2_6 : -1 ≤ x2_6.toInt) (x1_6 : Int32) (hl_x1_6 : -1 ≤ x1_6.toInt) (hh_x1_6 : x1_6.toInt ≤ 7) (hd : d = (9 - x3_6.toInt).toNat), Xw p l e ({ frames := 4, cells := 0, slots := 0, locals := 97 } : Room) s m ([.ref (z + 134)] : List Value).toArray below meth c G z 5 (MQ below (Qp G z n (fun r v => TN G z g uu0 v ∧ ∃ x : Int32, r = some (.int x) ∧ True)) ([.ref (z + 134)] : List Value).toArray s 0 0 (zA z)) 6 [(3, .int x3_6), (2, .int x2_6), (1, .int x1_6), (0, .ref (z + 134))] [] u_6 n 0 0 := by
    intro d
    induction d using Nat.strongRecOn with
    | _ d ih6 =>
      intro u_6 hT_6 x3_6 hl_x3_6 hh_x3_6 x2_6 hl_x2_6 x1_6 hl_x1_6 hh_x1_6 hd6
      have J71 : ∀ (u_71 : HpT) (hT_71 : TN G z g uu0 u_71) (x1_71 : Int32) (hl_x1_71 : -1 ≤ x1_71.toInt) (hh_x1_71 : x1_71.toInt ≤ 7) (x4_71 : Int32) (y0_71 : Int32) (hl_y0_71 : -1 ≤ y0_71.toInt) (nl_x3_6_71 : 0 ≤ x3_6.toInt) (nh_x3_6_71 : x3_6.toInt ≤ 7), Xw p l e ({ frames := 4, cells := 0, slots := 0, locals := 97 } : Room) s m ([.ref (z + 134)] : List Value).toArray below meth c G z 5 (MQ below (Qp G z n (fun r v => TN G z g uu0 v ∧ ∃ x : Int32, r = some (.int x) ∧ True)) ([.ref (z + 134)] : List Value).toArray s 0 0 (zA z)) 71 [(1, .int x1_71), (4, .int x4_71), (3, .int x3_6), (2, .int x2_6), (0, .ref (z + 134))] [.int y0_71] u_71 n 0 0 := by
        intro u_71 hT_71 x1_71 hl_x1_71 hh_x1_71 x4_71 y0_71 hl_y0_71 nl_x3_6_71 nh_x3_6_71
        refine x_istore_n C [(2, .int y0_71), (1, .int x1_71), (4, .int x4_71), (3, .int x3_6), (0, .ref (z + 134))] dX10_bestToLearn_71 rfl (by decide) rfl ?_
        have l_1 : (1 : Int32).toInt = 1 := by decide
        obtain ⟨w1, ew1⟩ : ∃ w : Int32, w = x3_6 + Int32.ofInt 1 := ⟨_, rfl⟩
        have fw1 : w1.toInt = x3_6.toInt + (1) := by rw [ew1]; exact i_addk (by decide) (by omega) (by omega)
        refine x_iinc (v := w1) C 3 [(3, .int w1), (2, .int y0_71), (1, .int x1_71), (4, .int x4_71), (0, .ref (z + 134))] dX10_bestToLearn_72 rfl ew1.symm (by decide) rfl ?_
        refine x_goto C 6 dX10_bestToLearn_75 (by decide) ?_
        refine x_mv (lo2 := [(3, .int w1), (2, .int y0_71), (1, .int x1_71), (0, .ref (z + 134))]) [0, 1, 2, 4] rfl ?_
        exact ih6 (9 - w1.toInt).toNat (by omega) u_71 hT_71 w1 (by omega) (by omega) y0_71 (by omega) x1_71 (by omega) (by omega) rfl
      have J58 : ∀ (u_58 : HpT) (hT_58 : TN G z g uu0 u_58) (x4_58 : Int32) (y0_58 : Int32) (hl_y0_58 : -1 ≤ y0_58.toInt) (hh_y0_58 : y0_58.toInt ≤ 7) (nl_x3_6_58 : 0 ≤ x3_6.toInt) (nh_x3_6_58 : x3_6.toInt ≤ 7), Xw p l e ({ frames := 4, cells := 0, slots := 0, locals := 97 } : Room) s m ([.ref (z + 134)] : List Value).toArray below meth c G z 5 (MQ below (Qp G z n (fun r v => TN G z g uu0 v ∧ ∃ x : Int32, r = some (.int x) ∧ True)) ([.ref (z + 134)] : List Value).toArray s 0 0 (zA z)) 58 [(4, .int x4_58), (3, .int x3_6), (2, .int x2_6), (1, .int x1_6), (0, .ref (z + 134))] [.int y0_58] u_58 n 0 0 := by
        intro u_58 hT_58 x4_58 y0_58 hl_y0_58 hh_y0_58 nl_x3_6_58 nh_x3_6_58
        refine x_istore_n C [(1, .int y0_58), (4, .int x4_58), (3, .int x3_6), (2, .int x2_6), (0, .ref (z + 134))] dX10_bestToLearn_58 rfl (by decide) rfl ?_
        refine x_iload C 1 dX10_bestToLearn_59 rfl ?_
        refine x_iload_n C 3 dX10_bestToLearn_61 rfl rfl ?_
        refine x_icmp_le C 70 dX10_bestToLearn_62 (by decide) (fun q2 => ?_) (fun q2 => ?_)
        · have rq2 : x4_58.toInt ≤ x2_6.toInt := by rw [Int32.le_iff_toInt_le] at q2; omega
          refine x_iload_n C 3 dX10_bestToLearn_70 rfl rfl ?_
          exact J71 u_58 hT_58 y0_58 (by omega) (by omega) x4_58 x2_6 (by omega) (by omega) (by omega)
        · have rq2 : x4_58.toInt > x2_6.toInt := by rw [Int32.le_iff_toInt_le] at q2; omega
          refine x_iload C 1 dX10_bestToLearn_65 rfl ?_
          refine x_goto C 71 dX10_bestToLearn_67 (by decide) ?_
          exact J71 u_58 hT_58 y0_58 (by omega) (by omega) x4_58 x4_58 (by omega) (by omega) (by omega)
      have J45 : ∀ (u_45 : HpT) (hT_45 : TN G z g uu0 u_45) (y0_45 : Int32) (nl_x3_6_45 : 0 ≤ x3_6.toInt) (nh_x3_6_45 : x3_6.toInt ≤ 7), Xw p l e ({ frames := 4, cells := 0, slots := 0, locals := 97 } : Room) s m ([.ref (z + 134)] : List Value).toArray below meth c G z 5 (MQ below (Qp G z n (fun r v => TN G z g uu0 v ∧ ∃ x : Int32, r = some (.int x) ∧ True)) ([.ref (z + 134)] : List Value).toArray s 0 0 (zA z)) 45 [(3, .int x3_6), (2, .int x2_6), (1, .int x1_6), (0, .ref (z + 134))] [.int y0_45] u_45 n 0 0 := by
        intro u_45 hT_45 y0_45 nl_x3_6_45 nh_x3_6_45
        refine x_istore C [(4, .int y0_45), (3, .int x3_6), (2, .int x2_6), (1, .int x1_6), (0, .ref (z + 134))] dX10_bestToLearn_45 (by decide) rfl ?_
        refine x_iload C 0 dX10_bestToLearn_47 rfl ?_
        refine x_iload_n C 2 dX10_bestToLearn_49 rfl rfl ?_
        refine x_icmp_le C 57 dX10_bestToLearn_50 (by decide) (fun q3 => ?_) (fun q3 => ?_)
        · have rq3 : y0_45.toInt ≤ x2_6.toInt := by rw [Int32.le_iff_toInt_le] at q3; omega
          refine x_iload_n C 3 dX10_bestToLearn_57 rfl rfl ?_
          exact J58 u_45 hT_45 y0_45 x1_6 (by omega) (by omega) (by omega) (by omega)
        · have rq3 : y0_45.toInt > x2_6.toInt := by rw [Int32.le_iff_toInt_le] at q3; omega
          refine x_iload_n C 1 dX10_bestToLearn_53 rfl rfl ?_
          refine x_goto C 58 dX10_bestToLearn_54 (by decide) ?_
          exact J58 u_45 hT_45 y0_45 x3_6 (by omega) (by omega) (by omega) (by omega)
      refine x_iload_n C 0 dX10_bestToLearn_6 rfl rfl ?_
      refine x_aload_n C 3 dX10_bestToLearn_7 rfl rfl ?_
      obtain ⟨c4_0, c4_2, c4_3, c4_4, c4_5, c4_6, c4_7, c4_8, c4_9, c4_15, c4_16, c4_17, c4_18, c4_25, c4_26, c4_28, c4_30, c4_31, c4_32, c4_34, c4_37, hc4, qc4_0, qc4_1, qc4_2, qc4_3, qc4_4, qc4_5, qc4_6, qc4_7, qc4_8, qc4_9, qc4_10, qc4_11, qc4_12, qc4_13, qc4_14, qc4_15, qc4_16, qc4_17, qc4_18, qc4_19, qc4_20, qc4_21, qc4_22, qc4_23, qc4_24, qc4_25, qc4_26, qc4_27, qc4_28⟩ := tn_134 hT_6
      refine gfX10_153 C dX10_bestToLearn_8 hc4 rfl ?_
      refine x_icmp_ge C 78 dX10_bestToLearn_11 (by decide) (fun q5 => ?_) (fun q5 => ?_)
      · have rq5 : x3_6.toInt ≥ c4_17.toInt := by rw [Int32.le_iff_toInt_le] at q5; omega
        refine x_iload_n C 2 dX10_bestToLearn_78 rfl rfl ?_
        exact x_iretP C hr hlk (Nat.le_refl _) (Nat.le_refl _) dX10_bestToLearn_79 ⟨hT_6, x1_6, rfl, trivial⟩
      · have rq5 : x3_6.toInt < c4_17.toInt := by rw [Int32.le_iff_toInt_le] at q5; omega
        refine x_aload_n C 3 dX10_bestToLearn_14 rfl rfl ?_
        refine gfX10_47 C dX10_bestToLearn_15 hc4 rfl ?_
        refine x_iconst (v := (3 : Int32)) C dX10_bestToLearn_18 (by decide) ?_
        obtain ⟨f6, hf6, qf6_0⟩ := tn_146 hT_6
        have l_3 : (3 : Int32).toInt = 3 := by decide
        refine x_iald C hf6 (i_in (by omega) (by omega)) dX10_bestToLearn_19 ?_
        refine x_top (fun w7 ew7 => ?_)
        have fw7_0 : ((3 : Int32).toInt = 4 → -1 ≤ w7.toInt ∧ w7.toInt ≤ 6 * g 0 - 1) ∧ ((3 : Int32).toInt = 6 → -1 ≤ w7.toInt ∧ w7.toInt ≤ 7) := by rw [ew7]; exact ap_get (P := fun (i x : Int) => (i = 4 → -1 ≤ x ∧ x ≤ 6 * g 0 - 1) ∧ (i = 6 → -1 ≤ x ∧ x ≤ 7)) qf6_0 (by omega) (by omega)
        refine x_iload_n C 0 dX10_bestToLearn_20 rfl rfl ?_
        refine x_callSP C cl_X10_has kmX10_168 (As := [.int w7, .int x3_6]) (rest := []) (tc_X10_has u_6 hT_6.1 w7 x3_6) rfl rfl (Nat.le_of_ble_eq_true rfl) ⟨Nat.le_of_ble_eq_true rfl, Nat.le_of_ble_eq_true rfl⟩ ⟨Nat.le_of_ble_eq_true rfl, Nat.le_of_ble_eq_true rfl⟩ dX10_bestToLearn_21 ?_
        rintro _ _ ⟨rfl, r8, rfl, gr8⟩
        refine x_norm (st2 := [.int r8]) rfl rfl rfl rfl rfl ?_
        have l_0 : (0 : Int32).toInt = 0 := by decide
        refine x_if_eq C 31 dX10_bestToLearn_24 (by decide) (fun q10 => ?_) (fun q10 => ?_)
        · have rq10 : r8.toInt = (0 : Int32).toInt := by rw [i_eq_iff] at q10; omega
          refine x_aload_n C 3 dX10_bestToLearn_31 rfl rfl ?_
          refine x_aload_n C 3 dX10_bestToLearn_32 rfl rfl ?_
          refine gfX10_47 C dX10_bestToLearn_33 hc4 rfl ?_
          refine x_iconst (v := (3 : Int32)) C dX10_bestToLearn_36 (by decide) ?_
          refine x_iald C hf6 (i_in (by omega) (by omega)) dX10_bestToLearn_37 ?_
          refine x_top (fun w11 ew11 => ?_)
          have fw11_0 : ((3 : Int32).toInt = 4 → -1 ≤ w11.toInt ∧ w11.toInt ≤ 6 * g 0 - 1) ∧ ((3 : Int32).toInt = 6 → -1 ≤ w11.toInt ∧ w11.toInt ≤ 7) := by rw [ew11]; exact ap_get (P := fun (i x : Int) => (i = 4 → -1 ≤ x ∧ x ≤ 6 * g 0 - 1) ∧ (i = 6 → -1 ≤ x ∧ x ≤ 7)) qf6_0 (by omega) (by omega)
          refine x_iconst (v := (1 : Int32)) C dX10_bestToLearn_38 (by decide) ?_
          refine x_iload_n C 0 dX10_bestToLearn_39 rfl rfl ?_
          refine x_ishl C dX10_bestToLearn_40 ?_
          have l_1 : (1 : Int32).toInt = 1 := by decide
          refine x_top (fun w12 ew12 => ?_)
          refine x_ior C dX10_bestToLearn_41 ?_
          refine x_top (fun w13 ew13 => ?_)
          refine x_callVP C cl_X10_worthOfAll kmX10_277 (ci := 9) (b := 134) (As := [.int w13]) (rest := []) rfl hc4 (tc_X10_worthOfAll u_6 hT_6.1 w13) rfl rfl (Nat.le_of_ble_eq_true rfl) ⟨Nat.le_of_ble_eq_true rfl, Nat.le_of_ble_eq_true rfl⟩ ⟨Nat.le_of_ble_eq_true rfl, Nat.le_of_ble_eq_true rfl⟩ dX10_bestToLearn_42 ?_
          rintro _ u15 ⟨ju15, r14, rfl, gr14⟩
          have hTu15 := hT_6.tr ju15
          refine x_norm (st2 := [.int r14]) rfl rfl rfl rfl rfl ?_
          exact J45 u15 hTu15 r14 (by omega) (by omega)
        · have rq10 : ¬ r8.toInt = (0 : Int32).toInt := by rw [i_eq_iff] at q10; omega
          refine x_iconst (v := (-1 : Int32)) C dX10_bestToLearn_27 (by decide) ?_
          refine x_goto C 45 dX10_bestToLearn_28 (by decide) ?_
          have l_m1 : (-1 : Int32).toInt = -1 := by decide
          exact J45 u_6 hT_6 (-1 : Int32) (by omega) (by omega)
  refine x_iconst (v := (-1 : Int32)) C dX10_bestToLearn_0 (by decide) ?_
  refine x_istore_n C [(1, .int (-1 : Int32)), (0, .ref (z + 134))] dX10_bestToLearn_1 rfl (by decide) rfl ?_
  refine x_iconst (v := (-1 : Int32)) C dX10_bestToLearn_2 (by decide) ?_
  refine x_istore_n C [(2, .int (-1 : Int32)), (1, .int (-1 : Int32)), (0, .ref (z + 134))] dX10_bestToLearn_3 rfl (by decide) rfl ?_
  refine x_iconst (v := (0 : Int32)) C dX10_bestToLearn_4 (by decide) ?_
  refine x_istore_n C [(3, .int (0 : Int32)), (2, .int (-1 : Int32)), (1, .int (-1 : Int32)), (0, .ref (z + 134))] dX10_bestToLearn_5 rfl (by decide) rfl ?_
  have l_0 : (0 : Int32).toInt = 0 := by decide
  have l_m1 : (-1 : Int32).toInt = -1 := by decide
  exact J6 (9 - (0 : Int32).toInt).toNat uu0 hTy0 (0 : Int32) (by omega) (by omega) (-1 : Int32) (by omega) (-1 : Int32) (by omega) (by omega) rfl
set_option maxRecDepth 20000 in
set_option maxHeartbeats 2000000 in
theorem tc_X10_told {G : GT} {l : Launch} {z n : Nat} {g : Nat → Int} (uu0 : HpT) (hTz0 : TyN G z g uu0) (a1 : Int32) : Mp G l z yX10_told cX10_told 2 (some .int) { frames := 5, cells := 0, slots := 0, locals := 121 } [.ref (z + 134), .int a1] uu0 n (fun r v => TN G z g uu0 v ∧ ∃ x : Int32, r = some (.int x) ∧ True) := by
  refine mp_of (by decide +kernel) (Nat.le_of_ble_eq_true rfl) ?_
  intro p e s m below meth c C hr hlk hnm
  have hTy0 : TN G z g uu0 uu0 := TN.rf hTz0
  refine x_iload_n C 1 dX10_told_0 rfl rfl ?_
  by_cases sw1 : a1.toInt < 0 ∨ 20 < a1.toInt
  · refine x_tableOut C 223 dX10_told_1 sw1 (by decide) ?_
    refine x_ldc C kcX10_86 dX10_told_223 ?_
    have l_m1000000002 : (-1000000002 : Int32).toInt = -1000000002 := by decide
    exact x_iretP C hr hlk (Nat.le_refl _) (Nat.le_refl _) dX10_told_225 ⟨hTy0, (-1000000002 : Int32), rfl, trivial⟩
  · rcases (by omega : a1.toInt = 0 ∨ a1.toInt = 1 ∨ a1.toInt = 2 ∨ a1.toInt = 3 ∨ a1.toInt = 4 ∨ a1.toInt = 5 ∨ a1.toInt = 6 ∨ a1.toInt = 7 ∨ a1.toInt = 8 ∨ a1.toInt = 9 ∨ a1.toInt = 10 ∨ a1.toInt = 11 ∨ a1.toInt = 12 ∨ a1.toInt = 13 ∨ a1.toInt = 14 ∨ a1.toInt = 15 ∨ a1.toInt = 16 ∨ a1.toInt = 17 ∨ a1.toInt = 18 ∨ a1.toInt = 19 ∨ a1.toInt = 20) with sx | sx | sx | sx | sx | sx | sx | sx | sx | sx | sx | sx | sx | sx | sx | sx | sx | sx | sx | sx | sx
    · refine x_tableIn C 100 dX10_told_1 (by omega) (by omega) (by rw [sx]; rfl) (by decide) ?_
      refine x_aload_n C 0 dX10_told_100 rfl rfl ?_
      obtain ⟨c1_0, c1_2, c1_3, c1_4, c1_5, c1_6, c1_7, c1_8, c1_9, c1_15, c1_16, c1_17, c1_18, c1_25, c1_26, c1_28, c1_30, c1_31, c1_32, c1_34, c1_37, hc1, qc1_0, qc1_1, qc1_2, qc1_3, qc1_4, qc1_5, qc1_6, qc1_7, qc1_8, qc1_9, qc1_10, qc1_11, qc1_12, qc1_13, qc1_14, qc1_15, qc1_16, qc1_17, qc1_18, qc1_19, qc1_20, qc1_21, qc1_22, qc1_23, qc1_24, qc1_25, qc1_26, qc1_27, qc1_28⟩ := tn_134 hTy0
      refine gfX10_147 C dX10_told_101 hc1 rfl ?_
      exact x_iretP C hr hlk (Nat.le_refl _) (Nat.le_refl _) dX10_told_104 ⟨hTy0, c1_15, rfl, trivial⟩
    · refine x_tableIn C 105 dX10_told_1 (by omega) (by omega) (by rw [sx]; rfl) (by decide) ?_
      refine x_aload_n C 0 dX10_told_105 rfl rfl ?_
      obtain ⟨c2_0, c2_2, c2_3, c2_4, c2_5, c2_6, c2_7, c2_8, c2_9, c2_15, c2_16, c2_17, c2_18, c2_25, c2_26, c2_28, c2_30, c2_31, c2_32, c2_34, c2_37, hc2, qc2_0, qc2_1, qc2_2, qc2_3, qc2_4, qc2_5, qc2_6, qc2_7, qc2_8, qc2_9, qc2_10, qc2_11, qc2_12, qc2_13, qc2_14, qc2_15, qc2_16, qc2_17, qc2_18, qc2_19, qc2_20, qc2_21, qc2_22, qc2_23, qc2_24, qc2_25, qc2_26, qc2_27, qc2_28⟩ := tn_134 hTy0
      refine gfX10_150 C dX10_told_106 hc2 rfl ?_
      exact x_iretP C hr hlk (Nat.le_refl _) (Nat.le_refl _) dX10_told_109 ⟨hTy0, c2_16, rfl, trivial⟩
    · refine x_tableIn C 110 dX10_told_1 (by omega) (by omega) (by rw [sx]; rfl) (by decide) ?_
      refine x_aload_n C 0 dX10_told_110 rfl rfl ?_
      obtain ⟨c3_0, c3_2, c3_3, c3_4, c3_5, c3_6, c3_7, c3_8, c3_9, c3_15, c3_16, c3_17, c3_18, c3_25, c3_26, c3_28, c3_30, c3_31, c3_32, c3_34, c3_37, hc3, qc3_0, qc3_1, qc3_2, qc3_3, qc3_4, qc3_5, qc3_6, qc3_7, qc3_8, qc3_9, qc3_10, qc3_11, qc3_12, qc3_13, qc3_14, qc3_15, qc3_16, qc3_17, qc3_18, qc3_19, qc3_20, qc3_21, qc3_22, qc3_23, qc3_24, qc3_25, qc3_26, qc3_27, qc3_28⟩ := tn_134 hTy0
      refine gfX10_153 C dX10_told_111 hc3 rfl ?_
      exact x_iretP C hr hlk (Nat.le_refl _) (Nat.le_refl _) dX10_told_114 ⟨hTy0, c3_17, rfl, trivial⟩
    · refine x_tableIn C 115 dX10_told_1 (by omega) (by omega) (by rw [sx]; rfl) (by decide) ?_
      refine x_aload_n C 0 dX10_told_115 rfl rfl ?_
      obtain ⟨c4_0, c4_2, c4_3, c4_4, c4_5, c4_6, c4_7, c4_8, c4_9, c4_15, c4_16, c4_17, c4_18, c4_25, c4_26, c4_28, c4_30, c4_31, c4_32, c4_34, c4_37, hc4, qc4_0, qc4_1, qc4_2, qc4_3, qc4_4, qc4_5, qc4_6, qc4_7, qc4_8, qc4_9, qc4_10, qc4_11, qc4_12, qc4_13, qc4_14, qc4_15, qc4_16, qc4_17, qc4_18, qc4_19, qc4_20, qc4_21, qc4_22, qc4_23, qc4_24, qc4_25, qc4_26, qc4_27, qc4_28⟩ := tn_134 hTy0
      refine gfX10_156 C dX10_told_116 hc4 rfl ?_
      exact x_iretP C hr hlk (Nat.le_refl _) (Nat.le_refl _) dX10_told_119 ⟨hTy0, c4_18, rfl, trivial⟩
    · refine x_tableIn C 120 dX10_told_1 (by omega) (by omega) (by rw [sx]; rfl) (by decide) ?_
      refine x_aload_n C 0 dX10_told_120 rfl rfl ?_
      obtain ⟨c5_0, c5_2, c5_3, c5_4, c5_5, c5_6, c5_7, c5_8, c5_9, c5_15, c5_16, c5_17, c5_18, c5_25, c5_26, c5_28, c5_30, c5_31, c5_32, c5_34, c5_37, hc5, qc5_0, qc5_1, qc5_2, qc5_3, qc5_4, qc5_5, qc5_6, qc5_7, qc5_8, qc5_9, qc5_10, qc5_11, qc5_12, qc5_13, qc5_14, qc5_15, qc5_16, qc5_17, qc5_18, qc5_19, qc5_20, qc5_21, qc5_22, qc5_23, qc5_24, qc5_25, qc5_26, qc5_27, qc5_28⟩ := tn_134 hTy0
      refine gfX10_87 C dX10_told_121 hc5 rfl ?_
      exact x_iretP C hr hlk (Nat.le_refl _) (Nat.le_refl _) dX10_told_124 ⟨hTy0, c5_0, rfl, trivial⟩
    · refine x_tableIn C 125 dX10_told_1 (by omega) (by omega) (by rw [sx]; rfl) (by decide) ?_
      refine x_aload_n C 0 dX10_told_125 rfl rfl ?_
      obtain ⟨c6_0, c6_2, c6_3, c6_4, c6_5, c6_6, c6_7, c6_8, c6_9, c6_15, c6_16, c6_17, c6_18, c6_25, c6_26, c6_28, c6_30, c6_31, c6_32, c6_34, c6_37, hc6, qc6_0, qc6_1, qc6_2, qc6_3, qc6_4, qc6_5, qc6_6, qc6_7, qc6_8, qc6_9, qc6_10, qc6_11, qc6_12, qc6_13, qc6_14, qc6_15, qc6_16, qc6_17, qc6_18, qc6_19, qc6_20, qc6_21, qc6_22, qc6_23, qc6_24, qc6_25, qc6_26, qc6_27, qc6_28⟩ := tn_134 hTy0
      refine gfX10_47 C dX10_told_126 hc6 rfl ?_
      refine x_iconst (v := (0 : Int32)) C dX10_told_129 (by decide) ?_
      obtain ⟨f7, hf7, qf7_0⟩ := tn_146 hTy0
      have l_0 : (0 : Int32).toInt = 0 := by decide
      refine x_iald C hf7 (i_in (by omega) (by omega)) dX10_told_130 ?_
      refine x_top (fun w8 ew8 => ?_)
      have fw8_0 : ((0 : Int32).toInt = 4 → -1 ≤ w8.toInt ∧ w8.toInt ≤ 6 * g 0 - 1) ∧ ((0 : Int32).toInt = 6 → -1 ≤ w8.toInt ∧ w8.toInt ≤ 7) := by rw [ew8]; exact ap_get (P := fun (i x : Int) => (i = 4 → -1 ≤ x ∧ x ≤ 6 * g 0 - 1) ∧ (i = 6 → -1 ≤ x ∧ x ≤ 7)) qf7_0 (by omega) (by omega)
      exact x_iretP C hr hlk (Nat.le_refl _) (Nat.le_refl _) dX10_told_131 ⟨hTy0, w8, rfl, trivial⟩
    · refine x_tableIn C 132 dX10_told_1 (by omega) (by omega) (by rw [sx]; rfl) (by decide) ?_
      refine x_aload_n C 0 dX10_told_132 rfl rfl ?_
      obtain ⟨c9_0, c9_2, c9_3, c9_4, c9_5, c9_6, c9_7, c9_8, c9_9, c9_15, c9_16, c9_17, c9_18, c9_25, c9_26, c9_28, c9_30, c9_31, c9_32, c9_34, c9_37, hc9, qc9_0, qc9_1, qc9_2, qc9_3, qc9_4, qc9_5, qc9_6, qc9_7, qc9_8, qc9_9, qc9_10, qc9_11, qc9_12, qc9_13, qc9_14, qc9_15, qc9_16, qc9_17, qc9_18, qc9_19, qc9_20, qc9_21, qc9_22, qc9_23, qc9_24, qc9_25, qc9_26, qc9_27, qc9_28⟩ := tn_134 hTy0
      refine gfX10_47 C dX10_told_133 hc9 rfl ?_
      refine x_iconst (v := (1 : Int32)) C dX10_told_136 (by decide) ?_
      obtain ⟨f10, hf10, qf10_0⟩ := tn_146 hTy0
      have l_1 : (1 : Int32).toInt = 1 := by decide
      refine x_iald C hf10 (i_in (by omega) (by omega)) dX10_told_137 ?_
      refine x_top (fun w11 ew11 => ?_)
      have fw11_0 : ((1 : Int32).toInt = 4 → -1 ≤ w11.toInt ∧ w11.toInt ≤ 6 * g 0 - 1) ∧ ((1 : Int32).toInt = 6 → -1 ≤ w11.toInt ∧ w11.toInt ≤ 7) := by rw [ew11]; exact ap_get (P := fun (i x : Int) => (i = 4 → -1 ≤ x ∧ x ≤ 6 * g 0 - 1) ∧ (i = 6 → -1 ≤ x ∧ x ≤ 7)) qf10_0 (by omega) (by omega)
      exact x_iretP C hr hlk (Nat.le_refl _) (Nat.le_refl _) dX10_told_138 ⟨hTy0, w11, rfl, trivial⟩
    · refine x_tableIn C 139 dX10_told_1 (by omega) (by omega) (by rw [sx]; rfl) (by decide) ?_
      refine x_aload_n C 0 dX10_told_139 rfl rfl ?_
      obtain ⟨c12_0, c12_2, c12_3, c12_4, c12_5, c12_6, c12_7, c12_8, c12_9, c12_15, c12_16, c12_17, c12_18, c12_25, c12_26, c12_28, c12_30, c12_31, c12_32, c12_34, c12_37, hc12, qc12_0, qc12_1, qc12_2, qc12_3, qc12_4, qc12_5, qc12_6, qc12_7, qc12_8, qc12_9, qc12_10, qc12_11, qc12_12, qc12_13, qc12_14, qc12_15, qc12_16, qc12_17, qc12_18, qc12_19, qc12_20, qc12_21, qc12_22, qc12_23, qc12_24, qc12_25, qc12_26, qc12_27, qc12_28⟩ := tn_134 hTy0
      refine gfX10_47 C dX10_told_140 hc12 rfl ?_
      refine x_iconst (v := (2 : Int32)) C dX10_told_143 (by decide) ?_
      obtain ⟨f13, hf13, qf13_0⟩ := tn_146 hTy0
      have l_2 : (2 : Int32).toInt = 2 := by decide
      refine x_iald C hf13 (i_in (by omega) (by omega)) dX10_told_144 ?_
      refine x_top (fun w14 ew14 => ?_)
      have fw14_0 : ((2 : Int32).toInt = 4 → -1 ≤ w14.toInt ∧ w14.toInt ≤ 6 * g 0 - 1) ∧ ((2 : Int32).toInt = 6 → -1 ≤ w14.toInt ∧ w14.toInt ≤ 7) := by rw [ew14]; exact ap_get (P := fun (i x : Int) => (i = 4 → -1 ≤ x ∧ x ≤ 6 * g 0 - 1) ∧ (i = 6 → -1 ≤ x ∧ x ≤ 7)) qf13_0 (by omega) (by omega)
      exact x_iretP C hr hlk (Nat.le_refl _) (Nat.le_refl _) dX10_told_145 ⟨hTy0, w14, rfl, trivial⟩
    · refine x_tableIn C 146 dX10_told_1 (by omega) (by omega) (by rw [sx]; rfl) (by decide) ?_
      refine x_aload_n C 0 dX10_told_146 rfl rfl ?_
      obtain ⟨c15_0, c15_2, c15_3, c15_4, c15_5, c15_6, c15_7, c15_8, c15_9, c15_15, c15_16, c15_17, c15_18, c15_25, c15_26, c15_28, c15_30, c15_31, c15_32, c15_34, c15_37, hc15, qc15_0, qc15_1, qc15_2, qc15_3, qc15_4, qc15_5, qc15_6, qc15_7, qc15_8, qc15_9, qc15_10, qc15_11, qc15_12, qc15_13, qc15_14, qc15_15, qc15_16, qc15_17, qc15_18, qc15_19, qc15_20, qc15_21, qc15_22, qc15_23, qc15_24, qc15_25, qc15_26, qc15_27, qc15_28⟩ := tn_134 hTy0
      refine gfX10_47 C dX10_told_147 hc15 rfl ?_
      refine x_iconst (v := (3 : Int32)) C dX10_told_150 (by decide) ?_
      obtain ⟨f16, hf16, qf16_0⟩ := tn_146 hTy0
      have l_3 : (3 : Int32).toInt = 3 := by decide
      refine x_iald C hf16 (i_in (by omega) (by omega)) dX10_told_151 ?_
      refine x_top (fun w17 ew17 => ?_)
      have fw17_0 : ((3 : Int32).toInt = 4 → -1 ≤ w17.toInt ∧ w17.toInt ≤ 6 * g 0 - 1) ∧ ((3 : Int32).toInt = 6 → -1 ≤ w17.toInt ∧ w17.toInt ≤ 7) := by rw [ew17]; exact ap_get (P := fun (i x : Int) => (i = 4 → -1 ≤ x ∧ x ≤ 6 * g 0 - 1) ∧ (i = 6 → -1 ≤ x ∧ x ≤ 7)) qf16_0 (by omega) (by omega)
      exact x_iretP C hr hlk (Nat.le_refl _) (Nat.le_refl _) dX10_told_152 ⟨hTy0, w17, rfl, trivial⟩
    · refine x_tableIn C 153 dX10_told_1 (by omega) (by omega) (by rw [sx]; rfl) (by decide) ?_
      refine x_aload_n C 0 dX10_told_153 rfl rfl ?_
      obtain ⟨c18_0, c18_2, c18_3, c18_4, c18_5, c18_6, c18_7, c18_8, c18_9, c18_15, c18_16, c18_17, c18_18, c18_25, c18_26, c18_28, c18_30, c18_31, c18_32, c18_34, c18_37, hc18, qc18_0, qc18_1, qc18_2, qc18_3, qc18_4, qc18_5, qc18_6, qc18_7, qc18_8, qc18_9, qc18_10, qc18_11, qc18_12, qc18_13, qc18_14, qc18_15, qc18_16, qc18_17, qc18_18, qc18_19, qc18_20, qc18_21, qc18_22, qc18_23, qc18_24, qc18_25, qc18_26, qc18_27, qc18_28⟩ := tn_134 hTy0
      refine gfX10_47 C dX10_told_154 hc18 rfl ?_
      refine x_iconst (v := (4 : Int32)) C dX10_told_157 (by decide) ?_
      obtain ⟨f19, hf19, qf19_0⟩ := tn_146 hTy0
      have l_4 : (4 : Int32).toInt = 4 := by decide
      refine x_iald C hf19 (i_in (by omega) (by omega)) dX10_told_158 ?_
      refine x_top (fun w20 ew20 => ?_)
      have fw20_0 : ((4 : Int32).toInt = 4 → -1 ≤ w20.toInt ∧ w20.toInt ≤ 6 * g 0 - 1) ∧ ((4 : Int32).toInt = 6 → -1 ≤ w20.toInt ∧ w20.toInt ≤ 7) := by rw [ew20]; exact ap_get (P := fun (i x : Int) => (i = 4 → -1 ≤ x ∧ x ≤ 6 * g 0 - 1) ∧ (i = 6 → -1 ≤ x ∧ x ≤ 7)) qf19_0 (by omega) (by omega)
      have s421 : w20.toInt = (f19 4).toInt := by rw [ew20]; exact congrArg (fun q => (f19 q).toInt) (by decide)
      exact x_iretP C hr hlk (Nat.le_refl _) (Nat.le_refl _) dX10_told_159 ⟨hTy0, w20, rfl, trivial⟩
    · refine x_tableIn C 160 dX10_told_1 (by omega) (by omega) (by rw [sx]; rfl) (by decide) ?_
      refine x_aload_n C 0 dX10_told_160 rfl rfl ?_
      obtain ⟨c22_0, c22_2, c22_3, c22_4, c22_5, c22_6, c22_7, c22_8, c22_9, c22_15, c22_16, c22_17, c22_18, c22_25, c22_26, c22_28, c22_30, c22_31, c22_32, c22_34, c22_37, hc22, qc22_0, qc22_1, qc22_2, qc22_3, qc22_4, qc22_5, qc22_6, qc22_7, qc22_8, qc22_9, qc22_10, qc22_11, qc22_12, qc22_13, qc22_14, qc22_15, qc22_16, qc22_17, qc22_18, qc22_19, qc22_20, qc22_21, qc22_22, qc22_23, qc22_24, qc22_25, qc22_26, qc22_27, qc22_28⟩ := tn_134 hTy0
      refine gfX10_47 C dX10_told_161 hc22 rfl ?_
      refine x_iconst (v := (5 : Int32)) C dX10_told_164 (by decide) ?_
      obtain ⟨f23, hf23, qf23_0⟩ := tn_146 hTy0
      have l_5 : (5 : Int32).toInt = 5 := by decide
      refine x_iald C hf23 (i_in (by omega) (by omega)) dX10_told_165 ?_
      refine x_top (fun w24 ew24 => ?_)
      have fw24_0 : ((5 : Int32).toInt = 4 → -1 ≤ w24.toInt ∧ w24.toInt ≤ 6 * g 0 - 1) ∧ ((5 : Int32).toInt = 6 → -1 ≤ w24.toInt ∧ w24.toInt ≤ 7) := by rw [ew24]; exact ap_get (P := fun (i x : Int) => (i = 4 → -1 ≤ x ∧ x ≤ 6 * g 0 - 1) ∧ (i = 6 → -1 ≤ x ∧ x ≤ 7)) qf23_0 (by omega) (by omega)
      exact x_iretP C hr hlk (Nat.le_refl _) (Nat.le_refl _) dX10_told_166 ⟨hTy0, w24, rfl, trivial⟩
    · refine x_tableIn C 167 dX10_told_1 (by omega) (by omega) (by rw [sx]; rfl) (by decide) ?_
      refine x_aload_n C 0 dX10_told_167 rfl rfl ?_
      obtain ⟨c25_0, c25_2, c25_3, c25_4, c25_5, c25_6, c25_7, c25_8, c25_9, c25_15, c25_16, c25_17, c25_18, c25_25, c25_26, c25_28, c25_30, c25_31, c25_32, c25_34, c25_37, hc25, qc25_0, qc25_1, qc25_2, qc25_3, qc25_4, qc25_5, qc25_6, qc25_7, qc25_8, qc25_9, qc25_10, qc25_11, qc25_12, qc25_13, qc25_14, qc25_15, qc25_16, qc25_17, qc25_18, qc25_19, qc25_20, qc25_21, qc25_22, qc25_23, qc25_24, qc25_25, qc25_26, qc25_27, qc25_28⟩ := tn_134 hTy0
      refine gfX10_47 C dX10_told_168 hc25 rfl ?_
      refine x_bipush (v := (6 : Int32)) C dX10_told_171 (by decide) ?_
      obtain ⟨f26, hf26, qf26_0⟩ := tn_146 hTy0
      have l_6 : (6 : Int32).toInt = 6 := by decide
      refine x_iald C hf26 (i_in (by omega) (by omega)) dX10_told_173 ?_
      refine x_top (fun w27 ew27 => ?_)
      have fw27_0 : ((6 : Int32).toInt = 4 → -1 ≤ w27.toInt ∧ w27.toInt ≤ 6 * g 0 - 1) ∧ ((6 : Int32).toInt = 6 → -1 ≤ w27.toInt ∧ w27.toInt ≤ 7) := by rw [ew27]; exact ap_get (P := fun (i x : Int) => (i = 4 → -1 ≤ x ∧ x ≤ 6 * g 0 - 1) ∧ (i = 6 → -1 ≤ x ∧ x ≤ 7)) qf26_0 (by omega) (by omega)
      have s428 : w27.toInt = (f26 6).toInt := by rw [ew27]; exact congrArg (fun q => (f26 q).toInt) (by decide)
      exact x_iretP C hr hlk (Nat.le_refl _) (Nat.le_refl _) dX10_told_174 ⟨hTy0, w27, rfl, trivial⟩
    · refine x_tableIn C 175 dX10_told_1 (by omega) (by omega) (by rw [sx]; rfl) (by decide) ?_
      refine x_aload_n C 0 dX10_told_175 rfl rfl ?_
      refine x_iconst (v := (0 : Int32)) C dX10_told_176 (by decide) ?_
      have l_0 : (0 : Int32).toInt = 0 := by decide
      obtain ⟨c30_0, c30_2, c30_3, c30_4, c30_5, c30_6, c30_7, c30_8, c30_9, c30_15, c30_16, c30_17, c30_18, c30_25, c30_26, c30_28, c30_30, c30_31, c30_32, c30_34, c30_37, hc30, qc30_0, qc30_1, qc30_2, qc30_3, qc30_4, qc30_5, qc30_6, qc30_7, qc30_8, qc30_9, qc30_10, qc30_11, qc30_12, qc30_13, qc30_14, qc30_15, qc30_16, qc30_17, qc30_18, qc30_19, qc30_20, qc30_21, qc30_22, qc30_23, qc30_24, qc30_25, qc30_26, qc30_27, qc30_28⟩ := tn_134 hTy0
      refine x_callVP C cl_X10_are kmX10_175 (ci := 9) (b := 134) (As := [.int (0 : Int32)]) (rest := []) rfl hc30 (tc_X10_are uu0 hTy0.1 (0 : Int32)) rfl rfl (Nat.le_of_ble_eq_true rfl) ⟨Nat.le_of_ble_eq_true rfl, Nat.le_of_ble_eq_true rfl⟩ ⟨Nat.le_of_ble_eq_true rfl, Nat.le_of_ble_eq_true rfl⟩ dX10_told_177 ?_
      rintro _ _ ⟨rfl, r29, rfl, gr29⟩
      refine x_norm (st2 := [.int r29]) rfl rfl rfl rfl rfl ?_
      exact x_iretP C hr hlk (Nat.le_refl _) (Nat.le_refl _) dX10_told_180 ⟨hTy0, r29, rfl, trivial⟩
    · refine x_tableIn C 181 dX10_told_1 (by omega) (by omega) (by rw [sx]; rfl) (by decide) ?_
      refine x_aload_n C 0 dX10_told_181 rfl rfl ?_
      refine x_iconst (v := (2 : Int32)) C dX10_told_182 (by decide) ?_
      have l_2 : (2 : Int32).toInt = 2 := by decide
      obtain ⟨c33_0, c33_2, c33_3, c33_4, c33_5, c33_6, c33_7, c33_8, c33_9, c33_15, c33_16, c33_17, c33_18, c33_25, c33_26, c33_28, c33_30, c33_31, c33_32, c33_34, c33_37, hc33, qc33_0, qc33_1, qc33_2, qc33_3, qc33_4, qc33_5, qc33_6, qc33_7, qc33_8, qc33_9, qc33_10, qc33_11, qc33_12, qc33_13, qc33_14, qc33_15, qc33_16, qc33_17, qc33_18, qc33_19, qc33_20, qc33_21, qc33_22, qc33_23, qc33_24, qc33_25, qc33_26, qc33_27, qc33_28⟩ := tn_134 hTy0
      refine x_callVP C cl_X10_are kmX10_175 (ci := 9) (b := 134) (As := [.int (2 : Int32)]) (rest := []) rfl hc33 (tc_X10_are uu0 hTy0.1 (2 : Int32)) rfl rfl (Nat.le_of_ble_eq_true rfl) ⟨Nat.le_of_ble_eq_true rfl, Nat.le_of_ble_eq_true rfl⟩ ⟨Nat.le_of_ble_eq_true rfl, Nat.le_of_ble_eq_true rfl⟩ dX10_told_183 ?_
      rintro _ _ ⟨rfl, r32, rfl, gr32⟩
      refine x_norm (st2 := [.int r32]) rfl rfl rfl rfl rfl ?_
      exact x_iretP C hr hlk (Nat.le_refl _) (Nat.le_refl _) dX10_told_186 ⟨hTy0, r32, rfl, trivial⟩
    · refine x_tableIn C 187 dX10_told_1 (by omega) (by omega) (by rw [sx]; rfl) (by decide) ?_
      refine x_aload_n C 0 dX10_told_187 rfl rfl ?_
      refine x_iconst (v := (3 : Int32)) C dX10_told_188 (by decide) ?_
      have l_3 : (3 : Int32).toInt = 3 := by decide
      obtain ⟨c36_0, c36_2, c36_3, c36_4, c36_5, c36_6, c36_7, c36_8, c36_9, c36_15, c36_16, c36_17, c36_18, c36_25, c36_26, c36_28, c36_30, c36_31, c36_32, c36_34, c36_37, hc36, qc36_0, qc36_1, qc36_2, qc36_3, qc36_4, qc36_5, qc36_6, qc36_7, qc36_8, qc36_9, qc36_10, qc36_11, qc36_12, qc36_13, qc36_14, qc36_15, qc36_16, qc36_17, qc36_18, qc36_19, qc36_20, qc36_21, qc36_22, qc36_23, qc36_24, qc36_25, qc36_26, qc36_27, qc36_28⟩ := tn_134 hTy0
      refine x_callVP C cl_X10_are kmX10_175 (ci := 9) (b := 134) (As := [.int (3 : Int32)]) (rest := []) rfl hc36 (tc_X10_are uu0 hTy0.1 (3 : Int32)) rfl rfl (Nat.le_of_ble_eq_true rfl) ⟨Nat.le_of_ble_eq_true rfl, Nat.le_of_ble_eq_true rfl⟩ ⟨Nat.le_of_ble_eq_true rfl, Nat.le_of_ble_eq_true rfl⟩ dX10_told_189 ?_
      rintro _ _ ⟨rfl, r35, rfl, gr35⟩
      refine x_norm (st2 := [.int r35]) rfl rfl rfl rfl rfl ?_
      exact x_iretP C hr hlk (Nat.le_refl _) (Nat.le_refl _) dX10_told_192 ⟨hTy0, r35, rfl, trivial⟩
    · refine x_tableIn C 193 dX10_told_1 (by omega) (by omega) (by rw [sx]; rfl) (by decide) ?_
      refine x_aload_n C 0 dX10_told_193 rfl rfl ?_
      obtain ⟨c39_0, c39_2, c39_3, c39_4, c39_5, c39_6, c39_7, c39_8, c39_9, c39_15, c39_16, c39_17, c39_18, c39_25, c39_26, c39_28, c39_30, c39_31, c39_32, c39_34, c39_37, hc39, qc39_0, qc39_1, qc39_2, qc39_3, qc39_4, qc39_5, qc39_6, qc39_7, qc39_8, qc39_9, qc39_10, qc39_11, qc39_12, qc39_13, qc39_14, qc39_15, qc39_16, qc39_17, qc39_18, qc39_19, qc39_20, qc39_21, qc39_22, qc39_23, qc39_24, qc39_25, qc39_26, qc39_27, qc39_28⟩ := tn_134 hTy0
      refine x_callVP C cl_X10_nobodys kmX10_178 (ci := 9) (b := 134) (As := []) (rest := []) rfl hc39 (tc_X10_nobodys uu0 hTy0.1) rfl rfl (Nat.le_of_ble_eq_true rfl) ⟨Nat.le_of_ble_eq_true rfl, Nat.le_of_ble_eq_true rfl⟩ ⟨Nat.le_of_ble_eq_true rfl, Nat.le_of_ble_eq_true rfl⟩ dX10_told_194 ?_
      rintro _ _ ⟨rfl, r38, rfl, gr38⟩
      refine x_norm (st2 := [.int r38]) rfl rfl rfl rfl rfl ?_
      exact x_iretP C hr hlk (Nat.le_refl _) (Nat.le_refl _) dX10_told_197 ⟨hTy0, r38, rfl, trivial⟩
    · refine x_tableIn C 198 dX10_told_1 (by omega) (by omega) (by rw [sx]; rfl) (by decide) ?_
      refine x_aload_n C 0 dX10_told_198 rfl rfl ?_
      obtain ⟨c42_0, c42_2, c42_3, c42_4, c42_5, c42_6, c42_7, c42_8, c42_9, c42_15, c42_16, c42_17, c42_18, c42_25, c42_26, c42_28, c42_30, c42_31, c42_32, c42_34, c42_37, hc42, qc42_0, qc42_1, qc42_2, qc42_3, qc42_4, qc42_5, qc42_6, qc42_7, qc42_8, qc42_9, qc42_10, qc42_11, qc42_12, qc42_13, qc42_14, qc42_15, qc42_16, qc42_17, qc42_18, qc42_19, qc42_20, qc42_21, qc42_22, qc42_23, qc42_24, qc42_25, qc42_26, qc42_27, qc42_28⟩ := tn_134 hTy0
      refine x_callVP C cl_X10_longestSat kmX10_181 (ci := 9) (b := 134) (As := []) (rest := []) rfl hc42 (tc_X10_longestSat uu0 hTy0.1) rfl rfl (Nat.le_of_ble_eq_true rfl) ⟨Nat.le_of_ble_eq_true rfl, Nat.le_of_ble_eq_true rfl⟩ ⟨Nat.le_of_ble_eq_true rfl, Nat.le_of_ble_eq_true rfl⟩ dX10_told_199 ?_
      rintro _ _ ⟨rfl, r41, rfl, gr41⟩
      refine x_norm (st2 := [.int r41]) rfl rfl rfl rfl rfl ?_
      exact x_iretP C hr hlk (Nat.le_refl _) (Nat.le_refl _) dX10_told_202 ⟨hTy0, r41, rfl, trivial⟩
    · refine x_tableIn C 203 dX10_told_1 (by omega) (by omega) (by rw [sx]; rfl) (by decide) ?_
      refine x_aload_n C 0 dX10_told_203 rfl rfl ?_
      obtain ⟨c45_0, c45_2, c45_3, c45_4, c45_5, c45_6, c45_7, c45_8, c45_9, c45_15, c45_16, c45_17, c45_18, c45_25, c45_26, c45_28, c45_30, c45_31, c45_32, c45_34, c45_37, hc45, qc45_0, qc45_1, qc45_2, qc45_3, qc45_4, qc45_5, qc45_6, qc45_7, qc45_8, qc45_9, qc45_10, qc45_11, qc45_12, qc45_13, qc45_14, qc45_15, qc45_16, qc45_17, qc45_18, qc45_19, qc45_20, qc45_21, qc45_22, qc45_23, qc45_24, qc45_25, qc45_26, qc45_27, qc45_28⟩ := tn_134 hTy0
      refine x_callVP C cl_X10_bestToLearn kmX10_184 (ci := 9) (b := 134) (As := []) (rest := []) rfl hc45 (tc_X10_bestToLearn uu0 hTy0.1) rfl rfl (Nat.le_of_ble_eq_true rfl) ⟨Nat.le_of_ble_eq_true rfl, Nat.le_of_ble_eq_true rfl⟩ ⟨Nat.le_of_ble_eq_true rfl, Nat.le_of_ble_eq_true rfl⟩ dX10_told_204 ?_
      rintro _ u46 ⟨ju46, r44, rfl, gr44⟩
      have hTu46 := hTy0.tr ju46
      refine x_norm (st2 := [.int r44]) rfl rfl rfl rfl rfl ?_
      exact x_iretP C hr hlk (Nat.le_refl _) (Nat.le_refl _) dX10_told_207 ⟨hTu46, r44, rfl, trivial⟩
    · refine x_tableIn C 208 dX10_told_1 (by omega) (by omega) (by rw [sx]; rfl) (by decide) ?_
      refine x_aload_n C 0 dX10_told_208 rfl rfl ?_
      obtain ⟨c47_0, c47_2, c47_3, c47_4, c47_5, c47_6, c47_7, c47_8, c47_9, c47_15, c47_16, c47_17, c47_18, c47_25, c47_26, c47_28, c47_30, c47_31, c47_32, c47_34, c47_37, hc47, qc47_0, qc47_1, qc47_2, qc47_3, qc47_4, qc47_5, qc47_6, qc47_7, qc47_8, qc47_9, qc47_10, qc47_11, qc47_12, qc47_13, qc47_14, qc47_15, qc47_16, qc47_17, qc47_18, qc47_19, qc47_20, qc47_21, qc47_22, qc47_23, qc47_24, qc47_25, qc47_26, qc47_27, qc47_28⟩ := tn_134 hTy0
      refine gfX10_162 C dX10_told_209 hc47 rfl ?_
      exact x_iretP C hr hlk (Nat.le_refl _) (Nat.le_refl _) dX10_told_212 ⟨hTy0, c47_34, rfl, trivial⟩
    · refine x_tableIn C 213 dX10_told_1 (by omega) (by omega) (by rw [sx]; rfl) (by decide) ?_
      refine x_aload_n C 0 dX10_told_213 rfl rfl ?_
      obtain ⟨c48_0, c48_2, c48_3, c48_4, c48_5, c48_6, c48_7, c48_8, c48_9, c48_15, c48_16, c48_17, c48_18, c48_25, c48_26, c48_28, c48_30, c48_31, c48_32, c48_34, c48_37, hc48, qc48_0, qc48_1, qc48_2, qc48_3, qc48_4, qc48_5, qc48_6, qc48_7, qc48_8, qc48_9, qc48_10, qc48_11, qc48_12, qc48_13, qc48_14, qc48_15, qc48_16, qc48_17, qc48_18, qc48_19, qc48_20, qc48_21, qc48_22, qc48_23, qc48_24, qc48_25, qc48_26, qc48_27, qc48_28⟩ := tn_134 hTy0
      refine gfX10_165 C dX10_told_214 hc48 rfl ?_
      exact x_iretP C hr hlk (Nat.le_refl _) (Nat.le_refl _) dX10_told_217 ⟨hTy0, c48_37, rfl, trivial⟩
    · refine x_tableIn C 218 dX10_told_1 (by omega) (by omega) (by rw [sx]; rfl) (by decide) ?_
      refine x_aload_n C 0 dX10_told_218 rfl rfl ?_
      obtain ⟨c49_0, c49_2, c49_3, c49_4, c49_5, c49_6, c49_7, c49_8, c49_9, c49_15, c49_16, c49_17, c49_18, c49_25, c49_26, c49_28, c49_30, c49_31, c49_32, c49_34, c49_37, hc49, qc49_0, qc49_1, qc49_2, qc49_3, qc49_4, qc49_5, qc49_6, qc49_7, qc49_8, qc49_9, qc49_10, qc49_11, qc49_12, qc49_13, qc49_14, qc49_15, qc49_16, qc49_17, qc49_18, qc49_19, qc49_20, qc49_21, qc49_22, qc49_23, qc49_24, qc49_25, qc49_26, qc49_27, qc49_28⟩ := tn_134 hTy0
      refine gfX10_159 C dX10_told_219 hc49 rfl ?_
      exact x_iretP C hr hlk (Nat.le_refl _) (Nat.le_refl _) dX10_told_222 ⟨hTy0, c49_25, rfl, trivial⟩
