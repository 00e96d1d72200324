set_option maxRecDepth 20000 in
set_option maxHeartbeats 2000000 in
theorem tc_X10_undo {G : GT} {l : Launch} {z n : Nat} {g : Nat → Int} (uu0 : HpT) (hTz0 : TyN G z g uu0) (a1 : Int32) : Mp G l z yX10_undo cX10_undo 3 (some .int) { frames := 1, cells := 0, slots := 0, locals := 22 } [.ref (z + 134), .int a1] uu0 n (fun r v => TN G z g uu0 v ∧ ∃ x : Int32, r = some (.int x) ∧ True) := by
  refine mp_of (by decide +kernel) (Nat.le_of_ble_eq_true rfl) ?_
  intro p e s m below meth c C hr hlk hnm
  have hTy0 : TN G z g uu0 uu0 := TN.rf hTz0
  have zl_a1 : -2147483648 ≤ a1.toInt := Int32.le_toInt a1
  have zh_a1 : a1.toInt ≤ 2147483647 := Int32.toInt_le a1
  have J52 : ∀ (d : Nat) (u_52 : HpT) (hT_52 : TN G z g uu0 u_52) (x2_52 : Int32) (hl_x2_52 : 0 ≤ x2_52.toInt) (hh_x2_52 : x2_52.toInt ≤ 29) (nl_a1_52 : 1 ≤ a1.toInt) (nh_a1_52 : a1.toInt ≤ 30) (i0_52 : g 0 = 1) (hd : d = (30 - x2_52.toInt).toNat), Xw p l e ({ frames := 1, cells := 0, slots := 0, locals := 22 } : Room) s m ([.ref (z + 134), .int a1] : List Value).toArray below meth c G z 3 (MQ below (Qp G z n (fun r v => TN G z g uu0 v ∧ ∃ x : Int32, r = some (.int x) ∧ True)) ([.ref (z + 134), .int a1] : List Value).toArray s 0 0 (zA z)) 52 [(2, .int x2_52), (0, .ref (z + 134)), (1, .int a1)] [] u_52 n 0 0 := by
    intro d
    induction d using Nat.strongRecOn with
    | _ d ih52 =>
      intro u_52 hT_52 x2_52 hl_x2_52 hh_x2_52 nl_a1_52 nh_a1_52 i0_52 hd52
      refine x_iload_n C 0 dX10_undo_52 rfl rfl ?_
      refine x_bipush (v := (25 : Int32)) C dX10_undo_53 (by decide) ?_
      have l_25 : (25 : Int32).toInt = 25 := by decide
      refine x_icmp_ge C 84 dX10_undo_55 (by decide) (fun q1 => ?_) (fun q1 => ?_)
      · have rq1 : x2_52.toInt ≥ (25 : Int32).toInt := by rw [Int32.le_iff_toInt_le] at q1; omega
        refine x_aload_n C 1 dX10_undo_84 rfl rfl ?_
        obtain ⟨c2_0, c2_2, c2_3, c2_4, c2_5, c2_6, c2_7, c2_8, c2_9, c2_15, c2_16, c2_17, c2_18, c2_25, c2_26, c2_28, c2_30, c2_31, c2_32, c2_34, c2_37, hc2, qc2_0, qc2_1, qc2_2, qc2_3, qc2_4, qc2_5, qc2_6, qc2_7, qc2_8, qc2_9, qc2_10, qc2_11, qc2_12, qc2_13, qc2_14, qc2_15, qc2_16, qc2_17, qc2_18, qc2_19, qc2_20, qc2_21, qc2_22, qc2_23, qc2_24, qc2_25, qc2_26, qc2_27, qc2_28⟩ := tn_134 hT_52
        refine gfX10_47 C dX10_undo_85 hc2 rfl ?_
        refine x_iconst (v := (0 : Int32)) C dX10_undo_88 (by decide) ?_
        obtain ⟨f3, hf3, qf3_0⟩ := tn_146 hT_52
        have l_0 : (0 : Int32).toInt = 0 := by decide
        refine x_iald C hf3 (i_in (by omega) (by omega)) dX10_undo_89 ?_
        refine x_top (fun w4 ew4 => ?_)
        have fw4_0 : ((0 : Int32).toInt = 4 → -1 ≤ w4.toInt ∧ w4.toInt ≤ 6 * g 0 - 1) ∧ ((0 : Int32).toInt = 6 → -1 ≤ w4.toInt ∧ w4.toInt ≤ 7) := by rw [ew4]; exact ap_get (P := fun (i x : Int) => (i = 4 → -1 ≤ x ∧ x ≤ 6 * g 0 - 1) ∧ (i = 6 → -1 ≤ x ∧ x ≤ 7)) qf3_0 (by omega) (by omega)
        exact x_iretP C hr hlk (Nat.le_refl _) (Nat.le_refl _) dX10_undo_90 ⟨hT_52, w4, rfl, trivial⟩
      · have rq1 : x2_52.toInt < (25 : Int32).toInt := by rw [Int32.le_iff_toInt_le] at q1; omega
        refine x_aload_n C 1 dX10_undo_58 rfl rfl ?_
        obtain ⟨c5_0, c5_2, c5_3, c5_4, c5_5, c5_6, c5_7, c5_8, c5_9, c5_15, c5_16, c5_17, c5_18, c5_25, c5_26, c5_28, c5_30, c5_31, c5_32, c5_34, c5_37, hc5, qc5_0, qc5_1, qc5_2, qc5_3, qc5_4, qc5_5, qc5_6, qc5_7, qc5_8, qc5_9, qc5_10, qc5_11, qc5_12, qc5_13, qc5_14, qc5_15, qc5_16, qc5_17, qc5_18, qc5_19, qc5_20, qc5_21, qc5_22, qc5_23, qc5_24, qc5_25, qc5_26, qc5_27, qc5_28⟩ := tn_134 hT_52
        refine gfX10_47 C dX10_undo_59 hc5 rfl ?_
        refine x_iload_n C 0 dX10_undo_62 rfl rfl ?_
        refine x_aload_n C 1 dX10_undo_63 rfl rfl ?_
        refine gfX10_50 C dX10_undo_64 hc5 rfl ?_
        refine x_bipush (v := (25 : Int32)) C dX10_undo_67 (by decide) ?_
        refine x_aload_n C 1 dX10_undo_69 rfl rfl ?_
        refine gfX10_212 C dX10_undo_70 hc5 rfl ?_
        refine x_imul C dX10_undo_73 ?_
        refine x_top (fun w6 ew6 => ?_)
        have fw6_0 : w6.toInt = 25 * c5_26.toInt := by rw [ew6]; exact i_mulkl (by decide) (by omega) (by omega)
        refine x_iload_n C 0 dX10_undo_74 rfl rfl ?_
        refine x_iadd C dX10_undo_75 ?_
        refine x_top (fun w7 ew7 => ?_)
        have fw7_0 : w7.toInt = w6.toInt + x2_52.toInt := by rw [ew7]; exact i_add (by omega) (by omega)
        obtain ⟨f8, hf8, qf8_0⟩ := tn_147 hT_52
        refine x_iald C hf8 (i_in (by omega) (by omega)) dX10_undo_76 ?_
        refine x_top (fun w9 ew9 => ?_)
        have fw9_0 : (w7.toInt % 25 = 4 → -1 ≤ w9.toInt ∧ w9.toInt ≤ 5) ∧ (w7.toInt % 25 = 6 → -1 ≤ w9.toInt ∧ w9.toInt ≤ 7) := by rw [ew9]; exact ap_get (P := fun (i x : Int) => (i % 25 = 4 → -1 ≤ x ∧ x ≤ 5) ∧ (i % 25 = 6 → -1 ≤ x ∧ x ≤ 7)) qf8_0 (by omega) (by omega)
        obtain ⟨f10, hf10, qf10_0⟩ := tn_146 hT_52
        have qf11_0 : ∀ j : Nat, j < 25 → (fun (i x : Int) => (i = 4 → -1 ≤ x ∧ x ≤ 6 * g 0 - 1) ∧ (i = 6 → -1 ≤ x ∧ x ≤ 7)) j ((upd f10 x2_52.toNatClampNeg w9) j).toInt := ap_upd (P := fun (i x : Int) => (i = 4 → -1 ≤ x ∧ x ≤ 6 * g 0 - 1) ∧ (i = 6 → -1 ≤ x ∧ x ≤ 7)) qf10_0 (by omega) (show (x2_52.toInt = 4 → -1 ≤ w9.toInt ∧ w9.toInt ≤ 6 * g 0 - 1) ∧ (x2_52.toInt = 6 → -1 ≤ w9.toInt ∧ w9.toInt ≤ 7) from by omega)
        refine x_iast C hf10 (i_in (by omega) (by omega)) dX10_undo_77 ?_
        obtain ⟨u12, eu12⟩ : ∃ w : HpT, w = hup u_52 146 (aI G 25 (upd f10 x2_52.toNatClampNeg w9)) := ⟨_, rfl⟩
        refine x_heap (u2 := u12) eu12.symm ?_
        have hTu12 : TN G z g uu0 u12 := by rw [eu12]; exact hT_52.up_146 qf11_0
        have hn15 := (congrFun eu12 146).trans (hup_s _ _ _)
        generalize (upd f10 x2_52.toNatClampNeg w9) = f11 at *
        have l_1 : (1 : Int32).toInt = 1 := by decide
        obtain ⟨w16, ew16⟩ : ∃ w : Int32, w = x2_52 + Int32.ofInt 1 := ⟨_, rfl⟩
        have fw16 : w16.toInt = x2_52.toInt + (1) := by rw [ew16]; exact i_addk (by decide) (by omega) (by omega)
        refine x_iinc (v := w16) C 0 [(2, .int w16), (0, .ref (z + 134)), (1, .int a1)] dX10_undo_78 rfl ew16.symm (by decide) rfl ?_
        refine x_goto C 52 dX10_undo_81 (by decide) ?_
        exact ih52 (30 - w16.toInt).toNat (by omega) u12 hTu12 w16 (by omega) (by omega) (by omega) (by omega) (by omega) rfl
  refine x_iload_n C 1 dX10_undo_0 rfl rfl ?_
  refine x_iconst (v := (1 : Int32)) C dX10_undo_1 (by decide) ?_
  refine x_bipush (v := (30 : Int32)) C dX10_undo_2 (by decide) ?_
  have l_1 : (1 : Int32).toInt = 1 := by decide
  have l_30 : (30 : Int32).toInt = 30 := by decide
  refine x_callSP C cl_X10_in kmX10_82 (As := [.int a1, .int (1 : Int32), .int (30 : Int32)]) (rest := []) (tc_X10_in uu0 hTy0.1 a1 (1 : Int32) (30 : Int32)) rfl rfl (Nat.le_of_ble_eq_true rfl) ⟨Nat.le_of_ble_eq_true rfl, Nat.le_of_ble_eq_true rfl⟩ ⟨Nat.le_of_ble_eq_true rfl, Nat.le_of_ble_eq_true rfl⟩ dX10_undo_4 ?_
  rintro _ _ ⟨rfl, r17, rfl, gr17⟩
  refine x_norm (st2 := [.int r17]) rfl rfl rfl rfl rfl ?_
  have l_0 : (0 : Int32).toInt = 0 := by decide
  refine x_if_ne C 13 dX10_undo_7 (by decide) (fun q19 => ?_) (fun q19 => ?_)
  · have rq19 : ¬ r17.toInt = (0 : Int32).toInt := by rw [i_eq_iff] at q19; omega
    refine x_iload_n C 1 dX10_undo_13 rfl rfl ?_
    refine x_aload_n C 0 dX10_undo_14 rfl rfl ?_
    obtain ⟨c20_0, c20_2, c20_3, c20_4, c20_5, c20_6, c20_7, c20_8, c20_9, c20_15, c20_16, c20_17, c20_18, c20_25, c20_26, c20_28, c20_30, c20_31, c20_32, c20_34, c20_37, hc20, qc20_0, qc20_1, qc20_2, qc20_3, qc20_4, qc20_5, qc20_6, qc20_7, qc20_8, qc20_9, qc20_10, qc20_11, qc20_12, qc20_13, qc20_14, qc20_15, qc20_16, qc20_17, qc20_18, qc20_19, qc20_20, qc20_21, qc20_22, qc20_23, qc20_24, qc20_25, qc20_26, qc20_27, qc20_28⟩ := tn_134 hTy0
    refine gfX10_159 C dX10_undo_15 hc20 rfl ?_
    refine x_icmp_le C 24 dX10_undo_18 (by decide) (fun q21 => ?_) (fun q21 => ?_)
    · have rq21 : a1.toInt ≤ c20_25.toInt := by rw [Int32.le_iff_toInt_le] at q21; omega
      refine x_aload_n C 0 dX10_undo_24 rfl rfl ?_
      refine x_aload_n C 0 dX10_undo_25 rfl rfl ?_
      refine gfX10_212 C dX10_undo_26 hc20 rfl ?_
      refine x_bipush (v := (30 : Int32)) C dX10_undo_29 (by decide) ?_
      refine x_iadd C dX10_undo_31 ?_
      refine x_top (fun w22 ew22 => ?_)
      have fw22_0 : w22.toInt = c20_26.toInt + (30 : Int32).toInt := by rw [ew22]; exact i_add (by omega) (by omega)
      refine x_iload_n C 1 dX10_undo_32 rfl rfl ?_
      refine x_isub C dX10_undo_33 ?_
      refine x_top (fun w23 ew23 => ?_)
      have fw23_0 : w23.toInt = w22.toInt - a1.toInt := by rw [ew23]; exact i_sub (by omega) (by omega)
      refine x_bipush (v := (30 : Int32)) C dX10_undo_34 (by decide) ?_
      refine x_irem C dX10_undo_36 (by decide) ?_
      refine x_top (fun w24 ew24 => ?_)
      have fw24_0 : w24.toInt = w23.toInt % 30 := by rw [ew24]; exact i_remk (by decide) (by decide) (by omega)
      obtain ⟨u25, eu25⟩ : ∃ w : HpT, w = hup uu0 134 (.inr (9, [.int c20_0, .ref (z + 135), .int c20_2, .int c20_3, .int c20_4, .int c20_5, .int c20_6, .int c20_7, .int c20_8, .int c20_9, .ref (z + 136), .ref (z + 137), .ref (z + 138), .ref (z + 139), .ref (z + 140), .int c20_15, .int c20_16, .int c20_17, .int c20_18, .ref (z + 141), .ref (z + 142), .ref (z + 143), .ref (z + 144), .ref (z + 145), .ref (z + 146), .int c20_25, .int w24, .ref (z + 147), .long c20_28, .ref (z + 148), .int c20_30, .int c20_31, .int c20_32, .ref (z + 149), .int c20_34, .ref (z + 150), .ref (z + 151), .int c20_37, .ref (z + 152), .ref (z + 153), .ref (z + 154), .ref (z + 155), .ref (z + 156)])) := ⟨_, rfl⟩
      refine pfX10_212 C dX10_undo_37 hc20 (Nat.le_of_ble_eq_true rfl) rfl eu25.symm ?_
      have hTu25 : TN G z g uu0 u25 := by rw [eu25]; exact hTy0.up_134 (by omega)
      have hn26 := (congrFun eu25 134).trans (hup_s _ _ _)
      refine x_aload_n C 0 dX10_undo_40 rfl rfl ?_
      refine x_dup C dX10_undo_41 rfl ?_
      refine gfX10_159 C dX10_undo_42 hn26 rfl ?_
      refine x_iload_n C 1 dX10_undo_45 rfl rfl ?_
      refine x_isub C dX10_undo_46 ?_
      refine x_top (fun w27 ew27 => ?_)
      have fw27_0 : w27.toInt = c20_25.toInt - a1.toInt := by rw [ew27]; exact i_sub (by omega) (by omega)
      obtain ⟨u28, eu28⟩ : ∃ w : HpT, w = hup u25 134 (.inr (9, [.int c20_0, .ref (z + 135), .int c20_2, .int c20_3, .int c20_4, .int c20_5, .int c20_6, .int c20_7, .int c20_8, .int c20_9, .ref (z + 136), .ref (z + 137), .ref (z + 138), .ref (z + 139), .ref (z + 140), .int c20_15, .int c20_16, .int c20_17, .int c20_18, .ref (z + 141), .ref (z + 142), .ref (z + 143), .ref (z + 144), .ref (z + 145), .ref (z + 146), .int w27, .int w24, .ref (z + 147), .long c20_28, .ref (z + 148), .int c20_30, .int c20_31, .int c20_32, .ref (z + 149), .int c20_34, .ref (z + 150), .ref (z + 151), .int c20_37, .ref (z + 152), .ref (z + 153), .ref (z + 154), .ref (z + 155), .ref (z + 156)])) := ⟨_, rfl⟩
      refine pfX10_159 C dX10_undo_47 hn26 (Nat.le_of_ble_eq_true rfl) rfl eu28.symm ?_
      have hTu28 : TN G z g uu0 u28 := by rw [eu28]; exact hTu25.up_134 (by omega)
      have hn29 := (congrFun eu28 134).trans (hup_s _ _ _)
      refine x_iconst (v := (0 : Int32)) C dX10_undo_50 (by decide) ?_
      refine x_istore_n C [(2, .int (0 : Int32)), (0, .ref (z + 134)), (1, .int a1)] dX10_undo_51 rfl (by decide) rfl ?_
      exact J52 (30 - (0 : Int32).toInt).toNat u28 hTu28 (0 : Int32) (by omega) (by omega) (by omega) (by omega) (by omega) rfl
    · have rq21 : a1.toInt > c20_25.toInt := by rw [Int32.le_iff_toInt_le] at q21; omega
      refine x_ldc C kcX10_215 dX10_undo_21 ?_
      have l_m1000000003 : (-1000000003 : Int32).toInt = -1000000003 := by decide
      exact x_iretP C hr hlk (Nat.le_refl _) (Nat.le_refl _) dX10_undo_23 ⟨hTy0, (-1000000003 : Int32), rfl, trivial⟩
  · have rq19 : r17.toInt = (0 : Int32).toInt := by rw [i_eq_iff] at q19; omega
    refine x_ldc C kcX10_86 dX10_undo_10 ?_
    have l_m1000000002 : (-1000000002 : Int32).toInt = -1000000002 := by decide
    exact x_iretP C hr hlk (Nat.le_refl _) (Nat.le_refl _) dX10_undo_12 ⟨hTy0, (-1000000002 : Int32), rfl, trivial⟩
set_option maxRecDepth 20000 in
set_option maxHeartbeats 2000000 in
theorem tc_X10_letterAt {G : GT} {l : Launch} {z n : Nat} {g : Nat → Int} (uu0 : HpT) (hTz0 : TyN G z g uu0) (a1 : Int32) (pre0 : 0 ≤ a1.toInt) : Mp G l z yX10_letterAt cX10_letterAt 2 (some .int) { frames := 0, cells := 0, slots := 0, locals := 0 } [.ref (z + 134), .int a1] uu0 n (fun r v => uu0 = v ∧ ∃ x : Int32, r = some (.int x) ∧ True) := by
  refine mp_of (by decide +kernel) (Nat.le_of_ble_eq_true rfl) ?_
  intro p e s m below meth c C hr hlk hnm
  have hTy0 : TN G z g uu0 uu0 := TN.rf hTz0
  refine x_iload_n C 1 dX10_letterAt_0 rfl rfl ?_
  refine x_aload_n C 0 dX10_letterAt_1 rfl rfl ?_
  obtain ⟨c1_0, c1_2, c1_3, c1_4, c1_5, c1_6, c1_7, c1_8, c1_9, c1_15, c1_16, c1_17, c1_18, c1_25, c1_26, c1_28, c1_30, c1_31, c1_32, c1_34, c1_37, hc1, qc1_0, qc1_1, qc1_2, qc1_3, qc1_4, qc1_5, qc1_6, qc1_7, qc1_8, qc1_9, qc1_10, qc1_11, qc1_12, qc1_13, qc1_14, qc1_15, qc1_16, qc1_17, qc1_18, qc1_19, qc1_20, qc1_21, qc1_22, qc1_23, qc1_24, qc1_25, qc1_26, qc1_27, qc1_28⟩ := tn_134 hTy0
  refine gfX10_87 C dX10_letterAt_2 hc1 rfl ?_
  refine x_icmp_ge C 17 dX10_letterAt_5 (by decide) (fun q2 => ?_) (fun q2 => ?_)
  · have rq2 : a1.toInt ≥ c1_0.toInt := by rw [Int32.le_iff_toInt_le] at q2; omega
    refine x_iconst (v := (-1 : Int32)) C dX10_letterAt_17 (by decide) ?_
    have l_m1 : (-1 : Int32).toInt = -1 := by decide
    exact x_iretP C hr hlk (Nat.le_refl _) (Nat.le_refl _) dX10_letterAt_18 ⟨rfl, (-1 : Int32), rfl, trivial⟩
  · have rq2 : a1.toInt < c1_0.toInt := by rw [Int32.le_iff_toInt_le] at q2; omega
    refine x_aload_n C 0 dX10_letterAt_8 rfl rfl ?_
    refine gfX10_7 C dX10_letterAt_9 hc1 rfl ?_
    refine x_iload_n C 1 dX10_letterAt_12 rfl rfl ?_
    obtain ⟨f3, hf3⟩ := tn_135 hTy0
    refine x_iald C hf3 (i_in (by omega) (by omega)) dX10_letterAt_13 ?_
    refine x_top (fun w4 ew4 => ?_)
    refine x_goto C 18 dX10_letterAt_14 (by decide) ?_
    exact x_iretP C hr hlk (Nat.le_refl _) (Nat.le_refl _) dX10_letterAt_18 ⟨rfl, w4, rfl, trivial⟩
set_option maxRecDepth 20000 in
set_option maxHeartbeats 2000000 in
theorem tc_X10_fails {G : GT} {l : Launch} {z n : Nat} {g : Nat → Int} (uu0 : HpT) (hTz0 : TyN G z g uu0) (a1 : Int32) (a2 : Int32) (pre0 : 0 ≤ a2.toInt) (pre1 : a2.toInt ≤ 241) : Mp G l z yX10_fails cX10_fails 3 (some .int) { frames := 0, cells := 0, slots := 0, locals := 0 } [.ref (z + 134), .int a1, .int a2] uu0 n (fun r v => TN G z g uu0 v ∧ ∃ x : Int32, r = some (.int x) ∧ True) := by
  refine mp_of (by decide +kernel) (Nat.le_of_ble_eq_true rfl) ?_
  intro p e s m below meth c C hr hlk hnm
  have hTy0 : TN G z g uu0 uu0 := TN.rf hTz0
  refine x_aload_n C 0 dX10_fails_0 rfl rfl ?_
  refine x_iload_n C 1 dX10_fails_1 rfl rfl ?_
  obtain ⟨c1_0, c1_2, c1_3, c1_4, c1_5, c1_6, c1_7, c1_8, c1_9, c1_15, c1_16, c1_17, c1_18, c1_25, c1_26, c1_28, c1_30, c1_31, c1_32, c1_34, c1_37, hc1, qc1_0, qc1_1, qc1_2, qc1_3, qc1_4, qc1_5, qc1_6, qc1_7, qc1_8, qc1_9, qc1_10, qc1_11, qc1_12, qc1_13, qc1_14, qc1_15, qc1_16, qc1_17, qc1_18, qc1_19, qc1_20, qc1_21, qc1_22, qc1_23, qc1_24, qc1_25, qc1_26, qc1_27, qc1_28⟩ := tn_134 hTy0
  obtain ⟨u2, eu2⟩ : ∃ w : HpT, w = hup uu0 134 (.inr (9, [.int c1_0, .ref (z + 135), .int c1_2, .int c1_3, .int a1, .int c1_5, .int c1_6, .int c1_7, .int c1_8, .int c1_9, .ref (z + 136), .ref (z + 137), .ref (z + 138), .ref (z + 139), .ref (z + 140), .int c1_15, .int c1_16, .int c1_17, .int c1_18, .ref (z + 141), .ref (z + 142), .ref (z + 143), .ref (z + 144), .ref (z + 145), .ref (z + 146), .int c1_25, .int c1_26, .ref (z + 147), .long c1_28, .ref (z + 148), .int c1_30, .int c1_31, .int c1_32, .ref (z + 149), .int c1_34, .ref (z + 150), .ref (z + 151), .int c1_37, .ref (z + 152), .ref (z + 153), .ref (z + 154), .ref (z + 155), .ref (z + 156)])) := ⟨_, rfl⟩
  refine pfX10_98 C dX10_fails_2 hc1 (Nat.le_of_ble_eq_true rfl) rfl eu2.symm ?_
  have hTu2 : TN G z g uu0 u2 := by rw [eu2]; exact hTy0.up_134 (by omega)
  have hn3 := (congrFun eu2 134).trans (hup_s _ _ _)
  refine x_aload_n C 0 dX10_fails_5 rfl rfl ?_
  refine x_iload_n C 2 dX10_fails_6 rfl rfl ?_
  obtain ⟨u4, eu4⟩ : ∃ w : HpT, w = hup u2 134 (.inr (9, [.int c1_0, .ref (z + 135), .int a2, .int c1_3, .int a1, .int c1_5, .int c1_6, .int c1_7, .int c1_8, .int c1_9, .ref (z + 136), .ref (z + 137), .ref (z + 138), .ref (z + 139), .ref (z + 140), .int c1_15, .int c1_16, .int c1_17, .int c1_18, .ref (z + 141), .ref (z + 142), .ref (z + 143), .ref (z + 144), .ref (z + 145), .ref (z + 146), .int c1_25, .int c1_26, .ref (z + 147), .long c1_28, .ref (z + 148), .int c1_30, .int c1_31, .int c1_32, .ref (z + 149), .int c1_34, .ref (z + 150), .ref (z + 151), .int c1_37, .ref (z + 152), .ref (z + 153), .ref (z + 154), .ref (z + 155), .ref (z + 156)])) := ⟨_, rfl⟩
  refine pfX10_91 C dX10_fails_7 hn3 (Nat.le_of_ble_eq_true rfl) rfl eu4.symm ?_
  have hTu4 : TN G z g uu0 u4 := by rw [eu4]; exact hTu2.up_134 (by omega)
  have hn5 := (congrFun eu4 134).trans (hup_s _ _ _)
  refine x_iconst (v := (-1 : Int32)) C dX10_fails_10 (by decide) ?_
  have l_m1 : (-1 : Int32).toInt = -1 := by decide
  exact x_iretP C hr hlk (Nat.le_refl _) (Nat.le_refl _) dX10_fails_11 ⟨hTu4, (-1 : Int32), rfl, trivial⟩
