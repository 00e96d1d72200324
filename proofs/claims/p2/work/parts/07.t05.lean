set_option maxRecDepth 20000 in
set_option maxHeartbeats 2000000 in
theorem tc_X3_copyFrom {G : GT} {l : Launch} {z n : Nat} {ln : Int} (uu0 : HpT) (hTz0 : TyC G z ln uu0) (o : Nat) (ho : EvO o) (k : Nat) (hk : EvO k) (pre0 : o + 2 < k ∨ k + 2 < o) : Mp G l z yX3_copyFrom cX3_copyFrom 3 none { frames := 0, cells := 0, slots := 0, locals := 0 } [.ref (z + o), .ref (z + k)] uu0 n (fun r v => TC G z ln uu0 v ∧ r = none) := by
  refine mp_of (by decide +kernel) (Nat.le_of_ble_eq_true rfl) ?_
  intro p e s m below meth c C hr hlk hnm
  have hTy0 : TC G z ln uu0 uu0 := TC.rf hTz0
  have J82 : ∀ (d : Nat) (u_82 : HpT) (hT_82 : TC G z ln uu0 u_82) (x2_82 : Int32) (hl_x2_82 : 0 ≤ x2_82.toInt) (hh_x2_82 : x2_82.toInt ≤ 6) (hd : d = (7 - x2_82.toInt).toNat), Xw p l e ({ frames := 0, cells := 0, slots := 0, locals := 0 } : Room) s m ([.ref (z + o), .ref (z + k)] : List Value).toArray below meth c G z 3 (MQ below (Qp G z n (fun r v => TC G z ln uu0 v ∧ r = none)) ([.ref (z + o), .ref (z + k)] : List Value).toArray s 0 0 (zA z)) 82 [(2, .int x2_82), (0, .ref (z + o)), (1, .ref (z + k))] [] u_82 n 0 0 := by
    intro d
    induction d using Nat.strongRecOn with
    | _ d ih82 =>
      intro u_82 hT_82 x2_82 hl_x2_82 hh_x2_82 hd82
      refine x_iload_n C 0 dX3_copyFrom_82 rfl rfl ?_
      refine x_bipush (v := (6 : Int32)) C dX3_copyFrom_83 (by decide) ?_
      have l_6 : (6 : Int32).toInt = 6 := by decide
      refine x_icmp_ge C 118 dX3_copyFrom_85 (by decide) (fun q1 => ?_) (fun q1 => ?_)
      · have rq1 : x2_82.toInt ≥ (6 : Int32).toInt := by rw [Int32.le_iff_toInt_le] at q1; omega
        exact x_vretP C hr hlk (Nat.le_refl _) (Nat.le_refl _) dX3_copyFrom_118 ⟨hT_82, rfl⟩
      · have rq1 : x2_82.toInt < (6 : Int32).toInt := by rw [Int32.le_iff_toInt_le] at q1; omega
        refine x_aload_n C 1 dX3_copyFrom_88 rfl rfl ?_
        obtain ⟨c2_0, c2_1, c2_2, c2_3, c2_4, c2_5, c2_6, c2_7, c2_8, c2_9, hc2⟩ := ty_ev hT_82 ho
        refine gfX3_42 C dX3_copyFrom_89 hc2 rfl ?_
        refine x_iload_n C 0 dX3_copyFrom_92 rfl rfl ?_
        refine x_aload_n C 2 dX3_copyFrom_93 rfl rfl ?_
        obtain ⟨c3_0, c3_1, c3_2, c3_3, c3_4, c3_5, c3_6, c3_7, c3_8, c3_9, hc3⟩ := ty_ev hT_82 hk
        refine gfX3_42 C dX3_copyFrom_94 hc3 rfl ?_
        refine x_iload_n C 0 dX3_copyFrom_97 rfl rfl ?_
        obtain ⟨f4, hf4⟩ := ty_evA hT_82 hk 1 (by decide) (by decide)
        refine x_iald C hf4 (i_in (by omega) (by omega)) dX3_copyFrom_98 ?_
        refine x_top (fun w5 ew5 => ?_)
        obtain ⟨f6, hf6⟩ := ty_evA hT_82 ho 1 (by decide) (by decide)
        refine x_iast C hf6 (i_in (by omega) (by omega)) dX3_copyFrom_99 ?_
        obtain ⟨u7, eu7⟩ : ∃ w : HpT, w = hup u_82 (o + 1) (aI G 6 (upd f6 x2_82.toNatClampNeg w5)) := ⟨_, rfl⟩
        refine x_heap (u2 := u7) eu7.symm ?_
        have hTu7 : TC G z ln uu0 u7 := by rw [eu7]; exact hT_82.upEvA ho 1 (by decide) (by decide)
        have hn11 := (congrFun eu7 (o + 1)).trans (hup_s _ _ _)
        generalize (upd f6 x2_82.toNatClampNeg w5) = f12 at *
        refine x_aload_n C 1 dX3_copyFrom_100 rfl rfl ?_
        have k13 := (congrFun eu7 o).trans (hup_n' (by omega) hc2)
        refine gfX3_46 C dX3_copyFrom_101 k13 rfl ?_
        refine x_iload_n C 0 dX3_copyFrom_104 rfl rfl ?_
        refine x_aload_n C 2 dX3_copyFrom_105 rfl rfl ?_
        have k14 := (congrFun eu7 k).trans (hup_n' (by omega) hc3)
        refine gfX3_46 C dX3_copyFrom_106 k14 rfl ?_
        refine x_iload_n C 0 dX3_copyFrom_109 rfl rfl ?_
        obtain ⟨f15, hf15⟩ := ty_evA hTu7 hk 2 (by decide) (by decide)
        refine x_iald C hf15 (i_in (by omega) (by omega)) dX3_copyFrom_110 ?_
        refine x_top (fun w16 ew16 => ?_)
        obtain ⟨f17, hf17⟩ := ty_evA hTu7 ho 2 (by decide) (by decide)
        refine x_iast C hf17 (i_in (by omega) (by omega)) dX3_copyFrom_111 ?_
        obtain ⟨u18, eu18⟩ : ∃ w : HpT, w = hup u7 (o + 2) (aI G 6 (upd f17 x2_82.toNatClampNeg w16)) := ⟨_, rfl⟩
        refine x_heap (u2 := u18) eu18.symm ?_
        have hTu18 : TC G z ln uu0 u18 := by rw [eu18]; exact hTu7.upEvA ho 2 (by decide) (by decide)
        have hn24 := (congrFun eu18 (o + 2)).trans (hup_s _ _ _)
        generalize (upd f17 x2_82.toNatClampNeg w16) = f25 at *
        have l_1 : (1 : Int32).toInt = 1 := by decide
        obtain ⟨w26, ew26⟩ : ∃ w : Int32, w = x2_82 + Int32.ofInt 1 := ⟨_, rfl⟩
        have fw26 : w26.toInt = x2_82.toInt + (1) := by rw [ew26]; exact i_addk (by decide) (by omega) (by omega)
        refine x_iinc (v := w26) C 0 [(2, .int w26), (0, .ref (z + o)), (1, .ref (z + k))] dX3_copyFrom_112 rfl ew26.symm (by decide) rfl ?_
        refine x_goto C 82 dX3_copyFrom_115 (by decide) ?_
        exact ih82 (7 - w26.toInt).toNat (by omega) u18 hTu18 w26 (by omega) (by omega) rfl
  refine x_aload_n C 0 dX3_copyFrom_0 rfl rfl ?_
  refine x_aload_n C 1 dX3_copyFrom_1 rfl rfl ?_
  obtain ⟨c27_0, c27_1, c27_2, c27_3, c27_4, c27_5, c27_6, c27_7, c27_8, c27_9, hc27⟩ := ty_ev hTy0 hk
  refine gfX3_9 C dX3_copyFrom_2 hc27 rfl ?_
  obtain ⟨c28_0, c28_1, c28_2, c28_3, c28_4, c28_5, c28_6, c28_7, c28_8, c28_9, hc28⟩ := ty_ev hTy0 ho
  obtain ⟨u29, eu29⟩ : ∃ w : HpT, w = hup uu0 o (.inr (2, [.int c27_0, .int c28_1, .int c28_2, .int c28_3, .int c28_4, .int c28_5, .int c28_6, .int c28_7, .int c28_8, .int c28_9, .ref (z + (o + 1)), .ref (z + (o + 2))])) := ⟨_, rfl⟩
  refine pfX3_9 C dX3_copyFrom_5 hc28 (Nat.le_of_ble_eq_true rfl) rfl eu29.symm ?_
  have hTu29 : TC G z ln uu0 u29 := by rw [eu29]; exact hTy0.upEv ho
  have hn31 := (congrFun eu29 o).trans (hup_s _ _ _)
  refine x_aload_n C 0 dX3_copyFrom_8 rfl rfl ?_
  refine x_aload_n C 1 dX3_copyFrom_9 rfl rfl ?_
  have k32 := (congrFun eu29 k).trans (hup_n' (by omega) hc27)
  refine gfX3_15 C dX3_copyFrom_10 k32 rfl ?_
  obtain ⟨u33, eu33⟩ : ∃ w : HpT, w = hup u29 o (.inr (2, [.int c27_0, .int c27_1, .int c28_2, .int c28_3, .int c28_4, .int c28_5, .int c28_6, .int c28_7, .int c28_8, .int c28_9, .ref (z + (o + 1)), .ref (z + (o + 2))])) := ⟨_, rfl⟩
  refine pfX3_15 C dX3_copyFrom_13 hn31 (Nat.le_of_ble_eq_true rfl) rfl eu33.symm ?_
  have hTu33 : TC G z ln uu0 u33 := by rw [eu33]; exact hTu29.upEv ho
  have hn35 := (congrFun eu33 o).trans (hup_s _ _ _)
  refine x_aload_n C 0 dX3_copyFrom_16 rfl rfl ?_
  refine x_aload_n C 1 dX3_copyFrom_17 rfl rfl ?_
  have k36 := (congrFun eu33 k).trans (hup_n' (by omega) k32)
  refine gfX3_18 C dX3_copyFrom_18 k36 rfl ?_
  obtain ⟨u37, eu37⟩ : ∃ w : HpT, w = hup u33 o (.inr (2, [.int c27_0, .int c27_1, .int c27_2, .int c28_3, .int c28_4, .int c28_5, .int c28_6, .int c28_7, .int c28_8, .int c28_9, .ref (z + (o + 1)), .ref (z + (o + 2))])) := ⟨_, rfl⟩
  refine pfX3_18 C dX3_copyFrom_21 hn35 (Nat.le_of_ble_eq_true rfl) rfl eu37.symm ?_
  have hTu37 : TC G z ln uu0 u37 := by rw [eu37]; exact hTu33.upEv ho
  have hn39 := (congrFun eu37 o).trans (hup_s _ _ _)
  refine x_aload_n C 0 dX3_copyFrom_24 rfl rfl ?_
  refine x_aload_n C 1 dX3_copyFrom_25 rfl rfl ?_
  have k40 := (congrFun eu37 k).trans (hup_n' (by omega) k36)
  refine gfX3_21 C dX3_copyFrom_26 k40 rfl ?_
  obtain ⟨u41, eu41⟩ : ∃ w : HpT, w = hup u37 o (.inr (2, [.int c27_0, .int c27_1, .int c27_2, .int c27_3, .int c28_4, .int c28_5, .int c28_6, .int c28_7, .int c28_8, .int c28_9, .ref (z + (o + 1)), .ref (z + (o + 2))])) := ⟨_, rfl⟩
  refine pfX3_21 C dX3_copyFrom_29 hn39 (Nat.le_of_ble_eq_true rfl) rfl eu41.symm ?_
  have hTu41 : TC G z ln uu0 u41 := by rw [eu41]; exact hTu37.upEv ho
  have hn43 := (congrFun eu41 o).trans (hup_s _ _ _)
  refine x_aload_n C 0 dX3_copyFrom_32 rfl rfl ?_
  refine x_aload_n C 1 dX3_copyFrom_33 rfl rfl ?_
  have k44 := (congrFun eu41 k).trans (hup_n' (by omega) k40)
  refine gfX3_24 C dX3_copyFrom_34 k44 rfl ?_
  obtain ⟨u45, eu45⟩ : ∃ w : HpT, w = hup u41 o (.inr (2, [.int c27_0, .int c27_1, .int c27_2, .int c27_3, .int c27_4, .int c28_5, .int c28_6, .int c28_7, .int c28_8, .int c28_9, .ref (z + (o + 1)), .ref (z + (o + 2))])) := ⟨_, rfl⟩
  refine pfX3_24 C dX3_copyFrom_37 hn43 (Nat.le_of_ble_eq_true rfl) rfl eu45.symm ?_
  have hTu45 : TC G z ln uu0 u45 := by rw [eu45]; exact hTu41.upEv ho
  have hn47 := (congrFun eu45 o).trans (hup_s _ _ _)
  refine x_aload_n C 0 dX3_copyFrom_40 rfl rfl ?_
  refine x_aload_n C 1 dX3_copyFrom_41 rfl rfl ?_
  have k48 := (congrFun eu45 k).trans (hup_n' (by omega) k44)
  refine gfX3_27 C dX3_copyFrom_42 k48 rfl ?_
  obtain ⟨u49, eu49⟩ : ∃ w : HpT, w = hup u45 o (.inr (2, [.int c27_0, .int c27_1, .int c27_2, .int c27_3, .int c27_4, .int c27_5, .int c28_6, .int c28_7, .int c28_8, .int c28_9, .ref (z + (o + 1)), .ref (z + (o + 2))])) := ⟨_, rfl⟩
  refine pfX3_27 C dX3_copyFrom_45 hn47 (Nat.le_of_ble_eq_true rfl) rfl eu49.symm ?_
  have hTu49 : TC G z ln uu0 u49 := by rw [eu49]; exact hTu45.upEv ho
  have hn51 := (congrFun eu49 o).trans (hup_s _ _ _)
  refine x_aload_n C 0 dX3_copyFrom_48 rfl rfl ?_
  refine x_aload_n C 1 dX3_copyFrom_49 rfl rfl ?_
  have k52 := (congrFun eu49 k).trans (hup_n' (by omega) k48)
  refine gfX3_30 C dX3_copyFrom_50 k52 rfl ?_
  obtain ⟨u53, eu53⟩ : ∃ w : HpT, w = hup u49 o (.inr (2, [.int c27_0, .int c27_1, .int c27_2, .int c27_3, .int c27_4, .int c27_5, .int c27_6, .int c28_7, .int c28_8, .int c28_9, .ref (z + (o + 1)), .ref (z + (o + 2))])) := ⟨_, rfl⟩
  refine pfX3_30 C dX3_copyFrom_53 hn51 (Nat.le_of_ble_eq_true rfl) rfl eu53.symm ?_
  have hTu53 : TC G z ln uu0 u53 := by rw [eu53]; exact hTu49.upEv ho
  have hn55 := (congrFun eu53 o).trans (hup_s _ _ _)
  refine x_aload_n C 0 dX3_copyFrom_56 rfl rfl ?_
  refine x_aload_n C 1 dX3_copyFrom_57 rfl rfl ?_
  have k56 := (congrFun eu53 k).trans (hup_n' (by omega) k52)
  refine gfX3_33 C dX3_copyFrom_58 k56 rfl ?_
  obtain ⟨u57, eu57⟩ : ∃ w : HpT, w = hup u53 o (.inr (2, [.int c27_0, .int c27_1, .int c27_2, .int c27_3, .int c27_4, .int c27_5, .int c27_6, .int c27_7, .int c28_8, .int c28_9, .ref (z + (o + 1)), .ref (z + (o + 2))])) := ⟨_, rfl⟩
  refine pfX3_33 C dX3_copyFrom_61 hn55 (Nat.le_of_ble_eq_true rfl) rfl eu57.symm ?_
  have hTu57 : TC G z ln uu0 u57 := by rw [eu57]; exact hTu53.upEv ho
  have hn59 := (congrFun eu57 o).trans (hup_s _ _ _)
  refine x_aload_n C 0 dX3_copyFrom_64 rfl rfl ?_
  refine x_aload_n C 1 dX3_copyFrom_65 rfl rfl ?_
  have k60 := (congrFun eu57 k).trans (hup_n' (by omega) k56)
  refine gfX3_36 C dX3_copyFrom_66 k60 rfl ?_
  obtain ⟨u61, eu61⟩ : ∃ w : HpT, w = hup u57 o (.inr (2, [.int c27_0, .int c27_1, .int c27_2, .int c27_3, .int c27_4, .int c27_5, .int c27_6, .int c27_7, .int c27_8, .int c28_9, .ref (z + (o + 1)), .ref (z + (o + 2))])) := ⟨_, rfl⟩
  refine pfX3_36 C dX3_copyFrom_69 hn59 (Nat.le_of_ble_eq_true rfl) rfl eu61.symm ?_
  have hTu61 : TC G z ln uu0 u61 := by rw [eu61]; exact hTu57.upEv ho
  have hn63 := (congrFun eu61 o).trans (hup_s _ _ _)
  refine x_aload_n C 0 dX3_copyFrom_72 rfl rfl ?_
  refine x_aload_n C 1 dX3_copyFrom_73 rfl rfl ?_
  have k64 := (congrFun eu61 k).trans (hup_n' (by omega) k60)
  refine gfX3_39 C dX3_copyFrom_74 k64 rfl ?_
  obtain ⟨u65, eu65⟩ : ∃ w : HpT, w = hup u61 o (.inr (2, [.int c27_0, .int c27_1, .int c27_2, .int c27_3, .int c27_4, .int c27_5, .int c27_6, .int c27_7, .int c27_8, .int c27_9, .ref (z + (o + 1)), .ref (z + (o + 2))])) := ⟨_, rfl⟩
  refine pfX3_39 C dX3_copyFrom_77 hn63 (Nat.le_of_ble_eq_true rfl) rfl eu65.symm ?_
  have hTu65 : TC G z ln uu0 u65 := by rw [eu65]; exact hTu61.upEv ho
  have hn67 := (congrFun eu65 o).trans (hup_s _ _ _)
  refine x_iconst (v := (0 : Int32)) C dX3_copyFrom_80 (by decide) ?_
  refine x_istore_n C [(2, .int (0 : Int32)), (0, .ref (z + o)), (1, .ref (z + k))] dX3_copyFrom_81 rfl (by decide) rfl ?_
  have l_0 : (0 : Int32).toInt = 0 := by decide
  exact J82 (7 - (0 : Int32).toInt).toNat u65 hTu65 (0 : Int32) (by omega) (by omega) rfl
set_option maxRecDepth 20000 in
set_option maxHeartbeats 2000000 in
theorem tc_X6_remember {G : GT} {l : Launch} {z n : Nat} {ln : Int} (uu0 : HpT) (hTz0 : TyC G z ln uu0) : Mp G l z yX6_remember cX6_remember 2 none { frames := 1, cells := 0, slots := 0, locals := 22 } [.ref (z + 6), .ref (z + 3)] uu0 n (fun r v => TC G z ln uu0 v ∧ r = none) := by
  refine mp_of (by decide +kernel) (Nat.le_of_ble_eq_true rfl) ?_
  intro p e s m below meth c C hr hlk hnm
  have hTy0 : TC G z ln uu0 uu0 := TC.rf hTz0
  refine x_aload_n C 0 dX6_remember_0 rfl rfl ?_
  obtain ⟨c1_1, c1_2, hc1, qc1_0, qc1_1, qc1_2, qc1_3⟩ := ty_6 hTy0
  refine gfX6_11 C dX6_remember_1 hc1 rfl ?_
  refine x_aload_n C 0 dX6_remember_4 rfl rfl ?_
  refine gfX6_21 C dX6_remember_5 hc1 rfl ?_
  obtain ⟨f2, hf2, qf2_0⟩ := ty_7 hTy0
  obtain ⟨o3, eo3, po3, mo3⟩ : ∃ o, f2 c1_2.toNatClampNeg = some (z + o) ∧ EvO o ∧ (8 ≤ o ∧ o ≤ 95) := ⟨8 + 3 * c1_2.toNatClampNeg, qf2_0 _ (i_cl (by omega) (by omega)), Or.inr (Or.inr (Or.inr ⟨_, i_cl (by omega) (by omega), rfl⟩)), by have := i_cl (x := c1_2) (n := 30) (by omega) (by omega); omega⟩
  refine x_aaldE C hf2 (i_in (by omega) (by omega)) eo3 dX6_remember_8 ?_
  refine x_aload_n C 1 dX6_remember_9 rfl rfl ?_
  obtain ⟨c4_0, c4_1, c4_2, c4_3, c4_4, c4_5, c4_6, c4_7, c4_8, c4_9, hc4⟩ := ty_ev hTy0 po3
  refine x_callVP C cl_X3_copyFrom kmX6_25 (ci := 2) (b := o3) (As := [.ref (z + 3)]) (rest := []) rfl hc4 (tc_X3_copyFrom uu0 hTy0.1 o3 po3 3 (Or.inl rfl) (by omega)) rfl rfl (Nat.le_of_ble_eq_true rfl) ⟨Nat.le_of_ble_eq_true rfl, Nat.le_of_ble_eq_true rfl⟩ ⟨Nat.le_of_ble_eq_true rfl, Nat.le_of_ble_eq_true rfl⟩ dX6_remember_10 ?_
  rintro _ u5 ⟨ju5, rfl⟩
  have hTu5 := hTy0.tr ju5
  refine x_norm (st2 := []) rfl rfl rfl rfl rfl ?_
  refine x_aload_n C 0 dX6_remember_13 rfl rfl ?_
  refine x_aload_n C 0 dX6_remember_14 rfl rfl ?_
  obtain ⟨c6_1, c6_2, hc6, qc6_0, qc6_1, qc6_2, qc6_3⟩ := ty_6 hTu5
  refine gfX6_21 C dX6_remember_15 hc6 rfl ?_
  refine x_iconst (v := (1 : Int32)) C dX6_remember_18 (by decide) ?_
  refine x_iadd C dX6_remember_19 ?_
  have l_1 : (1 : Int32).toInt = 1 := by decide
  refine x_top (fun w7 ew7 => ?_)
  have fw7_0 : w7.toInt = c6_2.toInt + (1 : Int32).toInt := by rw [ew7]; exact i_add (by omega) (by omega)
  refine x_bipush (v := (30 : Int32)) C dX6_remember_20 (by decide) ?_
  have l_30 : (30 : Int32).toInt = 30 := by decide
  refine x_irem C dX6_remember_22 (by decide) ?_
  refine x_top (fun w8 ew8 => ?_)
  have fw8_0 : w8.toInt = w7.toInt % 30 := by rw [ew8]; exact i_remk (by decide) (by decide) (by omega)
  obtain ⟨u9, eu9⟩ : ∃ w : HpT, w = hup u5 6 (.inr (5, [.ref (z + 7), .int c6_1, .int w8])) := ⟨_, rfl⟩
  refine pfX6_21 C dX6_remember_23 hc6 (Nat.le_of_ble_eq_true rfl) rfl eu9.symm ?_
  have hTu9 : TC G z ln uu0 u9 := by rw [eu9]; exact hTu5.up_6 (by omega)
  have hn10 := (congrFun eu9 6).trans (hup_s _ _ _)
  refine x_aload_n C 0 dX6_remember_26 rfl rfl ?_
  refine x_aload_n C 0 dX6_remember_27 rfl rfl ?_
  refine gfX6_17 C dX6_remember_28 hn10 rfl ?_
  refine x_iconst (v := (1 : Int32)) C dX6_remember_31 (by decide) ?_
  refine x_iadd C dX6_remember_32 ?_
  refine x_top (fun w11 ew11 => ?_)
  have fw11_0 : w11.toInt = c6_1.toInt + (1 : Int32).toInt := by rw [ew11]; exact i_add (by omega) (by omega)
  refine x_bipush (v := (30 : Int32)) C dX6_remember_33 (by decide) ?_
  refine x_min C kmX6_29 kMs_min kzMath kMc_min (Nat.le_of_ble_eq_true rfl) (Nat.le_of_ble_eq_true rfl) (Nat.le_of_ble_eq_true rfl) (Nat.le_of_ble_eq_true rfl) dX6_remember_35 ?_
  refine x_top (fun w12 ew12 => ?_)
  have fw12_0 : (w12.toInt = w11.toInt ∨ w12.toInt = (30 : Int32).toInt) ∧ w12.toInt ≤ w11.toInt ∧ w12.toInt ≤ (30 : Int32).toInt := by rw [ew12]; exact i_min _ _
  obtain ⟨u13, eu13⟩ : ∃ w : HpT, w = hup u9 6 (.inr (5, [.ref (z + 7), .int w12, .int w8])) := ⟨_, rfl⟩
  refine pfX6_17 C dX6_remember_38 hn10 (Nat.le_of_ble_eq_true rfl) rfl eu13.symm ?_
  have hTu13 : TC G z ln uu0 u13 := by rw [eu13]; exact hTu9.up_6 (by omega)
  have hn14 := (congrFun eu13 6).trans (hup_s _ _ _)
  exact x_vretP C hr hlk (Nat.le_refl _) (Nat.le_refl _) dX6_remember_41 ⟨hTu13, rfl⟩
set_option maxRecDepth 20000 in
set_option maxHeartbeats 2000000 in
theorem tc_X6_takeBack {G : GT} {l : Launch} {z n : Nat} {ln : Int} (uu0 : HpT) (hTz0 : TyC G z ln uu0) (a1 : Int32) : Mp G l z yX6_takeBack cX6_takeBack 3 none { frames := 1, cells := 0, slots := 0, locals := 22 } [.ref (z + 6), .int a1, .ref (z + 3)] uu0 n (fun r v => TC G z ln uu0 v ∧ r = none) := by
  refine mp_of (by decide +kernel) (Nat.le_of_ble_eq_true rfl) ?_
  intro p e s m below meth c C hr hlk hnm
  have hTy0 : TC G z ln uu0 uu0 := TC.rf hTz0
  refine x_iload_n C 1 dX6_takeBack_0 rfl rfl ?_
  refine x_iconst (v := (1 : Int32)) C dX6_takeBack_1 (by decide) ?_
  have l_1 : (1 : Int32).toInt = 1 := by decide
  refine x_icmp_lt C 13 dX6_takeBack_2 (by decide) (fun q1 => ?_) (fun q1 => ?_)
  · have rq1 : a1.toInt < (1 : Int32).toInt := by rw [Int32.lt_iff_toInt_lt] at q1; omega
    exact x_vretP C hr hlk (Nat.le_refl _) (Nat.le_refl _) dX6_takeBack_13 ⟨hTy0, rfl⟩
  · have rq1 : a1.toInt ≥ (1 : Int32).toInt := by rw [Int32.lt_iff_toInt_lt] at q1; omega
    refine x_iload_n C 1 dX6_takeBack_5 rfl rfl ?_
    refine x_aload_n C 0 dX6_takeBack_6 rfl rfl ?_
    obtain ⟨c2_1, c2_2, hc2, qc2_0, qc2_1, qc2_2, qc2_3⟩ := ty_6 hTy0
    refine gfX6_17 C dX6_takeBack_7 hc2 rfl ?_
    refine x_icmp_le C 14 dX6_takeBack_10 (by decide) (fun q3 => ?_) (fun q3 => ?_)
    · have rq3 : a1.toInt ≤ c2_1.toInt := by rw [Int32.le_iff_toInt_le] at q3; omega
      refine x_aload_n C 0 dX6_takeBack_14 rfl rfl ?_
      refine x_aload_n C 0 dX6_takeBack_15 rfl rfl ?_
      refine gfX6_21 C dX6_takeBack_16 hc2 rfl ?_
      refine x_bipush (v := (30 : Int32)) C dX6_takeBack_19 (by decide) ?_
      refine x_iadd C dX6_takeBack_21 ?_
      have l_30 : (30 : Int32).toInt = 30 := by decide
      refine x_top (fun w4 ew4 => ?_)
      have fw4_0 : w4.toInt = c2_2.toInt + (30 : Int32).toInt := by rw [ew4]; exact i_add (by omega) (by omega)
      refine x_iload_n C 1 dX6_takeBack_22 rfl rfl ?_
      refine x_isub C dX6_takeBack_23 ?_
      refine x_top (fun w5 ew5 => ?_)
      have fw5_0 : w5.toInt = w4.toInt - a1.toInt := by rw [ew5]; exact i_sub (by omega) (by omega)
      refine x_bipush (v := (30 : Int32)) C dX6_takeBack_24 (by decide) ?_
      refine x_irem C dX6_takeBack_26 (by decide) ?_
      refine x_top (fun w6 ew6 => ?_)
      have fw6_0 : w6.toInt = w5.toInt % 30 := by rw [ew6]; exact i_remk (by decide) (by decide) (by omega)
      obtain ⟨u7, eu7⟩ : ∃ w : HpT, w = hup uu0 6 (.inr (5, [.ref (z + 7), .int c2_1, .int w6])) := ⟨_, rfl⟩
      refine pfX6_21 C dX6_takeBack_27 hc2 (Nat.le_of_ble_eq_true rfl) rfl eu7.symm ?_
      have hTu7 : TC G z ln uu0 u7 := by rw [eu7]; exact hTy0.up_6 (by omega)
      have hn8 := (congrFun eu7 6).trans (hup_s _ _ _)
      refine x_aload_n C 0 dX6_takeBack_30 rfl rfl ?_
      refine x_dup C dX6_takeBack_31 rfl ?_
      refine gfX6_17 C dX6_takeBack_32 hn8 rfl ?_
      refine x_iload_n C 1 dX6_takeBack_35 rfl rfl ?_
      refine x_isub C dX6_takeBack_36 ?_
      refine x_top (fun w9 ew9 => ?_)
      have fw9_0 : w9.toInt = c2_1.toInt - a1.toInt := by rw [ew9]; exact i_sub (by omega) (by omega)
      obtain ⟨u10, eu10⟩ : ∃ w : HpT, w = hup u7 6 (.inr (5, [.ref (z + 7), .int w9, .int w6])) := ⟨_, rfl⟩
      refine pfX6_17 C dX6_takeBack_37 hn8 (Nat.le_of_ble_eq_true rfl) rfl eu10.symm ?_
      have hTu10 : TC G z ln uu0 u10 := by rw [eu10]; exact hTu7.up_6 (by omega)
      have hn11 := (congrFun eu10 6).trans (hup_s _ _ _)
      refine x_aload_n C 2 dX6_takeBack_40 rfl rfl ?_
      refine x_aload_n C 0 dX6_takeBack_41 rfl rfl ?_
      refine gfX6_11 C dX6_takeBack_42 hn11 rfl ?_
      refine x_aload_n C 0 dX6_takeBack_45 rfl rfl ?_
      refine gfX6_21 C dX6_takeBack_46 hn11 rfl ?_
      obtain ⟨f12, hf12, qf12_0⟩ := ty_7 hTu10
      obtain ⟨o13, eo13, po13, mo13⟩ : ∃ o, f12 w6.toNatClampNeg = some (z + o) ∧ EvO o ∧ (8 ≤ o ∧ o ≤ 95) := ⟨8 + 3 * w6.toNatClampNeg, qf12_0 _ (i_cl (by omega) (by omega)), Or.inr (Or.inr (Or.inr ⟨_, i_cl (by omega) (by omega), rfl⟩)), by have := i_cl (x := w6) (n := 30) (by omega) (by omega); omega⟩
      refine x_aaldE C hf12 (i_in (by omega) (by omega)) eo13 dX6_takeBack_49 ?_
      obtain ⟨c14_0, c14_1, c14_2, c14_3, c14_4, c14_5, c14_6, c14_7, c14_8, c14_9, hc14⟩ := ty_ev hTu10 (Or.inl rfl)
      refine x_callVP C cl_X3_copyFrom kmX6_25 (ci := 2) (b := 3) (As := [.ref (z + o13)]) (rest := []) rfl hc14 (tc_X3_copyFrom u10 hTu10.1 3 (Or.inl rfl) o13 po13 (by omega)) rfl rfl (Nat.le_of_ble_eq_true rfl) ⟨Nat.le_of_ble_eq_true rfl, Nat.le_of_ble_eq_true rfl⟩ ⟨Nat.le_of_ble_eq_true rfl, Nat.le_of_ble_eq_true rfl⟩ dX6_takeBack_50 ?_
      rintro _ u15 ⟨ju15, rfl⟩
      have hTu15 := hTu10.tr ju15
      refine x_norm (st2 := []) rfl rfl rfl rfl rfl ?_
      exact x_vretP C hr hlk (Nat.le_refl _) (Nat.le_refl _) dX6_takeBack_53 ⟨hTu15, rfl⟩
    · have rq3 : a1.toInt > c2_1.toInt := by rw [Int32.le_iff_toInt_le] at q3; omega
      exact x_vretP C hr hlk (Nat.le_refl _) (Nat.le_refl _) dX6_takeBack_13 ⟨hTy0, rfl⟩
set_option maxRecDepth 20000 in
set_option maxHeartbeats 2000000 in
theorem tc_X6_forget {G : GT} {l : Launch} {z n : Nat} {ln : Int} (uu0 : HpT) (hTz0 : TyC G z ln uu0) : Mp G l z yX6_forget cX6_forget 1 none { frames := 0, cells := 0, slots := 0, locals := 0 } [.ref (z + 6)] uu0 n (fun r v => TC G z ln uu0 v ∧ r = none) := by
  refine mp_of (by decide +kernel) (Nat.le_of_ble_eq_true rfl) ?_
  intro p e s m below meth c C hr hlk hnm
  have hTy0 : TC G z ln uu0 uu0 := TC.rf hTz0
  refine x_aload_n C 0 dX6_forget_0 rfl rfl ?_
  refine x_iconst (v := (0 : Int32)) C dX6_forget_1 (by decide) ?_
  obtain ⟨c1_1, c1_2, hc1, qc1_0, qc1_1, qc1_2, qc1_3⟩ := ty_6 hTy0
  have l_0 : (0 : Int32).toInt = 0 := by decide
  obtain ⟨u2, eu2⟩ : ∃ w : HpT, w = hup uu0 6 (.inr (5, [.ref (z + 7), .int (0 : Int32), .int c1_2])) := ⟨_, rfl⟩
  refine pfX6_17 C dX6_forget_2 hc1 (Nat.le_of_ble_eq_true rfl) rfl eu2.symm ?_
  have hTu2 : TC G z ln uu0 u2 := by rw [eu2]; exact hTy0.up_6 (by omega)
  have hn3 := (congrFun eu2 6).trans (hup_s _ _ _)
  exact x_vretP C hr hlk (Nat.le_refl _) (Nat.le_refl _) dX6_forget_5 ⟨hTu2, rfl⟩
