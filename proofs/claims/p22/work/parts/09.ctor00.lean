set_option maxRecDepth 20000 in
theorem p_X7_init_0 {G : GT} {l : Launch} {z : Nat} (u : HpT) (h1 : u 1 = some (.inr (6, [.null, .int (0 : Int32), .int (0 : Int32), .int (0 : Int32), .int (0 : Int32)]))) : Mt G l z yX7_init cX7_init 1 none { frames := 1, cells := 1, slots := 240, locals := 12 } [.ref (z + 1)] u 2 none (hup (hup u 2 (aI G 240 (fun _ => 0))) 1 (.inr (6, [.ref (z + 2), .int (0 : Int32), .int (0 : Int32), .int (0 : Int32), .int (-1 : Int32)]))) 3 := by
  refine mt_of (by decide +kernel) (Nat.le_of_ble_eq_true rfl) ?_
  intro p e s m below meth c C hr hlk hnm
  refine x_aload_n C 0 dX7_init_0 rfl rfl ?_
  refine x_objInit C kmX7_3 kObjI kObjC (Nat.le_of_ble_eq_true rfl) (Nat.le_of_ble_eq_true rfl) dX7_init_1 ?_
  refine x_aload_n C 0 dX7_init_4 rfl rfl ?_
  refine x_sipush (v := (240 : Int32)) C dX7_init_5 (by decide) ?_
  refine x_newI C ka_int 240 (by decide) (by decide) (Nat.le_of_ble_eq_true rfl) (Nat.le_of_ble_eq_true rfl) (Nat.le_of_ble_eq_true rfl) dX7_init_8 ?_
  obtain ⟨u1, eu1⟩ : ∃ w : HpT, w = (hup u 2 (aI G 240 (fun _ => 0))) := ⟨_, rfl⟩
  refine x_norm (st2 := [.ref (z + 2), .ref (z + 1)]) (kc2 := 1) (ks2 := 240) (n2 := 3) rfl rfl rfl rfl eu1.symm ?_
  have k1_1 := (congrFun eu1 1).trans (hup_n' (by decide) (h1))
  obtain ⟨u2, eu2⟩ : ∃ w : HpT, w = (hup u1 1 (.inr (6, [.ref (z + 2), .int (0 : Int32), .int (0 : Int32), .int (0 : Int32), .int (0 : Int32)]))) := ⟨_, rfl⟩
  refine pfX7_9 C dX7_init_10 hnm k1_1 (Nat.le_of_ble_eq_true rfl) rfl eu2.symm ?_
  refine x_aload_n C 0 dX7_init_13 rfl rfl ?_
  refine x_iconst (v := (0 : Int32)) C dX7_init_14 (by decide) ?_
  have k1_2 := (congrFun eu2 1).trans (hup_s _ _ _)
  obtain ⟨u3, eu3⟩ : ∃ w : HpT, w = (hup u2 1 (.inr (6, [.ref (z + 2), .int (0 : Int32), .int (0 : Int32), .int (0 : Int32), .int (0 : Int32)]))) := ⟨_, rfl⟩
  refine pfX7_15 C dX7_init_15 k1_2 (Nat.le_of_ble_eq_true rfl) rfl eu3.symm ?_
  refine x_aload_n C 0 dX7_init_18 rfl rfl ?_
  refine x_iconst (v := (0 : Int32)) C dX7_init_19 (by decide) ?_
  have k1_3 := (congrFun eu3 1).trans (hup_s _ _ _)
  obtain ⟨u4, eu4⟩ : ∃ w : HpT, w = (hup u3 1 (.inr (6, [.ref (z + 2), .int (0 : Int32), .int (0 : Int32), .int (0 : Int32), .int (0 : Int32)]))) := ⟨_, rfl⟩
  refine pfX7_19 C dX7_init_20 k1_3 (Nat.le_of_ble_eq_true rfl) rfl eu4.symm ?_
  refine x_aload_n C 0 dX7_init_23 rfl rfl ?_
  refine x_iconst (v := (0 : Int32)) C dX7_init_24 (by decide) ?_
  have k1_4 := (congrFun eu4 1).trans (hup_s _ _ _)
  obtain ⟨u5, eu5⟩ : ∃ w : HpT, w = (hup u4 1 (.inr (6, [.ref (z + 2), .int (0 : Int32), .int (0 : Int32), .int (0 : Int32), .int (0 : Int32)]))) := ⟨_, rfl⟩
  refine pfX7_22 C dX7_init_25 k1_4 (Nat.le_of_ble_eq_true rfl) rfl eu5.symm ?_
  refine x_aload_n C 0 dX7_init_28 rfl rfl ?_
  refine x_iconst (v := (-1 : Int32)) C dX7_init_29 (by decide) ?_
  have k1_5 := (congrFun eu5 1).trans (hup_s _ _ _)
  obtain ⟨u6, eu6⟩ : ∃ w : HpT, w = (hup u5 1 (.inr (6, [.ref (z + 2), .int (0 : Int32), .int (0 : Int32), .int (0 : Int32), .int (-1 : Int32)]))) := ⟨_, rfl⟩
  refine pfX7_25 C dX7_init_30 k1_5 (Nat.le_of_ble_eq_true rfl) rfl eu6.symm ?_
  exact x_vret C hr hlk (Nat.le_of_ble_eq_true rfl) (Nat.le_of_ble_eq_true rfl) dX7_init_33 rfl (by rw [eu6, eu5, eu4, eu3, eu2, eu1]; simp only [hup_hup, hup_sk, ne_eq, Nat.reduceEqDiff, not_false_eq_true]) rfl
set_option maxRecDepth 20000 in
theorem p_X3_init_0 {G : GT} {l : Launch} {z : Nat} (u : HpT) (h3 : u 3 = some (.inr (2, [.int (0 : Int32), .int (0 : Int32), .int (0 : Int32), .int (0 : Int32), .int (0 : Int32), .int (0 : Int32), .int (0 : Int32), .int (0 : Int32), .int (0 : Int32), .int (0 : Int32), .null, .null]))) : Mt G l z yX3_init cX3_init 1 none { frames := 1, cells := 2, slots := 12, locals := 12 } [.ref (z + 3)] u 4 none (hup (hup (hup u 4 (aI G 6 (fun _ => 0))) 5 (aI G 6 (fun _ => 0))) 3 (.inr (2, [.int (0 : Int32), .int (0 : Int32), .int (0 : Int32), .int (0 : Int32), .int (-1 : Int32), .int (0 : Int32), .int (-1 : Int32), .int (0 : Int32), .int (0 : Int32), .int (0 : Int32), .ref (z + 4), .ref (z + 5)]))) 6 := by
  refine mt_of (by decide +kernel) (Nat.le_of_ble_eq_true rfl) ?_
  intro p e s m below meth c C hr hlk hnm
  refine x_aload_n C 0 dX3_init_0 rfl rfl ?_
  refine x_objInit C kmX3_3 kObjI kObjC (Nat.le_of_ble_eq_true rfl) (Nat.le_of_ble_eq_true rfl) dX3_init_1 ?_
  refine x_aload_n C 0 dX3_init_4 rfl rfl ?_
  refine x_iconst (v := (0 : Int32)) C dX3_init_5 (by decide) ?_
  obtain ⟨u1, eu1⟩ : ∃ w : HpT, w = (hup u 3 (.inr (2, [.int (0 : Int32), .int (0 : Int32), .int (0 : Int32), .int (0 : Int32), .int (0 : Int32), .int (0 : Int32), .int (0 : Int32), .int (0 : Int32), .int (0 : Int32), .int (0 : Int32), .null, .null]))) := ⟨_, rfl⟩
  refine pfX3_9 C dX3_init_6 h3 (Nat.le_of_ble_eq_true rfl) rfl eu1.symm ?_
  refine x_aload_n C 0 dX3_init_9 rfl rfl ?_
  refine x_iconst (v := (0 : Int32)) C dX3_init_10 (by decide) ?_
  have k3_1 := (congrFun eu1 3).trans (hup_s _ _ _)
  obtain ⟨u2, eu2⟩ : ∃ w : HpT, w = (hup u1 3 (.inr (2, [.int (0 : Int32), .int (0 : Int32), .int (0 : Int32), .int (0 : Int32), .int (0 : Int32), .int (0 : Int32), .int (0 : Int32), .int (0 : Int32), .int (0 : Int32), .int (0 : Int32), .null, .null]))) := ⟨_, rfl⟩
  refine pfX3_15 C dX3_init_11 k3_1 (Nat.le_of_ble_eq_true rfl) rfl eu2.symm ?_
  refine x_aload_n C 0 dX3_init_14 rfl rfl ?_
  refine x_iconst (v := (0 : Int32)) C dX3_init_15 (by decide) ?_
  have k3_2 := (congrFun eu2 3).trans (hup_s _ _ _)
  obtain ⟨u3, eu3⟩ : ∃ w : HpT, w = (hup u2 3 (.inr (2, [.int (0 : Int32), .int (0 : Int32), .int (0 : Int32), .int (0 : Int32), .int (0 : Int32), .int (0 : Int32), .int (0 : Int32), .int (0 : Int32), .int (0 : Int32), .int (0 : Int32), .null, .null]))) := ⟨_, rfl⟩
  refine pfX3_18 C dX3_init_16 k3_2 (Nat.le_of_ble_eq_true rfl) rfl eu3.symm ?_
  refine x_aload_n C 0 dX3_init_19 rfl rfl ?_
  refine x_iconst (v := (0 : Int32)) C dX3_init_20 (by decide) ?_
  have k3_3 := (congrFun eu3 3).trans (hup_s _ _ _)
  obtain ⟨u4, eu4⟩ : ∃ w : HpT, w = (hup u3 3 (.inr (2, [.int (0 : Int32), .int (0 : Int32), .int (0 : Int32), .int (0 : Int32), .int (0 : Int32), .int (0 : Int32), .int (0 : Int32), .int (0 : Int32), .int (0 : Int32), .int (0 : Int32), .null, .null]))) := ⟨_, rfl⟩
  refine pfX3_21 C dX3_init_21 k3_3 (Nat.le_of_ble_eq_true rfl) rfl eu4.symm ?_
  refine x_aload_n C 0 dX3_init_24 rfl rfl ?_
  refine x_iconst (v := (-1 : Int32)) C dX3_init_25 (by decide) ?_
  have k3_4 := (congrFun eu4 3).trans (hup_s _ _ _)
  obtain ⟨u5, eu5⟩ : ∃ w : HpT, w = (hup u4 3 (.inr (2, [.int (0 : Int32), .int (0 : Int32), .int (0 : Int32), .int (0 : Int32), .int (-1 : Int32), .int (0 : Int32), .int (0 : Int32), .int (0 : Int32), .int (0 : Int32), .int (0 : Int32), .null, .null]))) := ⟨_, rfl⟩
  refine pfX3_24 C dX3_init_26 k3_4 (Nat.le_of_ble_eq_true rfl) rfl eu5.symm ?_
  refine x_aload_n C 0 dX3_init_29 rfl rfl ?_
  refine x_iconst (v := (0 : Int32)) C dX3_init_30 (by decide) ?_
  have k3_5 := (congrFun eu5 3).trans (hup_s _ _ _)
  obtain ⟨u6, eu6⟩ : ∃ w : HpT, w = (hup u5 3 (.inr (2, [.int (0 : Int32), .int (0 : Int32), .int (0 : Int32), .int (0 : Int32), .int (-1 : Int32), .int (0 : Int32), .int (0 : Int32), .int (0 : Int32), .int (0 : Int32), .int (0 : Int32), .null, .null]))) := ⟨_, rfl⟩
  refine pfX3_27 C dX3_init_31 k3_5 (Nat.le_of_ble_eq_true rfl) rfl eu6.symm ?_
  refine x_aload_n C 0 dX3_init_34 rfl rfl ?_
  refine x_iconst (v := (-1 : Int32)) C dX3_init_35 (by decide) ?_
  have k3_6 := (congrFun eu6 3).trans (hup_s _ _ _)
  obtain ⟨u7, eu7⟩ : ∃ w : HpT, w = (hup u6 3 (.inr (2, [.int (0 : Int32), .int (0 : Int32), .int (0 : Int32), .int (0 : Int32), .int (-1 : Int32), .int (0 : Int32), .int (-1 : Int32), .int (0 : Int32), .int (0 : Int32), .int (0 : Int32), .null, .null]))) := ⟨_, rfl⟩
  refine pfX3_30 C dX3_init_36 k3_6 (Nat.le_of_ble_eq_true rfl) rfl eu7.symm ?_
  refine x_aload_n C 0 dX3_init_39 rfl rfl ?_
  refine x_iconst (v := (0 : Int32)) C dX3_init_40 (by decide) ?_
  have k3_7 := (congrFun eu7 3).trans (hup_s _ _ _)
  obtain ⟨u8, eu8⟩ : ∃ w : HpT, w = (hup u7 3 (.inr (2, [.int (0 : Int32), .int (0 : Int32), .int (0 : Int32), .int (0 : Int32), .int (-1 : Int32), .int (0 : Int32), .int (-1 : Int32), .int (0 : Int32), .int (0 : Int32), .int (0 : Int32), .null, .null]))) := ⟨_, rfl⟩
  refine pfX3_33 C dX3_init_41 k3_7 (Nat.le_of_ble_eq_true rfl) rfl eu8.symm ?_
  refine x_aload_n C 0 dX3_init_44 rfl rfl ?_
  refine x_iconst (v := (0 : Int32)) C dX3_init_45 (by decide) ?_
  have k3_8 := (congrFun eu8 3).trans (hup_s _ _ _)
  obtain ⟨u9, eu9⟩ : ∃ w : HpT, w = (hup u8 3 (.inr (2, [.int (0 : Int32), .int (0 : Int32), .int (0 : Int32), .int (0 : Int32), .int (-1 : Int32), .int (0 : Int32), .int (-1 : Int32), .int (0 : Int32), .int (0 : Int32), .int (0 : Int32), .null, .null]))) := ⟨_, rfl⟩
  refine pfX3_36 C dX3_init_46 k3_8 (Nat.le_of_ble_eq_true rfl) rfl eu9.symm ?_
  refine x_aload_n C 0 dX3_init_49 rfl rfl ?_
  refine x_iconst (v := (0 : Int32)) C dX3_init_50 (by decide) ?_
  have k3_9 := (congrFun eu9 3).trans (hup_s _ _ _)
  obtain ⟨u10, eu10⟩ : ∃ w : HpT, w = (hup u9 3 (.inr (2, [.int (0 : Int32), .int (0 : Int32), .int (0 : Int32), .int (0 : Int32), .int (-1 : Int32), .int (0 : Int32), .int (-1 : Int32), .int (0 : Int32), .int (0 : Int32), .int (0 : Int32), .null, .null]))) := ⟨_, rfl⟩
  refine pfX3_39 C dX3_init_51 k3_9 (Nat.le_of_ble_eq_true rfl) rfl eu10.symm ?_
  refine x_aload_n C 0 dX3_init_54 rfl rfl ?_
  refine x_bipush (v := (6 : Int32)) C dX3_init_55 (by decide) ?_
  refine x_newI C ka_int 6 (by decide) (by decide) (Nat.le_of_ble_eq_true rfl) (Nat.le_of_ble_eq_true rfl) (Nat.le_of_ble_eq_true rfl) dX3_init_57 ?_
  obtain ⟨u11, eu11⟩ : ∃ w : HpT, w = (hup u10 4 (aI G 6 (fun _ => 0))) := ⟨_, rfl⟩
  refine x_norm (st2 := [.ref (z + 4), .ref (z + 3)]) (kc2 := 1) (ks2 := 6) (n2 := 5) rfl rfl rfl rfl eu11.symm ?_
  have k3_10 := (congrFun eu10 3).trans (hup_s _ _ _)
  have k3_11 := (congrFun eu11 3).trans (hup_n' (by decide) (k3_10))
  obtain ⟨u12, eu12⟩ : ∃ w : HpT, w = (hup u11 3 (.inr (2, [.int (0 : Int32), .int (0 : Int32), .int (0 : Int32), .int (0 : Int32), .int (-1 : Int32), .int (0 : Int32), .int (-1 : Int32), .int (0 : Int32), .int (0 : Int32), .int (0 : Int32), .ref (z + 4), .null]))) := ⟨_, rfl⟩
  refine pfX3_42 C dX3_init_59 hnm k3_11 (Nat.le_of_ble_eq_true rfl) rfl eu12.symm ?_
  refine x_aload_n C 0 dX3_init_62 rfl rfl ?_
  refine x_bipush (v := (6 : Int32)) C dX3_init_63 (by decide) ?_
  refine x_newI C ka_int 6 (by decide) (by decide) (Nat.le_of_ble_eq_true rfl) (Nat.le_of_ble_eq_true rfl) (Nat.le_of_ble_eq_true rfl) dX3_init_65 ?_
  obtain ⟨u13, eu13⟩ : ∃ w : HpT, w = (hup u12 5 (aI G 6 (fun _ => 0))) := ⟨_, rfl⟩
  refine x_norm (st2 := [.ref (z + 5), .ref (z + 3)]) (kc2 := 2) (ks2 := 12) (n2 := 6) rfl rfl rfl rfl eu13.symm ?_
  have k3_12 := (congrFun eu12 3).trans (hup_s _ _ _)
  have k3_13 := (congrFun eu13 3).trans (hup_n' (by decide) (k3_12))
  obtain ⟨u14, eu14⟩ : ∃ w : HpT, w = (hup u13 3 (.inr (2, [.int (0 : Int32), .int (0 : Int32), .int (0 : Int32), .int (0 : Int32), .int (-1 : Int32), .int (0 : Int32), .int (-1 : Int32), .int (0 : Int32), .int (0 : Int32), .int (0 : Int32), .ref (z + 4), .ref (z + 5)]))) := ⟨_, rfl⟩
  refine pfX3_46 C dX3_init_67 hnm k3_13 (Nat.le_of_ble_eq_true rfl) rfl eu14.symm ?_
  exact x_vret C hr hlk (Nat.le_of_ble_eq_true rfl) (Nat.le_of_ble_eq_true rfl) dX3_init_70 rfl (by rw [eu14, eu13, eu12, eu11, eu10, eu9, eu8, eu7, eu6, eu5, eu4, eu3, eu2, eu1]; simp only [hup_hup, hup_sk, ne_eq, Nat.reduceEqDiff, not_false_eq_true]) rfl
set_option maxRecDepth 20000 in
theorem p_X3_init_1 {G : GT} {l : Launch} {z : Nat} (u : HpT) (h8 : u 8 = some (.inr (2, [.int (0 : Int32), .int (0 : Int32), .int (0 : Int32), .int (0 : Int32), .int (0 : Int32), .int (0 : Int32), .int (0 : Int32), .int (0 : Int32), .int (0 : Int32), .int (0 : Int32), .null, .null]))) : Mt G l z yX3_init cX3_init 1 none { frames := 1, cells := 2, slots := 12, locals := 12 } [.ref (z + 8)] u 9 none (hup (hup (hup u 9 (aI G 6 (fun _ => 0))) 10 (aI G 6 (fun _ => 0))) 8 (.inr (2, [.int (0 : Int32), .int (0 : Int32), .int (0 : Int32), .int (0 : Int32), .int (-1 : Int32), .int (0 : Int32), .int (-1 : Int32), .int (0 : Int32), .int (0 : Int32), .int (0 : Int32), .ref (z + 9), .ref (z + 10)]))) 11 := by
  refine mt_of (by decide +kernel) (Nat.le_of_ble_eq_true rfl) ?_
  intro p e s m below meth c C hr hlk hnm
  refine x_aload_n C 0 dX3_init_0 rfl rfl ?_
  refine x_objInit C kmX3_3 kObjI kObjC (Nat.le_of_ble_eq_true rfl) (Nat.le_of_ble_eq_true rfl) dX3_init_1 ?_
  refine x_aload_n C 0 dX3_init_4 rfl rfl ?_
  refine x_iconst (v := (0 : Int32)) C dX3_init_5 (by decide) ?_
  obtain ⟨u1, eu1⟩ : ∃ w : HpT, w = (hup u 8 (.inr (2, [.int (0 : Int32), .int (0 : Int32), .int (0 : Int32), .int (0 : Int32), .int (0 : Int32), .int (0 : Int32), .int (0 : Int32), .int (0 : Int32), .int (0 : Int32), .int (0 : Int32), .null, .null]))) := ⟨_, rfl⟩
  refine pfX3_9 C dX3_init_6 h8 (Nat.le_of_ble_eq_true rfl) rfl eu1.symm ?_
  refine x_aload_n C 0 dX3_init_9 rfl rfl ?_
  refine x_iconst (v := (0 : Int32)) C dX3_init_10 (by decide) ?_
  have k8_1 := (congrFun eu1 8).trans (hup_s _ _ _)
  obtain ⟨u2, eu2⟩ : ∃ w : HpT, w = (hup u1 8 (.inr (2, [.int (0 : Int32), .int (0 : Int32), .int (0 : Int32), .int (0 : Int32), .int (0 : Int32), .int (0 : Int32), .int (0 : Int32), .int (0 : Int32), .int (0 : Int32), .int (0 : Int32), .null, .null]))) := ⟨_, rfl⟩
  refine pfX3_15 C dX3_init_11 k8_1 (Nat.le_of_ble_eq_true rfl) rfl eu2.symm ?_
  refine x_aload_n C 0 dX3_init_14 rfl rfl ?_
  refine x_iconst (v := (0 : Int32)) C dX3_init_15 (by decide) ?_
  have k8_2 := (congrFun eu2 8).trans (hup_s _ _ _)
  obtain ⟨u3, eu3⟩ : ∃ w : HpT, w = (hup u2 8 (.inr (2, [.int (0 : Int32), .int (0 : Int32), .int (0 : Int32), .int (0 : Int32), .int (0 : Int32), .int (0 : Int32), .int (0 : Int32), .int (0 : Int32), .int (0 : Int32), .int (0 : Int32), .null, .null]))) := ⟨_, rfl⟩
  refine pfX3_18 C dX3_init_16 k8_2 (Nat.le_of_ble_eq_true rfl) rfl eu3.symm ?_
  refine x_aload_n C 0 dX3_init_19 rfl rfl ?_
  refine x_iconst (v := (0 : Int32)) C dX3_init_20 (by decide) ?_
  have k8_3 := (congrFun eu3 8).trans (hup_s _ _ _)
  obtain ⟨u4, eu4⟩ : ∃ w : HpT, w = (hup u3 8 (.inr (2, [.int (0 : Int32), .int (0 : Int32), .int (0 : Int32), .int (0 : Int32), .int (0 : Int32), .int (0 : Int32), .int (0 : Int32), .int (0 : Int32), .int (0 : Int32), .int (0 : Int32), .null, .null]))) := ⟨_, rfl⟩
  refine pfX3_21 C dX3_init_21 k8_3 (Nat.le_of_ble_eq_true rfl) rfl eu4.symm ?_
  refine x_aload_n C 0 dX3_init_24 rfl rfl ?_
  refine x_iconst (v := (-1 : Int32)) C dX3_init_25 (by decide) ?_
  have k8_4 := (congrFun eu4 8).trans (hup_s _ _ _)
  obtain ⟨u5, eu5⟩ : ∃ w : HpT, w = (hup u4 8 (.inr (2, [.int (0 : Int32), .int (0 : Int32), .int (0 : Int32), .int (0 : Int32), .int (-1 : Int32), .int (0 : Int32), .int (0 : Int32), .int (0 : Int32), .int (0 : Int32), .int (0 : Int32), .null, .null]))) := ⟨_, rfl⟩
  refine pfX3_24 C dX3_init_26 k8_4 (Nat.le_of_ble_eq_true rfl) rfl eu5.symm ?_
  refine x_aload_n C 0 dX3_init_29 rfl rfl ?_
  refine x_iconst (v := (0 : Int32)) C dX3_init_30 (by decide) ?_
  have k8_5 := (congrFun eu5 8).trans (hup_s _ _ _)
  obtain ⟨u6, eu6⟩ : ∃ w : HpT, w = (hup u5 8 (.inr (2, [.int (0 : Int32), .int (0 : Int32), .int (0 : Int32), .int (0 : Int32), .int (-1 : Int32), .int (0 : Int32), .int (0 : Int32), .int (0 : Int32), .int (0 : Int32), .int (0 : Int32), .null, .null]))) := ⟨_, rfl⟩
  refine pfX3_27 C dX3_init_31 k8_5 (Nat.le_of_ble_eq_true rfl) rfl eu6.symm ?_
  refine x_aload_n C 0 dX3_init_34 rfl rfl ?_
  refine x_iconst (v := (-1 : Int32)) C dX3_init_35 (by decide) ?_
  have k8_6 := (congrFun eu6 8).trans (hup_s _ _ _)
  obtain ⟨u7, eu7⟩ : ∃ w : HpT, w = (hup u6 8 (.inr (2, [.int (0 : Int32), .int (0 : Int32), .int (0 : Int32), .int (0 : Int32), .int (-1 : Int32), .int (0 : Int32), .int (-1 : Int32), .int (0 : Int32), .int (0 : Int32), .int (0 : Int32), .null, .null]))) := ⟨_, rfl⟩
  refine pfX3_30 C dX3_init_36 k8_6 (Nat.le_of_ble_eq_true rfl) rfl eu7.symm ?_
  refine x_aload_n C 0 dX3_init_39 rfl rfl ?_
  refine x_iconst (v := (0 : Int32)) C dX3_init_40 (by decide) ?_
  have k8_7 := (congrFun eu7 8).trans (hup_s _ _ _)
  obtain ⟨u8, eu8⟩ : ∃ w : HpT, w = (hup u7 8 (.inr (2, [.int (0 : Int32), .int (0 : Int32), .int (0 : Int32), .int (0 : Int32), .int (-1 : Int32), .int (0 : Int32), .int (-1 : Int32), .int (0 : Int32), .int (0 : Int32), .int (0 : Int32), .null, .null]))) := ⟨_, rfl⟩
  refine pfX3_33 C dX3_init_41 k8_7 (Nat.le_of_ble_eq_true rfl) rfl eu8.symm ?_
  refine x_aload_n C 0 dX3_init_44 rfl rfl ?_
  refine x_iconst (v := (0 : Int32)) C dX3_init_45 (by decide) ?_
  have k8_8 := (congrFun eu8 8).trans (hup_s _ _ _)
  obtain ⟨u9, eu9⟩ : ∃ w : HpT, w = (hup u8 8 (.inr (2, [.int (0 : Int32), .int (0 : Int32), .int (0 : Int32), .int (0 : Int32), .int (-1 : Int32), .int (0 : Int32), .int (-1 : Int32), .int (0 : Int32), .int (0 : Int32), .int (0 : Int32), .null, .null]))) := ⟨_, rfl⟩
  refine pfX3_36 C dX3_init_46 k8_8 (Nat.le_of_ble_eq_true rfl) rfl eu9.symm ?_
  refine x_aload_n C 0 dX3_init_49 rfl rfl ?_
  refine x_iconst (v := (0 : Int32)) C dX3_init_50 (by decide) ?_
  have k8_9 := (congrFun eu9 8).trans (hup_s _ _ _)
  obtain ⟨u10, eu10⟩ : ∃ w : HpT, w = (hup u9 8 (.inr (2, [.int (0 : Int32), .int (0 : Int32), .int (0 : Int32), .int (0 : Int32), .int (-1 : Int32), .int (0 : Int32), .int (-1 : Int32), .int (0 : Int32), .int (0 : Int32), .int (0 : Int32), .null, .null]))) := ⟨_, rfl⟩
  refine pfX3_39 C dX3_init_51 k8_9 (Nat.le_of_ble_eq_true rfl) rfl eu10.symm ?_
  refine x_aload_n C 0 dX3_init_54 rfl rfl ?_
  refine x_bipush (v := (6 : Int32)) C dX3_init_55 (by decide) ?_
  refine x_newI C ka_int 6 (by decide) (by decide) (Nat.le_of_ble_eq_true rfl) (Nat.le_of_ble_eq_true rfl) (Nat.le_of_ble_eq_true rfl) dX3_init_57 ?_
  obtain ⟨u11, eu11⟩ : ∃ w : HpT, w = (hup u10 9 (aI G 6 (fun _ => 0))) := ⟨_, rfl⟩
  refine x_norm (st2 := [.ref (z + 9), .ref (z + 8)]) (kc2 := 1) (ks2 := 6) (n2 := 10) rfl rfl rfl rfl eu11.symm ?_
  have k8_10 := (congrFun eu10 8).trans (hup_s _ _ _)
  have k8_11 := (congrFun eu11 8).trans (hup_n' (by decide) (k8_10))
  obtain ⟨u12, eu12⟩ : ∃ w : HpT, w = (hup u11 8 (.inr (2, [.int (0 : Int32), .int (0 : Int32), .int (0 : Int32), .int (0 : Int32), .int (-1 : Int32), .int (0 : Int32), .int (-1 : Int32), .int (0 : Int32), .int (0 : Int32), .int (0 : Int32), .ref (z + 9), .null]))) := ⟨_, rfl⟩
  refine pfX3_42 C dX3_init_59 hnm k8_11 (Nat.le_of_ble_eq_true rfl) rfl eu12.symm ?_
  refine x_aload_n C 0 dX3_init_62 rfl rfl ?_
  refine x_bipush (v := (6 : Int32)) C dX3_init_63 (by decide) ?_
  refine x_newI C ka_int 6 (by decide) (by decide) (Nat.le_of_ble_eq_true rfl) (Nat.le_of_ble_eq_true rfl) (Nat.le_of_ble_eq_true rfl) dX3_init_65 ?_
  obtain ⟨u13, eu13⟩ : ∃ w : HpT, w = (hup u12 10 (aI G 6 (fun _ => 0))) := ⟨_, rfl⟩
  refine x_norm (st2 := [.ref (z + 10), .ref (z + 8)]) (kc2 := 2) (ks2 := 12) (n2 := 11) rfl rfl rfl rfl eu13.symm ?_
  have k8_12 := (congrFun eu12 8).trans (hup_s _ _ _)
  have k8_13 := (congrFun eu13 8).trans (hup_n' (by decide) (k8_12))
  obtain ⟨u14, eu14⟩ : ∃ w : HpT, w = (hup u13 8 (.inr (2, [.int (0 : Int32), .int (0 : Int32), .int (0 : Int32), .int (0 : Int32), .int (-1 : Int32), .int (0 : Int32), .int (-1 : Int32), .int (0 : Int32), .int (0 : Int32), .int (0 : Int32), .ref (z + 9), .ref (z + 10)]))) := ⟨_, rfl⟩
  refine pfX3_46 C dX3_init_67 hnm k8_13 (Nat.le_of_ble_eq_true rfl) rfl eu14.symm ?_
  exact x_vret C hr hlk (Nat.le_of_ble_eq_true rfl) (Nat.le_of_ble_eq_true rfl) dX3_init_70 rfl (by rw [eu14, eu13, eu12, eu11, eu10, eu9, eu8, eu7, eu6, eu5, eu4, eu3, eu2, eu1]; simp only [hup_hup, hup_sk, ne_eq, Nat.reduceEqDiff, not_false_eq_true]) rfl
set_option maxRecDepth 20000 in
theorem p_X3_init_2 {G : GT} {l : Launch} {z : Nat} (u : HpT) (h11 : u 11 = some (.inr (2, [.int (0 : Int32), .int (0 : Int32), .int (0 : Int32), .int (0 : Int32), .int (0 : Int32), .int (0 : Int32), .int (0 : Int32), .int (0 : Int32), .int (0 : Int32), .int (0 : Int32), .null, .null]))) : Mt G l z yX3_init cX3_init 1 none { frames := 1, cells := 2, slots := 12, locals := 12 } [.ref (z + 11)] u 12 none (hup (hup (hup u 12 (aI G 6 (fun _ => 0))) 13 (aI G 6 (fun _ => 0))) 11 (.inr (2, [.int (0 : Int32), .int (0 : Int32), .int (0 : Int32), .int (0 : Int32), .int (-1 : Int32), .int (0 : Int32), .int (-1 : Int32), .int (0 : Int32), .int (0 : Int32), .int (0 : Int32), .ref (z + 12), .ref (z + 13)]))) 14 := by
  refine mt_of (by decide +kernel) (Nat.le_of_ble_eq_true rfl) ?_
  intro p e s m below meth c C hr hlk hnm
  refine x_aload_n C 0 dX3_init_0 rfl rfl ?_
  refine x_objInit C kmX3_3 kObjI kObjC (Nat.le_of_ble_eq_true rfl) (Nat.le_of_ble_eq_true rfl) dX3_init_1 ?_
  refine x_aload_n C 0 dX3_init_4 rfl rfl ?_
  refine x_iconst (v := (0 : Int32)) C dX3_init_5 (by decide) ?_
  obtain ⟨u1, eu1⟩ : ∃ w : HpT, w = (hup u 11 (.inr (2, [.int (0 : Int32), .int (0 : Int32), .int (0 : Int32), .int (0 : Int32), .int (0 : Int32), .int (0 : Int32), .int (0 : Int32), .int (0 : Int32), .int (0 : Int32), .int (0 : Int32), .null, .null]))) := ⟨_, rfl⟩
  refine pfX3_9 C dX3_init_6 h11 (Nat.le_of_ble_eq_true rfl) rfl eu1.symm ?_
  refine x_aload_n C 0 dX3_init_9 rfl rfl ?_
  refine x_iconst (v := (0 : Int32)) C dX3_init_10 (by decide) ?_
  have k11_1 := (congrFun eu1 11).trans (hup_s _ _ _)
  obtain ⟨u2, eu2⟩ : ∃ w : HpT, w = (hup u1 11 (.inr (2, [.int (0 : Int32), .int (0 : Int32), .int (0 : Int32), .int (0 : Int32), .int (0 : Int32), .int (0 : Int32), .int (0 : Int32), .int (0 : Int32), .int (0 : Int32), .int (0 : Int32), .null, .null]))) := ⟨_, rfl⟩
  refine pfX3_15 C dX3_init_11 k11_1 (Nat.le_of_ble_eq_true rfl) rfl eu2.symm ?_
  refine x_aload_n C 0 dX3_init_14 rfl rfl ?_
  refine x_iconst (v := (0 : Int32)) C dX3_init_15 (by decide) ?_
  have k11_2 := (congrFun eu2 11).trans (hup_s _ _ _)
  obtain ⟨u3, eu3⟩ : ∃ w : HpT, w = (hup u2 11 (.inr (2, [.int (0 : Int32), .int (0 : Int32), .int (0 : Int32), .int (0 : Int32), .int (0 : Int32), .int (0 : Int32), .int (0 : Int32), .int (0 : Int32), .int (0 : Int32), .int (0 : Int32), .null, .null]))) := ⟨_, rfl⟩
  refine pfX3_18 C dX3_init_16 k11_2 (Nat.le_of_ble_eq_true rfl) rfl eu3.symm ?_
  refine x_aload_n C 0 dX3_init_19 rfl rfl ?_
  refine x_iconst (v := (0 : Int32)) C dX3_init_20 (by decide) ?_
  have k11_3 := (congrFun eu3 11).trans (hup_s _ _ _)
  obtain ⟨u4, eu4⟩ : ∃ w : HpT, w = (hup u3 11 (.inr (2, [.int (0 : Int32), .int (0 : Int32), .int (0 : Int32), .int (0 : Int32), .int (0 : Int32), .int (0 : Int32), .int (0 : Int32), .int (0 : Int32), .int (0 : Int32), .int (0 : Int32), .null, .null]))) := ⟨_, rfl⟩
  refine pfX3_21 C dX3_init_21 k11_3 (Nat.le_of_ble_eq_true rfl) rfl eu4.symm ?_
  refine x_aload_n C 0 dX3_init_24 rfl rfl ?_
  refine x_iconst (v := (-1 : Int32)) C dX3_init_25 (by decide) ?_
  have k11_4 := (congrFun eu4 11).trans (hup_s _ _ _)
  obtain ⟨u5, eu5⟩ : ∃ w : HpT, w = (hup u4 11 (.inr (2, [.int (0 : Int32), .int (0 : Int32), .int (0 : Int32), .int (0 : Int32), .int (-1 : Int32), .int (0 : Int32), .int (0 : Int32), .int (0 : Int32), .int (0 : Int32), .int (0 : Int32), .null, .null]))) := ⟨_, rfl⟩
  refine pfX3_24 C dX3_init_26 k11_4 (Nat.le_of_ble_eq_true rfl) rfl eu5.symm ?_
  refine x_aload_n C 0 dX3_init_29 rfl rfl ?_
  refine x_iconst (v := (0 : Int32)) C dX3_init_30 (by decide) ?_
  have k11_5 := (congrFun eu5 11).trans (hup_s _ _ _)
  obtain ⟨u6, eu6⟩ : ∃ w : HpT, w = (hup u5 11 (.inr (2, [.int (0 : Int32), .int (0 : Int32), .int (0 : Int32), .int (0 : Int32), .int (-1 : Int32), .int (0 : Int32), .int (0 : Int32), .int (0 : Int32), .int (0 : Int32), .int (0 : Int32), .null, .null]))) := ⟨_, rfl⟩
  refine pfX3_27 C dX3_init_31 k11_5 (Nat.le_of_ble_eq_true rfl) rfl eu6.symm ?_
  refine x_aload_n C 0 dX3_init_34 rfl rfl ?_
  refine x_iconst (v := (-1 : Int32)) C dX3_init_35 (by decide) ?_
  have k11_6 := (congrFun eu6 11).trans (hup_s _ _ _)
  obtain ⟨u7, eu7⟩ : ∃ w : HpT, w = (hup u6 11 (.inr (2, [.int (0 : Int32), .int (0 : Int32), .int (0 : Int32), .int (0 : Int32), .int (-1 : Int32), .int (0 : Int32), .int (-1 : Int32), .int (0 : Int32), .int (0 : Int32), .int (0 : Int32), .null, .null]))) := ⟨_, rfl⟩
  refine pfX3_30 C dX3_init_36 k11_6 (Nat.le_of_ble_eq_true rfl) rfl eu7.symm ?_
  refine x_aload_n C 0 dX3_init_39 rfl rfl ?_
  refine x_iconst (v := (0 : Int32)) C dX3_init_40 (by decide) ?_
  have k11_7 := (congrFun eu7 11).trans (hup_s _ _ _)
  obtain ⟨u8, eu8⟩ : ∃ w : HpT, w = (hup u7 11 (.inr (2, [.int (0 : Int32), .int (0 : Int32), .int (0 : Int32), .int (0 : Int32), .int (-1 : Int32), .int (0 : Int32), .int (-1 : Int32), .int (0 : Int32), .int (0 : Int32), .int (0 : Int32), .null, .null]))) := ⟨_, rfl⟩
  refine pfX3_33 C dX3_init_41 k11_7 (Nat.le_of_ble_eq_true rfl) rfl eu8.symm ?_
  refine x_aload_n C 0 dX3_init_44 rfl rfl ?_
  refine x_iconst (v := (0 : Int32)) C dX3_init_45 (by decide) ?_
  have k11_8 := (congrFun eu8 11).trans (hup_s _ _ _)
  obtain ⟨u9, eu9⟩ : ∃ w : HpT, w = (hup u8 11 (.inr (2, [.int (0 : Int32), .int (0 : Int32), .int (0 : Int32), .int (0 : Int32), .int (-1 : Int32), .int (0 : Int32), .int (-1 : Int32), .int (0 : Int32), .int (0 : Int32), .int (0 : Int32), .null, .null]))) := ⟨_, rfl⟩
  refine pfX3_36 C dX3_init_46 k11_8 (Nat.le_of_ble_eq_true rfl) rfl eu9.symm ?_
  refine x_aload_n C 0 dX3_init_49 rfl rfl ?_
  refine x_iconst (v := (0 : Int32)) C dX3_init_50 (by decide) ?_
  have k11_9 := (congrFun eu9 11).trans (hup_s _ _ _)
  obtain ⟨u10, eu10⟩ : ∃ w : HpT, w = (hup u9 11 (.inr (2, [.int (0 : Int32), .int (0 : Int32), .int (0 : Int32), .int (0 : Int32), .int (-1 : Int32), .int (0 : Int32), .int (-1 : Int32), .int (0 : Int32), .int (0 : Int32), .int (0 : Int32), .null, .null]))) := ⟨_, rfl⟩
  refine pfX3_39 C dX3_init_51 k11_9 (Nat.le_of_ble_eq_true rfl) rfl eu10.symm ?_
  refine x_aload_n C 0 dX3_init_54 rfl rfl ?_
  refine x_bipush (v := (6 : Int32)) C dX3_init_55 (by decide) ?_
  refine x_newI C ka_int 6 (by decide) (by decide) (Nat.le_of_ble_eq_true rfl) (Nat.le_of_ble_eq_true rfl) (Nat.le_of_ble_eq_true rfl) dX3_init_57 ?_
  obtain ⟨u11, eu11⟩ : ∃ w : HpT, w = (hup u10 12 (aI G 6 (fun _ => 0))) := ⟨_, rfl⟩
  refine x_norm (st2 := [.ref (z + 12), .ref (z + 11)]) (kc2 := 1) (ks2 := 6) (n2 := 13) rfl rfl rfl rfl eu11.symm ?_
  have k11_10 := (congrFun eu10 11).trans (hup_s _ _ _)
  have k11_11 := (congrFun eu11 11).trans (hup_n' (by decide) (k11_10))
  obtain ⟨u12, eu12⟩ : ∃ w : HpT, w = (hup u11 11 (.inr (2, [.int (0 : Int32), .int (0 : Int32), .int (0 : Int32), .int (0 : Int32), .int (-1 : Int32), .int (0 : Int32), .int (-1 : Int32), .int (0 : Int32), .int (0 : Int32), .int (0 : Int32), .ref (z + 12), .null]))) := ⟨_, rfl⟩
  refine pfX3_42 C dX3_init_59 hnm k11_11 (Nat.le_of_ble_eq_true rfl) rfl eu12.symm ?_
  refine x_aload_n C 0 dX3_init_62 rfl rfl ?_
  refine x_bipush (v := (6 : Int32)) C dX3_init_63 (by decide) ?_
  refine x_newI C ka_int 6 (by decide) (by decide) (Nat.le_of_ble_eq_true rfl) (Nat.le_of_ble_eq_true rfl) (Nat.le_of_ble_eq_true rfl) dX3_init_65 ?_
  obtain ⟨u13, eu13⟩ : ∃ w : HpT, w = (hup u12 13 (aI G 6 (fun _ => 0))) := ⟨_, rfl⟩
  refine x_norm (st2 := [.ref (z + 13), .ref (z + 11)]) (kc2 := 2) (ks2 := 12) (n2 := 14) rfl rfl rfl rfl eu13.symm ?_
  have k11_12 := (congrFun eu12 11).trans (hup_s _ _ _)
  have k11_13 := (congrFun eu13 11).trans (hup_n' (by decide) (k11_12))
  obtain ⟨u14, eu14⟩ : ∃ w : HpT, w = (hup u13 11 (.inr (2, [.int (0 : Int32), .int (0 : Int32), .int (0 : Int32), .int (0 : Int32), .int (-1 : Int32), .int (0 : Int32), .int (-1 : Int32), .int (0 : Int32), .int (0 : Int32), .int (0 : Int32), .ref (z + 12), .ref (z + 13)]))) := ⟨_, rfl⟩
  refine pfX3_46 C dX3_init_67 hnm k11_13 (Nat.le_of_ble_eq_true rfl) rfl eu14.symm ?_
  exact x_vret C hr hlk (Nat.le_of_ble_eq_true rfl) (Nat.le_of_ble_eq_true rfl) dX3_init_70 rfl (by rw [eu14, eu13, eu12, eu11, eu10, eu9, eu8, eu7, eu6, eu5, eu4, eu3, eu2, eu1]; simp only [hup_hup, hup_sk, ne_eq, Nat.reduceEqDiff, not_false_eq_true]) rfl
set_option maxRecDepth 20000 in
theorem p_X3_init_3 {G : GT} {l : Launch} {z : Nat} (u : HpT) (h14 : u 14 = some (.inr (2, [.int (0 : Int32), .int (0 : Int32), .int (0 : Int32), .int (0 : Int32), .int (0 : Int32), .int (0 : Int32), .int (0 : Int32), .int (0 : Int32), .int (0 : Int32), .int (0 : Int32), .null, .null]))) : Mt G l z yX3_init cX3_init 1 none { frames := 1, cells := 2, slots := 12, locals := 12 } [.ref (z + 14)] u 15 none (hup (hup (hup u 15 (aI G 6 (fun _ => 0))) 16 (aI G 6 (fun _ => 0))) 14 (.inr (2, [.int (0 : Int32), .int (0 : Int32), .int (0 : Int32), .int (0 : Int32), .int (-1 : Int32), .int (0 : Int32), .int (-1 : Int32), .int (0 : Int32), .int (0 : Int32), .int (0 : Int32), .ref (z + 15), .ref (z + 16)]))) 17 := by
  refine mt_of (by decide +kernel) (Nat.le_of_ble_eq_true rfl) ?_
  intro p e s m below meth c C hr hlk hnm
  refine x_aload_n C 0 dX3_init_0 rfl rfl ?_
  refine x_objInit C kmX3_3 kObjI kObjC (Nat.le_of_ble_eq_true rfl) (Nat.le_of_ble_eq_true rfl) dX3_init_1 ?_
  refine x_aload_n C 0 dX3_init_4 rfl rfl ?_
  refine x_iconst (v := (0 : Int32)) C dX3_init_5 (by decide) ?_
  obtain ⟨u1, eu1⟩ : ∃ w : HpT, w = (hup u 14 (.inr (2, [.int (0 : Int32), .int (0 : Int32), .int (0 : Int32), .int (0 : Int32), .int (0 : Int32), .int (0 : Int32), .int (0 : Int32), .int (0 : Int32), .int (0 : Int32), .int (0 : Int32), .null, .null]))) := ⟨_, rfl⟩
  refine pfX3_9 C dX3_init_6 h14 (Nat.le_of_ble_eq_true rfl) rfl eu1.symm ?_
  refine x_aload_n C 0 dX3_init_9 rfl rfl ?_
  refine x_iconst (v := (0 : Int32)) C dX3_init_10 (by decide) ?_
  have k14_1 := (congrFun eu1 14).trans (hup_s _ _ _)
  obtain ⟨u2, eu2⟩ : ∃ w : HpT, w = (hup u1 14 (.inr (2, [.int (0 : Int32), .int (0 : Int32), .int (0 : Int32), .int (0 : Int32), .int (0 : Int32), .int (0 : Int32), .int (0 : Int32), .int (0 : Int32), .int (0 : Int32), .int (0 : Int32), .null, .null]))) := ⟨_, rfl⟩
  refine pfX3_15 C dX3_init_11 k14_1 (Nat.le_of_ble_eq_true rfl) rfl eu2.symm ?_
  refine x_aload_n C 0 dX3_init_14 rfl rfl ?_
  refine x_iconst (v := (0 : Int32)) C dX3_init_15 (by decide) ?_
  have k14_2 := (congrFun eu2 14).trans (hup_s _ _ _)
  obtain ⟨u3, eu3⟩ : ∃ w : HpT, w = (hup u2 14 (.inr (2, [.int (0 : Int32), .int (0 : Int32), .int (0 : Int32), .int (0 : Int32), .int (0 : Int32), .int (0 : Int32), .int (0 : Int32), .int (0 : Int32), .int (0 : Int32), .int (0 : Int32), .null, .null]))) := ⟨_, rfl⟩
  refine pfX3_18 C dX3_init_16 k14_2 (Nat.le_of_ble_eq_true rfl) rfl eu3.symm ?_
  refine x_aload_n C 0 dX3_init_19 rfl rfl ?_
  refine x_iconst (v := (0 : Int32)) C dX3_init_20 (by decide) ?_
  have k14_3 := (congrFun eu3 14).trans (hup_s _ _ _)
  obtain ⟨u4, eu4⟩ : ∃ w : HpT, w = (hup u3 14 (.inr (2, [.int (0 : Int32), .int (0 : Int32), .int (0 : Int32), .int (0 : Int32), .int (0 : Int32), .int (0 : Int32), .int (0 : Int32), .int (0 : Int32), .int (0 : Int32), .int (0 : Int32), .null, .null]))) := ⟨_, rfl⟩
  refine pfX3_21 C dX3_init_21 k14_3 (Nat.le_of_ble_eq_true rfl) rfl eu4.symm ?_
  refine x_aload_n C 0 dX3_init_24 rfl rfl ?_
  refine x_iconst (v := (-1 : Int32)) C dX3_init_25 (by decide) ?_
  have k14_4 := (congrFun eu4 14).trans (hup_s _ _ _)
  obtain ⟨u5, eu5⟩ : ∃ w : HpT, w = (hup u4 14 (.inr (2, [.int (0 : Int32), .int (0 : Int32), .int (0 : Int32), .int (0 : Int32), .int (-1 : Int32), .int (0 : Int32), .int (0 : Int32), .int (0 : Int32), .int (0 : Int32), .int (0 : Int32), .null, .null]))) := ⟨_, rfl⟩
  refine pfX3_24 C dX3_init_26 k14_4 (Nat.le_of_ble_eq_true rfl) rfl eu5.symm ?_
  refine x_aload_n C 0 dX3_init_29 rfl rfl ?_
  refine x_iconst (v := (0 : Int32)) C dX3_init_30 (by decide) ?_
  have k14_5 := (congrFun eu5 14).trans (hup_s _ _ _)
  obtain ⟨u6, eu6⟩ : ∃ w : HpT, w = (hup u5 14 (.inr (2, [.int (0 : Int32), .int (0 : Int32), .int (0 : Int32), .int (0 : Int32), .int (-1 : Int32), .int (0 : Int32), .int (0 : Int32), .int (0 : Int32), .int (0 : Int32), .int (0 : Int32), .null, .null]))) := ⟨_, rfl⟩
  refine pfX3_27 C dX3_init_31 k14_5 (Nat.le_of_ble_eq_true rfl) rfl eu6.symm ?_
  refine x_aload_n C 0 dX3_init_34 rfl rfl ?_
  refine x_iconst (v := (-1 : Int32)) C dX3_init_35 (by decide) ?_
  have k14_6 := (congrFun eu6 14).trans (hup_s _ _ _)
  obtain ⟨u7, eu7⟩ : ∃ w : HpT, w = (hup u6 14 (.inr (2, [.int (0 : Int32), .int (0 : Int32), .int (0 : Int32), .int (0 : Int32), .int (-1 : Int32), .int (0 : Int32), .int (-1 : Int32), .int (0 : Int32), .int (0 : Int32), .int (0 : Int32), .null, .null]))) := ⟨_, rfl⟩
  refine pfX3_30 C dX3_init_36 k14_6 (Nat.le_of_ble_eq_true rfl) rfl eu7.symm ?_
  refine x_aload_n C 0 dX3_init_39 rfl rfl ?_
  refine x_iconst (v := (0 : Int32)) C dX3_init_40 (by decide) ?_
  have k14_7 := (congrFun eu7 14).trans (hup_s _ _ _)
  obtain ⟨u8, eu8⟩ : ∃ w : HpT, w = (hup u7 14 (.inr (2, [.int (0 : Int32), .int (0 : Int32), .int (0 : Int32), .int (0 : Int32), .int (-1 : Int32), .int (0 : Int32), .int (-1 : Int32), .int (0 : Int32), .int (0 : Int32), .int (0 : Int32), .null, .null]))) := ⟨_, rfl⟩
  refine pfX3_33 C dX3_init_41 k14_7 (Nat.le_of_ble_eq_true rfl) rfl eu8.symm ?_
  refine x_aload_n C 0 dX3_init_44 rfl rfl ?_
  refine x_iconst (v := (0 : Int32)) C dX3_init_45 (by decide) ?_
  have k14_8 := (congrFun eu8 14).trans (hup_s _ _ _)
  obtain ⟨u9, eu9⟩ : ∃ w : HpT, w = (hup u8 14 (.inr (2, [.int (0 : Int32), .int (0 : Int32), .int (0 : Int32), .int (0 : Int32), .int (-1 : Int32), .int (0 : Int32), .int (-1 : Int32), .int (0 : Int32), .int (0 : Int32), .int (0 : Int32), .null, .null]))) := ⟨_, rfl⟩
  refine pfX3_36 C dX3_init_46 k14_8 (Nat.le_of_ble_eq_true rfl) rfl eu9.symm ?_
  refine x_aload_n C 0 dX3_init_49 rfl rfl ?_
  refine x_iconst (v := (0 : Int32)) C dX3_init_50 (by decide) ?_
  have k14_9 := (congrFun eu9 14).trans (hup_s _ _ _)
  obtain ⟨u10, eu10⟩ : ∃ w : HpT, w = (hup u9 14 (.inr (2, [.int (0 : Int32), .int (0 : Int32), .int (0 : Int32), .int (0 : Int32), .int (-1 : Int32), .int (0 : Int32), .int (-1 : Int32), .int (0 : Int32), .int (0 : Int32), .int (0 : Int32), .null, .null]))) := ⟨_, rfl⟩
  refine pfX3_39 C dX3_init_51 k14_9 (Nat.le_of_ble_eq_true rfl) rfl eu10.symm ?_
  refine x_aload_n C 0 dX3_init_54 rfl rfl ?_
  refine x_bipush (v := (6 : Int32)) C dX3_init_55 (by decide) ?_
  refine x_newI C ka_int 6 (by decide) (by decide) (Nat.le_of_ble_eq_true rfl) (Nat.le_of_ble_eq_true rfl) (Nat.le_of_ble_eq_true rfl) dX3_init_57 ?_
  obtain ⟨u11, eu11⟩ : ∃ w : HpT, w = (hup u10 15 (aI G 6 (fun _ => 0))) := ⟨_, rfl⟩
  refine x_norm (st2 := [.ref (z + 15), .ref (z + 14)]) (kc2 := 1) (ks2 := 6) (n2 := 16) rfl rfl rfl rfl eu11.symm ?_
  have k14_10 := (congrFun eu10 14).trans (hup_s _ _ _)
  have k14_11 := (congrFun eu11 14).trans (hup_n' (by decide) (k14_10))
  obtain ⟨u12, eu12⟩ : ∃ w : HpT, w = (hup u11 14 (.inr (2, [.int (0 : Int32), .int (0 : Int32), .int (0 : Int32), .int (0 : Int32), .int (-1 : Int32), .int (0 : Int32), .int (-1 : Int32), .int (0 : Int32), .int (0 : Int32), .int (0 : Int32), .ref (z + 15), .null]))) := ⟨_, rfl⟩
  refine pfX3_42 C dX3_init_59 hnm k14_11 (Nat.le_of_ble_eq_true rfl) rfl eu12.symm ?_
  refine x_aload_n C 0 dX3_init_62 rfl rfl ?_
  refine x_bipush (v := (6 : Int32)) C dX3_init_63 (by decide) ?_
  refine x_newI C ka_int 6 (by decide) (by decide) (Nat.le_of_ble_eq_true rfl) (Nat.le_of_ble_eq_true rfl) (Nat.le_of_ble_eq_true rfl) dX3_init_65 ?_
  obtain ⟨u13, eu13⟩ : ∃ w : HpT, w = (hup u12 16 (aI G 6 (fun _ => 0))) := ⟨_, rfl⟩
  refine x_norm (st2 := [.ref (z + 16), .ref (z + 14)]) (kc2 := 2) (ks2 := 12) (n2 := 17) rfl rfl rfl rfl eu13.symm ?_
  have k14_12 := (congrFun eu12 14).trans (hup_s _ _ _)
  have k14_13 := (congrFun eu13 14).trans (hup_n' (by decide) (k14_12))
  obtain ⟨u14, eu14⟩ : ∃ w : HpT, w = (hup u13 14 (.inr (2, [.int (0 : Int32), .int (0 : Int32), .int (0 : Int32), .int (0 : Int32), .int (-1 : Int32), .int (0 : Int32), .int (-1 : Int32), .int (0 : Int32), .int (0 : Int32), .int (0 : Int32), .ref (z + 15), .ref (z + 16)]))) := ⟨_, rfl⟩
  refine pfX3_46 C dX3_init_67 hnm k14_13 (Nat.le_of_ble_eq_true rfl) rfl eu14.symm ?_
  exact x_vret C hr hlk (Nat.le_of_ble_eq_true rfl) (Nat.le_of_ble_eq_true rfl) dX3_init_70 rfl (by rw [eu14, eu13, eu12, eu11, eu10, eu9, eu8, eu7, eu6, eu5, eu4, eu3, eu2, eu1]; simp only [hup_hup, hup_sk, ne_eq, Nat.reduceEqDiff, not_false_eq_true]) rfl
set_option maxRecDepth 20000 in
theorem p_X3_init_4 {G : GT} {l : Launch} {z : Nat} (u : HpT) (h17 : u 17 = some (.inr (2, [.int (0 : Int32), .int (0 : Int32), .int (0 : Int32), .int (0 : Int32), .int (0 : Int32), .int (0 : Int32), .int (0 : Int32), .int (0 : Int32), .int (0 : Int32), .int (0 : Int32), .null, .null]))) : Mt G l z yX3_init cX3_init 1 none { frames := 1, cells := 2, slots := 12, locals := 12 } [.ref (z + 17)] u 18 none (hup (hup (hup u 18 (aI G 6 (fun _ => 0))) 19 (aI G 6 (fun _ => 0))) 17 (.inr (2, [.int (0 : Int32), .int (0 : Int32), .int (0 : Int32), .int (0 : Int32), .int (-1 : Int32), .int (0 : Int32), .int (-1 : Int32), .int (0 : Int32), .int (0 : Int32), .int (0 : Int32), .ref (z + 18), .ref (z + 19)]))) 20 := by
  refine mt_of (by decide +kernel) (Nat.le_of_ble_eq_true rfl) ?_
  intro p e s m below meth c C hr hlk hnm
  refine x_aload_n C 0 dX3_init_0 rfl rfl ?_
  refine x_objInit C kmX3_3 kObjI kObjC (Nat.le_of_ble_eq_true rfl) (Nat.le_of_ble_eq_true rfl) dX3_init_1 ?_
  refine x_aload_n C 0 dX3_init_4 rfl rfl ?_
  refine x_iconst (v := (0 : Int32)) C dX3_init_5 (by decide) ?_
  obtain ⟨u1, eu1⟩ : ∃ w : HpT, w = (hup u 17 (.inr (2, [.int (0 : Int32), .int (0 : Int32), .int (0 : Int32), .int (0 : Int32), .int (0 : Int32), .int (0 : Int32), .int (0 : Int32), .int (0 : Int32), .int (0 : Int32), .int (0 : Int32), .null, .null]))) := ⟨_, rfl⟩
  refine pfX3_9 C dX3_init_6 h17 (Nat.le_of_ble_eq_true rfl) rfl eu1.symm ?_
  refine x_aload_n C 0 dX3_init_9 rfl rfl ?_
  refine x_iconst (v := (0 : Int32)) C dX3_init_10 (by decide) ?_
  have k17_1 := (congrFun eu1 17).trans (hup_s _ _ _)
  obtain ⟨u2, eu2⟩ : ∃ w : HpT, w = (hup u1 17 (.inr (2, [.int (0 : Int32), .int (0 : Int32), .int (0 : Int32), .int (0 : Int32), .int (0 : Int32), .int (0 : Int32), .int (0 : Int32), .int (0 : Int32), .int (0 : Int32), .int (0 : Int32), .null, .null]))) := ⟨_, rfl⟩
  refine pfX3_15 C dX3_init_11 k17_1 (Nat.le_of_ble_eq_true rfl) rfl eu2.symm ?_
  refine x_aload_n C 0 dX3_init_14 rfl rfl ?_
  refine x_iconst (v := (0 : Int32)) C dX3_init_15 (by decide) ?_
  have k17_2 := (congrFun eu2 17).trans (hup_s _ _ _)
  obtain ⟨u3, eu3⟩ : ∃ w : HpT, w = (hup u2 17 (.inr (2, [.int (0 : Int32), .int (0 : Int32), .int (0 : Int32), .int (0 : Int32), .int (0 : Int32), .int (0 : Int32), .int (0 : Int32), .int (0 : Int32), .int (0 : Int32), .int (0 : Int32), .null, .null]))) := ⟨_, rfl⟩
  refine pfX3_18 C dX3_init_16 k17_2 (Nat.le_of_ble_eq_true rfl) rfl eu3.symm ?_
  refine x_aload_n C 0 dX3_init_19 rfl rfl ?_
  refine x_iconst (v := (0 : Int32)) C dX3_init_20 (by decide) ?_
  have k17_3 := (congrFun eu3 17).trans (hup_s _ _ _)
  obtain ⟨u4, eu4⟩ : ∃ w : HpT, w = (hup u3 17 (.inr (2, [.int (0 : Int32), .int (0 : Int32), .int (0 : Int32), .int (0 : Int32), .int (0 : Int32), .int (0 : Int32), .int (0 : Int32), .int (0 : Int32), .int (0 : Int32), .int (0 : Int32), .null, .null]))) := ⟨_, rfl⟩
  refine pfX3_21 C dX3_init_21 k17_3 (Nat.le_of_ble_eq_true rfl) rfl eu4.symm ?_
  refine x_aload_n C 0 dX3_init_24 rfl rfl ?_
  refine x_iconst (v := (-1 : Int32)) C dX3_init_25 (by decide) ?_
  have k17_4 := (congrFun eu4 17).trans (hup_s _ _ _)
  obtain ⟨u5, eu5⟩ : ∃ w : HpT, w = (hup u4 17 (.inr (2, [.int (0 : Int32), .int (0 : Int32), .int (0 : Int32), .int (0 : Int32), .int (-1 : Int32), .int (0 : Int32), .int (0 : Int32), .int (0 : Int32), .int (0 : Int32), .int (0 : Int32), .null, .null]))) := ⟨_, rfl⟩
  refine pfX3_24 C dX3_init_26 k17_4 (Nat.le_of_ble_eq_true rfl) rfl eu5.symm ?_
  refine x_aload_n C 0 dX3_init_29 rfl rfl ?_
  refine x_iconst (v := (0 : Int32)) C dX3_init_30 (by decide) ?_
  have k17_5 := (congrFun eu5 17).trans (hup_s _ _ _)
  obtain ⟨u6, eu6⟩ : ∃ w : HpT, w = (hup u5 17 (.inr (2, [.int (0 : Int32), .int (0 : Int32), .int (0 : Int32), .int (0 : Int32), .int (-1 : Int32), .int (0 : Int32), .int (0 : Int32), .int (0 : Int32), .int (0 : Int32), .int (0 : Int32), .null, .null]))) := ⟨_, rfl⟩
  refine pfX3_27 C dX3_init_31 k17_5 (Nat.le_of_ble_eq_true rfl) rfl eu6.symm ?_
  refine x_aload_n C 0 dX3_init_34 rfl rfl ?_
  refine x_iconst (v := (-1 : Int32)) C dX3_init_35 (by decide) ?_
  have k17_6 := (congrFun eu6 17).trans (hup_s _ _ _)
  obtain ⟨u7, eu7⟩ : ∃ w : HpT, w = (hup u6 17 (.inr (2, [.int (0 : Int32), .int (0 : Int32), .int (0 : Int32), .int (0 : Int32), .int (-1 : Int32), .int (0 : Int32), .int (-1 : Int32), .int (0 : Int32), .int (0 : Int32), .int (0 : Int32), .null, .null]))) := ⟨_, rfl⟩
  refine pfX3_30 C dX3_init_36 k17_6 (Nat.le_of_ble_eq_true rfl) rfl eu7.symm ?_
  refine x_aload_n C 0 dX3_init_39 rfl rfl ?_
  refine x_iconst (v := (0 : Int32)) C dX3_init_40 (by decide) ?_
  have k17_7 := (congrFun eu7 17).trans (hup_s _ _ _)
  obtain ⟨u8, eu8⟩ : ∃ w : HpT, w = (hup u7 17 (.inr (2, [.int (0 : Int32), .int (0 : Int32), .int (0 : Int32), .int (0 : Int32), .int (-1 : Int32), .int (0 : Int32), .int (-1 : Int32), .int (0 : Int32), .int (0 : Int32), .int (0 : Int32), .null, .null]))) := ⟨_, rfl⟩
  refine pfX3_33 C dX3_init_41 k17_7 (Nat.le_of_ble_eq_true rfl) rfl eu8.symm ?_
  refine x_aload_n C 0 dX3_init_44 rfl rfl ?_
  refine x_iconst (v := (0 : Int32)) C dX3_init_45 (by decide) ?_
  have k17_8 := (congrFun eu8 17).trans (hup_s _ _ _)
  obtain ⟨u9, eu9⟩ : ∃ w : HpT, w = (hup u8 17 (.inr (2, [.int (0 : Int32), .int (0 : Int32), .int (0 : Int32), .int (0 : Int32), .int (-1 : Int32), .int (0 : Int32), .int (-1 : Int32), .int (0 : Int32), .int (0 : Int32), .int (0 : Int32), .null, .null]))) := ⟨_, rfl⟩
  refine pfX3_36 C dX3_init_46 k17_8 (Nat.le_of_ble_eq_true rfl) rfl eu9.symm ?_
  refine x_aload_n C 0 dX3_init_49 rfl rfl ?_
  refine x_iconst (v := (0 : Int32)) C dX3_init_50 (by decide) ?_
  have k17_9 := (congrFun eu9 17).trans (hup_s _ _ _)
  obtain ⟨u10, eu10⟩ : ∃ w : HpT, w = (hup u9 17 (.inr (2, [.int (0 : Int32), .int (0 : Int32), .int (0 : Int32), .int (0 : Int32), .int (-1 : Int32), .int (0 : Int32), .int (-1 : Int32), .int (0 : Int32), .int (0 : Int32), .int (0 : Int32), .null, .null]))) := ⟨_, rfl⟩
  refine pfX3_39 C dX3_init_51 k17_9 (Nat.le_of_ble_eq_true rfl) rfl eu10.symm ?_
  refine x_aload_n C 0 dX3_init_54 rfl rfl ?_
  refine x_bipush (v := (6 : Int32)) C dX3_init_55 (by decide) ?_
  refine x_newI C ka_int 6 (by decide) (by decide) (Nat.le_of_ble_eq_true rfl) (Nat.le_of_ble_eq_true rfl) (Nat.le_of_ble_eq_true rfl) dX3_init_57 ?_
  obtain ⟨u11, eu11⟩ : ∃ w : HpT, w = (hup u10 18 (aI G 6 (fun _ => 0))) := ⟨_, rfl⟩
  refine x_norm (st2 := [.ref (z + 18), .ref (z + 17)]) (kc2 := 1) (ks2 := 6) (n2 := 19) rfl rfl rfl rfl eu11.symm ?_
  have k17_10 := (congrFun eu10 17).trans (hup_s _ _ _)
  have k17_11 := (congrFun eu11 17).trans (hup_n' (by decide) (k17_10))
  obtain ⟨u12, eu12⟩ : ∃ w : HpT, w = (hup u11 17 (.inr (2, [.int (0 : Int32), .int (0 : Int32), .int (0 : Int32), .int (0 : Int32), .int (-1 : Int32), .int (0 : Int32), .int (-1 : Int32), .int (0 : Int32), .int (0 : Int32), .int (0 : Int32), .ref (z + 18), .null]))) := ⟨_, rfl⟩
  refine pfX3_42 C dX3_init_59 hnm k17_11 (Nat.le_of_ble_eq_true rfl) rfl eu12.symm ?_
  refine x_aload_n C 0 dX3_init_62 rfl rfl ?_
  refine x_bipush (v := (6 : Int32)) C dX3_init_63 (by decide) ?_
  refine x_newI C ka_int 6 (by decide) (by decide) (Nat.le_of_ble_eq_true rfl) (Nat.le_of_ble_eq_true rfl) (Nat.le_of_ble_eq_true rfl) dX3_init_65 ?_
  obtain ⟨u13, eu13⟩ : ∃ w : HpT, w = (hup u12 19 (aI G 6 (fun _ => 0))) := ⟨_, rfl⟩
  refine x_norm (st2 := [.ref (z + 19), .ref (z + 17)]) (kc2 := 2) (ks2 := 12) (n2 := 20) rfl rfl rfl rfl eu13.symm ?_
  have k17_12 := (congrFun eu12 17).trans (hup_s _ _ _)
  have k17_13 := (congrFun eu13 17).trans (hup_n' (by decide) (k17_12))
  obtain ⟨u14, eu14⟩ : ∃ w : HpT, w = (hup u13 17 (.inr (2, [.int (0 : Int32), .int (0 : Int32), .int (0 : Int32), .int (0 : Int32), .int (-1 : Int32), .int (0 : Int32), .int (-1 : Int32), .int (0 : Int32), .int (0 : Int32), .int (0 : Int32), .ref (z + 18), .ref (z + 19)]))) := ⟨_, rfl⟩
  refine pfX3_46 C dX3_init_67 hnm k17_13 (Nat.le_of_ble_eq_true rfl) rfl eu14.symm ?_
  exact x_vret C hr hlk (Nat.le_of_ble_eq_true rfl) (Nat.le_of_ble_eq_true rfl) dX3_init_70 rfl (by rw [eu14, eu13, eu12, eu11, eu10, eu9, eu8, eu7, eu6, eu5, eu4, eu3, eu2, eu1]; simp only [hup_hup, hup_sk, ne_eq, Nat.reduceEqDiff, not_false_eq_true]) rfl
set_option maxRecDepth 20000 in
theorem p_X3_init_5 {G : GT} {l : Launch} {z : Nat} (u : HpT) (h20 : u 20 = some (.inr (2, [.int (0 : Int32), .int (0 : Int32), .int (0 : Int32), .int (0 : Int32), .int (0 : Int32), .int (0 : Int32), .int (0 : Int32), .int (0 : Int32), .int (0 : Int32), .int (0 : Int32), .null, .null]))) : Mt G l z yX3_init cX3_init 1 none { frames := 1, cells := 2, slots := 12, locals := 12 } [.ref (z + 20)] u 21 none (hup (hup (hup u 21 (aI G 6 (fun _ => 0))) 22 (aI G 6 (fun _ => 0))) 20 (.inr (2, [.int (0 : Int32), .int (0 : Int32), .int (0 : Int32), .int (0 : Int32), .int (-1 : Int32), .int (0 : Int32), .int (-1 : Int32), .int (0 : Int32), .int (0 : Int32), .int (0 : Int32), .ref (z + 21), .ref (z + 22)]))) 23 := by
  refine mt_of (by decide +kernel) (Nat.le_of_ble_eq_true rfl) ?_
  intro p e s m below meth c C hr hlk hnm
  refine x_aload_n C 0 dX3_init_0 rfl rfl ?_
  refine x_objInit C kmX3_3 kObjI kObjC (Nat.le_of_ble_eq_true rfl) (Nat.le_of_ble_eq_true rfl) dX3_init_1 ?_
  refine x_aload_n C 0 dX3_init_4 rfl rfl ?_
  refine x_iconst (v := (0 : Int32)) C dX3_init_5 (by decide) ?_
  obtain ⟨u1, eu1⟩ : ∃ w : HpT, w = (hup u 20 (.inr (2, [.int (0 : Int32), .int (0 : Int32), .int (0 : Int32), .int (0 : Int32), .int (0 : Int32), .int (0 : Int32), .int (0 : Int32), .int (0 : Int32), .int (0 : Int32), .int (0 : Int32), .null, .null]))) := ⟨_, rfl⟩
  refine pfX3_9 C dX3_init_6 h20 (Nat.le_of_ble_eq_true rfl) rfl eu1.symm ?_
  refine x_aload_n C 0 dX3_init_9 rfl rfl ?_
  refine x_iconst (v := (0 : Int32)) C dX3_init_10 (by decide) ?_
  have k20_1 := (congrFun eu1 20).trans (hup_s _ _ _)
  obtain ⟨u2, eu2⟩ : ∃ w : HpT, w = (hup u1 20 (.inr (2, [.int (0 : Int32), .int (0 : Int32), .int (0 : Int32), .int (0 : Int32), .int (0 : Int32), .int (0 : Int32), .int (0 : Int32), .int (0 : Int32), .int (0 : Int32), .int (0 : Int32), .null, .null]))) := ⟨_, rfl⟩
  refine pfX3_15 C dX3_init_11 k20_1 (Nat.le_of_ble_eq_true rfl) rfl eu2.symm ?_
  refine x_aload_n C 0 dX3_init_14 rfl rfl ?_
  refine x_iconst (v := (0 : Int32)) C dX3_init_15 (by decide) ?_
  have k20_2 := (congrFun eu2 20).trans (hup_s _ _ _)
  obtain ⟨u3, eu3⟩ : ∃ w : HpT, w = (hup u2 20 (.inr (2, [.int (0 : Int32), .int (0 : Int32), .int (0 : Int32), .int (0 : Int32), .int (0 : Int32), .int (0 : Int32), .int (0 : Int32), .int (0 : Int32), .int (0 : Int32), .int (0 : Int32), .null, .null]))) := ⟨_, rfl⟩
  refine pfX3_18 C dX3_init_16 k20_2 (Nat.le_of_ble_eq_true rfl) rfl eu3.symm ?_
  refine x_aload_n C 0 dX3_init_19 rfl rfl ?_
  refine x_iconst (v := (0 : Int32)) C dX3_init_20 (by decide) ?_
  have k20_3 := (congrFun eu3 20).trans (hup_s _ _ _)
  obtain ⟨u4, eu4⟩ : ∃ w : HpT, w = (hup u3 20 (.inr (2, [.int (0 : Int32), .int (0 : Int32), .int (0 : Int32), .int (0 : Int32), .int (0 : Int32), .int (0 : Int32), .int (0 : Int32), .int (0 : Int32), .int (0 : Int32), .int (0 : Int32), .null, .null]))) := ⟨_, rfl⟩
  refine pfX3_21 C dX3_init_21 k20_3 (Nat.le_of_ble_eq_true rfl) rfl eu4.symm ?_
  refine x_aload_n C 0 dX3_init_24 rfl rfl ?_
  refine x_iconst (v := (-1 : Int32)) C dX3_init_25 (by decide) ?_
  have k20_4 := (congrFun eu4 20).trans (hup_s _ _ _)
  obtain ⟨u5, eu5⟩ : ∃ w : HpT, w = (hup u4 20 (.inr (2, [.int (0 : Int32), .int (0 : Int32), .int (0 : Int32), .int (0 : Int32), .int (-1 : Int32), .int (0 : Int32), .int (0 : Int32), .int (0 : Int32), .int (0 : Int32), .int (0 : Int32), .null, .null]))) := ⟨_, rfl⟩
  refine pfX3_24 C dX3_init_26 k20_4 (Nat.le_of_ble_eq_true rfl) rfl eu5.symm ?_
  refine x_aload_n C 0 dX3_init_29 rfl rfl ?_
  refine x_iconst (v := (0 : Int32)) C dX3_init_30 (by decide) ?_
  have k20_5 := (congrFun eu5 20).trans (hup_s _ _ _)
  obtain ⟨u6, eu6⟩ : ∃ w : HpT, w = (hup u5 20 (.inr (2, [.int (0 : Int32), .int (0 : Int32), .int (0 : Int32), .int (0 : Int32), .int (-1 : Int32), .int (0 : Int32), .int (0 : Int32), .int (0 : Int32), .int (0 : Int32), .int (0 : Int32), .null, .null]))) := ⟨_, rfl⟩
  refine pfX3_27 C dX3_init_31 k20_5 (Nat.le_of_ble_eq_true rfl) rfl eu6.symm ?_
  refine x_aload_n C 0 dX3_init_34 rfl rfl ?_
  refine x_iconst (v := (-1 : Int32)) C dX3_init_35 (by decide) ?_
  have k20_6 := (congrFun eu6 20).trans (hup_s _ _ _)
  obtain ⟨u7, eu7⟩ : ∃ w : HpT, w = (hup u6 20 (.inr (2, [.int (0 : Int32), .int (0 : Int32), .int (0 : Int32), .int (0 : Int32), .int (-1 : Int32), .int (0 : Int32), .int (-1 : Int32), .int (0 : Int32), .int (0 : Int32), .int (0 : Int32), .null, .null]))) := ⟨_, rfl⟩
  refine pfX3_30 C dX3_init_36 k20_6 (Nat.le_of_ble_eq_true rfl) rfl eu7.symm ?_
  refine x_aload_n C 0 dX3_init_39 rfl rfl ?_
  refine x_iconst (v := (0 : Int32)) C dX3_init_40 (by decide) ?_
  have k20_7 := (congrFun eu7 20).trans (hup_s _ _ _)
  obtain ⟨u8, eu8⟩ : ∃ w : HpT, w = (hup u7 20 (.inr (2, [.int (0 : Int32), .int (0 : Int32), .int (0 : Int32), .int (0 : Int32), .int (-1 : Int32), .int (0 : Int32), .int (-1 : Int32), .int (0 : Int32), .int (0 : Int32), .int (0 : Int32), .null, .null]))) := ⟨_, rfl⟩
  refine pfX3_33 C dX3_init_41 k20_7 (Nat.le_of_ble_eq_true rfl) rfl eu8.symm ?_
  refine x_aload_n C 0 dX3_init_44 rfl rfl ?_
  refine x_iconst (v := (0 : Int32)) C dX3_init_45 (by decide) ?_
  have k20_8 := (congrFun eu8 20).trans (hup_s _ _ _)
  obtain ⟨u9, eu9⟩ : ∃ w : HpT, w = (hup u8 20 (.inr (2, [.int (0 : Int32), .int (0 : Int32), .int (0 : Int32), .int (0 : Int32), .int (-1 : Int32), .int (0 : Int32), .int (-1 : Int32), .int (0 : Int32), .int (0 : Int32), .int (0 : Int32), .null, .null]))) := ⟨_, rfl⟩
  refine pfX3_36 C dX3_init_46 k20_8 (Nat.le_of_ble_eq_true rfl) rfl eu9.symm ?_
  refine x_aload_n C 0 dX3_init_49 rfl rfl ?_
  refine x_iconst (v := (0 : Int32)) C dX3_init_50 (by decide) ?_
  have k20_9 := (congrFun eu9 20).trans (hup_s _ _ _)
  obtain ⟨u10, eu10⟩ : ∃ w : HpT, w = (hup u9 20 (.inr (2, [.int (0 : Int32), .int (0 : Int32), .int (0 : Int32), .int (0 : Int32), .int (-1 : Int32), .int (0 : Int32), .int (-1 : Int32), .int (0 : Int32), .int (0 : Int32), .int (0 : Int32), .null, .null]))) := ⟨_, rfl⟩
  refine pfX3_39 C dX3_init_51 k20_9 (Nat.le_of_ble_eq_true rfl) rfl eu10.symm ?_
  refine x_aload_n C 0 dX3_init_54 rfl rfl ?_
  refine x_bipush (v := (6 : Int32)) C dX3_init_55 (by decide) ?_
  refine x_newI C ka_int 6 (by decide) (by decide) (Nat.le_of_ble_eq_true rfl) (Nat.le_of_ble_eq_true rfl) (Nat.le_of_ble_eq_true rfl) dX3_init_57 ?_
  obtain ⟨u11, eu11⟩ : ∃ w : HpT, w = (hup u10 21 (aI G 6 (fun _ => 0))) := ⟨_, rfl⟩
  refine x_norm (st2 := [.ref (z + 21), .ref (z + 20)]) (kc2 := 1) (ks2 := 6) (n2 := 22) rfl rfl rfl rfl eu11.symm ?_
  have k20_10 := (congrFun eu10 20).trans (hup_s _ _ _)
  have k20_11 := (congrFun eu11 20).trans (hup_n' (by decide) (k20_10))
  obtain ⟨u12, eu12⟩ : ∃ w : HpT, w = (hup u11 20 (.inr (2, [.int (0 : Int32), .int (0 : Int32), .int (0 : Int32), .int (0 : Int32), .int (-1 : Int32), .int (0 : Int32), .int (-1 : Int32), .int (0 : Int32), .int (0 : Int32), .int (0 : Int32), .ref (z + 21), .null]))) := ⟨_, rfl⟩
  refine pfX3_42 C dX3_init_59 hnm k20_11 (Nat.le_of_ble_eq_true rfl) rfl eu12.symm ?_
  refine x_aload_n C 0 dX3_init_62 rfl rfl ?_
  refine x_bipush (v := (6 : Int32)) C dX3_init_63 (by decide) ?_
  refine x_newI C ka_int 6 (by decide) (by decide) (Nat.le_of_ble_eq_true rfl) (Nat.le_of_ble_eq_true rfl) (Nat.le_of_ble_eq_true rfl) dX3_init_65 ?_
  obtain ⟨u13, eu13⟩ : ∃ w : HpT, w = (hup u12 22 (aI G 6 (fun _ => 0))) := ⟨_, rfl⟩
  refine x_norm (st2 := [.ref (z + 22), .ref (z + 20)]) (kc2 := 2) (ks2 := 12) (n2 := 23) rfl rfl rfl rfl eu13.symm ?_
  have k20_12 := (congrFun eu12 20).trans (hup_s _ _ _)
  have k20_13 := (congrFun eu13 20).trans (hup_n' (by decide) (k20_12))
  obtain ⟨u14, eu14⟩ : ∃ w : HpT, w = (hup u13 20 (.inr (2, [.int (0 : Int32), .int (0 : Int32), .int (0 : Int32), .int (0 : Int32), .int (-1 : Int32), .int (0 : Int32), .int (-1 : Int32), .int (0 : Int32), .int (0 : Int32), .int (0 : Int32), .ref (z + 21), .ref (z + 22)]))) := ⟨_, rfl⟩
  refine pfX3_46 C dX3_init_67 hnm k20_13 (Nat.le_of_ble_eq_true rfl) rfl eu14.symm ?_
  exact x_vret C hr hlk (Nat.le_of_ble_eq_true rfl) (Nat.le_of_ble_eq_true rfl) dX3_init_70 rfl (by rw [eu14, eu13, eu12, eu11, eu10, eu9, eu8, eu7, eu6, eu5, eu4, eu3, eu2, eu1]; simp only [hup_hup, hup_sk, ne_eq, Nat.reduceEqDiff, not_false_eq_true]) rfl
set_option maxRecDepth 20000 in
theorem p_X3_init_6 {G : GT} {l : Launch} {z : Nat} (u : HpT) (h23 : u 23 = some (.inr (2, [.int (0 : Int32), .int (0 : Int32), .int (0 : Int32), .int (0 : Int32), .int (0 : Int32), .int (0 : Int32), .int (0 : Int32), .int (0 : Int32), .int (0 : Int32), .int (0 : Int32), .null, .null]))) : Mt G l z yX3_init cX3_init 1 none { frames := 1, cells := 2, slots := 12, locals := 12 } [.ref (z + 23)] u 24 none (hup (hup (hup u 24 (aI G 6 (fun _ => 0))) 25 (aI G 6 (fun _ => 0))) 23 (.inr (2, [.int (0 : Int32), .int (0 : Int32), .int (0 : Int32), .int (0 : Int32), .int (-1 : Int32), .int (0 : Int32), .int (-1 : Int32), .int (0 : Int32), .int (0 : Int32), .int (0 : Int32), .ref (z + 24), .ref (z + 25)]))) 26 := by
  refine mt_of (by decide +kernel) (Nat.le_of_ble_eq_true rfl) ?_
  intro p e s m below meth c C hr hlk hnm
  refine x_aload_n C 0 dX3_init_0 rfl rfl ?_
  refine x_objInit C kmX3_3 kObjI kObjC (Nat.le_of_ble_eq_true rfl) (Nat.le_of_ble_eq_true rfl) dX3_init_1 ?_
  refine x_aload_n C 0 dX3_init_4 rfl rfl ?_
  refine x_iconst (v := (0 : Int32)) C dX3_init_5 (by decide) ?_
  obtain ⟨u1, eu1⟩ : ∃ w : HpT, w = (hup u 23 (.inr (2, [.int (0 : Int32), .int (0 : Int32), .int (0 : Int32), .int (0 : Int32), .int (0 : Int32), .int (0 : Int32), .int (0 : Int32), .int (0 : Int32), .int (0 : Int32), .int (0 : Int32), .null, .null]))) := ⟨_, rfl⟩
  refine pfX3_9 C dX3_init_6 h23 (Nat.le_of_ble_eq_true rfl) rfl eu1.symm ?_
  refine x_aload_n C 0 dX3_init_9 rfl rfl ?_
  refine x_iconst (v := (0 : Int32)) C dX3_init_10 (by decide) ?_
  have k23_1 := (congrFun eu1 23).trans (hup_s _ _ _)
  obtain ⟨u2, eu2⟩ : ∃ w : HpT, w = (hup u1 23 (.inr (2, [.int (0 : Int32), .int (0 : Int32), .int (0 : Int32), .int (0 : Int32), .int (0 : Int32), .int (0 : Int32), .int (0 : Int32), .int (0 : Int32), .int (0 : Int32), .int (0 : Int32), .null, .null]))) := ⟨_, rfl⟩
  refine pfX3_15 C dX3_init_11 k23_1 (Nat.le_of_ble_eq_true rfl) rfl eu2.symm ?_
  refine x_aload_n C 0 dX3_init_14 rfl rfl ?_
  refine x_iconst (v := (0 : Int32)) C dX3_init_15 (by decide) ?_
  have k23_2 := (congrFun eu2 23).trans (hup_s _ _ _)
  obtain ⟨u3, eu3⟩ : ∃ w : HpT, w = (hup u2 23 (.inr (2, [.int (0 : Int32), .int (0 : Int32), .int (0 : Int32), .int (0 : Int32), .int (0 : Int32), .int (0 : Int32), .int (0 : Int32), .int (0 : Int32), .int (0 : Int32), .int (0 : Int32), .null, .null]))) := ⟨_, rfl⟩
  refine pfX3_18 C dX3_init_16 k23_2 (Nat.le_of_ble_eq_true rfl) rfl eu3.symm ?_
  refine x_aload_n C 0 dX3_init_19 rfl rfl ?_
  refine x_iconst (v := (0 : Int32)) C dX3_init_20 (by decide) ?_
  have k23_3 := (congrFun eu3 23).trans (hup_s _ _ _)
  obtain ⟨u4, eu4⟩ : ∃ w : HpT, w = (hup u3 23 (.inr (2, [.int (0 : Int32), .int (0 : Int32), .int (0 : Int32), .int (0 : Int32), .int (0 : Int32), .int (0 : Int32), .int (0 : Int32), .int (0 : Int32), .int (0 : Int32), .int (0 : Int32), .null, .null]))) := ⟨_, rfl⟩
  refine pfX3_21 C dX3_init_21 k23_3 (Nat.le_of_ble_eq_true rfl) rfl eu4.symm ?_
  refine x_aload_n C 0 dX3_init_24 rfl rfl ?_
  refine x_iconst (v := (-1 : Int32)) C dX3_init_25 (by decide) ?_
  have k23_4 := (congrFun eu4 23).trans (hup_s _ _ _)
  obtain ⟨u5, eu5⟩ : ∃ w : HpT, w = (hup u4 23 (.inr (2, [.int (0 : Int32), .int (0 : Int32), .int (0 : Int32), .int (0 : Int32), .int (-1 : Int32), .int (0 : Int32), .int (0 : Int32), .int (0 : Int32), .int (0 : Int32), .int (0 : Int32), .null, .null]))) := ⟨_, rfl⟩
  refine pfX3_24 C dX3_init_26 k23_4 (Nat.le_of_ble_eq_true rfl) rfl eu5.symm ?_
  refine x_aload_n C 0 dX3_init_29 rfl rfl ?_
  refine x_iconst (v := (0 : Int32)) C dX3_init_30 (by decide) ?_
  have k23_5 := (congrFun eu5 23).trans (hup_s _ _ _)
  obtain ⟨u6, eu6⟩ : ∃ w : HpT, w = (hup u5 23 (.inr (2, [.int (0 : Int32), .int (0 : Int32), .int (0 : Int32), .int (0 : Int32), .int (-1 : Int32), .int (0 : Int32), .int (0 : Int32), .int (0 : Int32), .int (0 : Int32), .int (0 : Int32), .null, .null]))) := ⟨_, rfl⟩
  refine pfX3_27 C dX3_init_31 k23_5 (Nat.le_of_ble_eq_true rfl) rfl eu6.symm ?_
  refine x_aload_n C 0 dX3_init_34 rfl rfl ?_
  refine x_iconst (v := (-1 : Int32)) C dX3_init_35 (by decide) ?_
  have k23_6 := (congrFun eu6 23).trans (hup_s _ _ _)
  obtain ⟨u7, eu7⟩ : ∃ w : HpT, w = (hup u6 23 (.inr (2, [.int (0 : Int32), .int (0 : Int32), .int (0 : Int32), .int (0 : Int32), .int (-1 : Int32), .int (0 : Int32), .int (-1 : Int32), .int (0 : Int32), .int (0 : Int32), .int (0 : Int32), .null, .null]))) := ⟨_, rfl⟩
  refine pfX3_30 C dX3_init_36 k23_6 (Nat.le_of_ble_eq_true rfl) rfl eu7.symm ?_
  refine x_aload_n C 0 dX3_init_39 rfl rfl ?_
  refine x_iconst (v := (0 : Int32)) C dX3_init_40 (by decide) ?_
  have k23_7 := (congrFun eu7 23).trans (hup_s _ _ _)
  obtain ⟨u8, eu8⟩ : ∃ w : HpT, w = (hup u7 23 (.inr (2, [.int (0 : Int32), .int (0 : Int32), .int (0 : Int32), .int (0 : Int32), .int (-1 : Int32), .int (0 : Int32), .int (-1 : Int32), .int (0 : Int32), .int (0 : Int32), .int (0 : Int32), .null, .null]))) := ⟨_, rfl⟩
  refine pfX3_33 C dX3_init_41 k23_7 (Nat.le_of_ble_eq_true rfl) rfl eu8.symm ?_
  refine x_aload_n C 0 dX3_init_44 rfl rfl ?_
  refine x_iconst (v := (0 : Int32)) C dX3_init_45 (by decide) ?_
  have k23_8 := (congrFun eu8 23).trans (hup_s _ _ _)
  obtain ⟨u9, eu9⟩ : ∃ w : HpT, w = (hup u8 23 (.inr (2, [.int (0 : Int32), .int (0 : Int32), .int (0 : Int32), .int (0 : Int32), .int (-1 : Int32), .int (0 : Int32), .int (-1 : Int32), .int (0 : Int32), .int (0 : Int32), .int (0 : Int32), .null, .null]))) := ⟨_, rfl⟩
  refine pfX3_36 C dX3_init_46 k23_8 (Nat.le_of_ble_eq_true rfl) rfl eu9.symm ?_
  refine x_aload_n C 0 dX3_init_49 rfl rfl ?_
  refine x_iconst (v := (0 : Int32)) C dX3_init_50 (by decide) ?_
  have k23_9 := (congrFun eu9 23).trans (hup_s _ _ _)
  obtain ⟨u10, eu10⟩ : ∃ w : HpT, w = (hup u9 23 (.inr (2, [.int (0 : Int32), .int (0 : Int32), .int (0 : Int32), .int (0 : Int32), .int (-1 : Int32), .int (0 : Int32), .int (-1 : Int32), .int (0 : Int32), .int (0 : Int32), .int (0 : Int32), .null, .null]))) := ⟨_, rfl⟩
  refine pfX3_39 C dX3_init_51 k23_9 (Nat.le_of_ble_eq_true rfl) rfl eu10.symm ?_
  refine x_aload_n C 0 dX3_init_54 rfl rfl ?_
  refine x_bipush (v := (6 : Int32)) C dX3_init_55 (by decide) ?_
  refine x_newI C ka_int 6 (by decide) (by decide) (Nat.le_of_ble_eq_true rfl) (Nat.le_of_ble_eq_true rfl) (Nat.le_of_ble_eq_true rfl) dX3_init_57 ?_
  obtain ⟨u11, eu11⟩ : ∃ w : HpT, w = (hup u10 24 (aI G 6 (fun _ => 0))) := ⟨_, rfl⟩
  refine x_norm (st2 := [.ref (z + 24), .ref (z + 23)]) (kc2 := 1) (ks2 := 6) (n2 := 25) rfl rfl rfl rfl eu11.symm ?_
  have k23_10 := (congrFun eu10 23).trans (hup_s _ _ _)
  have k23_11 := (congrFun eu11 23).trans (hup_n' (by decide) (k23_10))
  obtain ⟨u12, eu12⟩ : ∃ w : HpT, w = (hup u11 23 (.inr (2, [.int (0 : Int32), .int (0 : Int32), .int (0 : Int32), .int (0 : Int32), .int (-1 : Int32), .int (0 : Int32), .int (-1 : Int32), .int (0 : Int32), .int (0 : Int32), .int (0 : Int32), .ref (z + 24), .null]))) := ⟨_, rfl⟩
  refine pfX3_42 C dX3_init_59 hnm k23_11 (Nat.le_of_ble_eq_true rfl) rfl eu12.symm ?_
  refine x_aload_n C 0 dX3_init_62 rfl rfl ?_
  refine x_bipush (v := (6 : Int32)) C dX3_init_63 (by decide) ?_
  refine x_newI C ka_int 6 (by decide) (by decide) (Nat.le_of_ble_eq_true rfl) (Nat.le_of_ble_eq_true rfl) (Nat.le_of_ble_eq_true rfl) dX3_init_65 ?_
  obtain ⟨u13, eu13⟩ : ∃ w : HpT, w = (hup u12 25 (aI G 6 (fun _ => 0))) := ⟨_, rfl⟩
  refine x_norm (st2 := [.ref (z + 25), .ref (z + 23)]) (kc2 := 2) (ks2 := 12) (n2 := 26) rfl rfl rfl rfl eu13.symm ?_
  have k23_12 := (congrFun eu12 23).trans (hup_s _ _ _)
  have k23_13 := (congrFun eu13 23).trans (hup_n' (by decide) (k23_12))
  obtain ⟨u14, eu14⟩ : ∃ w : HpT, w = (hup u13 23 (.inr (2, [.int (0 : Int32), .int (0 : Int32), .int (0 : Int32), .int (0 : Int32), .int (-1 : Int32), .int (0 : Int32), .int (-1 : Int32), .int (0 : Int32), .int (0 : Int32), .int (0 : Int32), .ref (z + 24), .ref (z + 25)]))) := ⟨_, rfl⟩
  refine pfX3_46 C dX3_init_67 hnm k23_13 (Nat.le_of_ble_eq_true rfl) rfl eu14.symm ?_
  exact x_vret C hr hlk (Nat.le_of_ble_eq_true rfl) (Nat.le_of_ble_eq_true rfl) dX3_init_70 rfl (by rw [eu14, eu13, eu12, eu11, eu10, eu9, eu8, eu7, eu6, eu5, eu4, eu3, eu2, eu1]; simp only [hup_hup, hup_sk, ne_eq, Nat.reduceEqDiff, not_false_eq_true]) rfl
set_option maxRecDepth 20000 in
theorem p_X3_init_7 {G : GT} {l : Launch} {z : Nat} (u : HpT) (h26 : u 26 = some (.inr (2, [.int (0 : Int32), .int (0 : Int32), .int (0 : Int32), .int (0 : Int32), .int (0 : Int32), .int (0 : Int32), .int (0 : Int32), .int (0 : Int32), .int (0 : Int32), .int (0 : Int32), .null, .null]))) : Mt G l z yX3_init cX3_init 1 none { frames := 1, cells := 2, slots := 12, locals := 12 } [.ref (z + 26)] u 27 none (hup (hup (hup u 27 (aI G 6 (fun _ => 0))) 28 (aI G 6 (fun _ => 0))) 26 (.inr (2, [.int (0 : Int32), .int (0 : Int32), .int (0 : Int32), .int (0 : Int32), .int (-1 : Int32), .int (0 : Int32), .int (-1 : Int32), .int (0 : Int32), .int (0 : Int32), .int (0 : Int32), .ref (z + 27), .ref (z + 28)]))) 29 := by
  refine mt_of (by decide +kernel) (Nat.le_of_ble_eq_true rfl) ?_
  intro p e s m below meth c C hr hlk hnm
  refine x_aload_n C 0 dX3_init_0 rfl rfl ?_
  refine x_objInit C kmX3_3 kObjI kObjC (Nat.le_of_ble_eq_true rfl) (Nat.le_of_ble_eq_true rfl) dX3_init_1 ?_
  refine x_aload_n C 0 dX3_init_4 rfl rfl ?_
  refine x_iconst (v := (0 : Int32)) C dX3_init_5 (by decide) ?_
  obtain ⟨u1, eu1⟩ : ∃ w : HpT, w = (hup u 26 (.inr (2, [.int (0 : Int32), .int (0 : Int32), .int (0 : Int32), .int (0 : Int32), .int (0 : Int32), .int (0 : Int32), .int (0 : Int32), .int (0 : Int32), .int (0 : Int32), .int (0 : Int32), .null, .null]))) := ⟨_, rfl⟩
  refine pfX3_9 C dX3_init_6 h26 (Nat.le_of_ble_eq_true rfl) rfl eu1.symm ?_
  refine x_aload_n C 0 dX3_init_9 rfl rfl ?_
  refine x_iconst (v := (0 : Int32)) C dX3_init_10 (by decide) ?_
  have k26_1 := (congrFun eu1 26).trans (hup_s _ _ _)
  obtain ⟨u2, eu2⟩ : ∃ w : HpT, w = (hup u1 26 (.inr (2, [.int (0 : Int32), .int (0 : Int32), .int (0 : Int32), .int (0 : Int32), .int (0 : Int32), .int (0 : Int32), .int (0 : Int32), .int (0 : Int32), .int (0 : Int32), .int (0 : Int32), .null, .null]))) := ⟨_, rfl⟩
  refine pfX3_15 C dX3_init_11 k26_1 (Nat.le_of_ble_eq_true rfl) rfl eu2.symm ?_
  refine x_aload_n C 0 dX3_init_14 rfl rfl ?_
  refine x_iconst (v := (0 : Int32)) C dX3_init_15 (by decide) ?_
  have k26_2 := (congrFun eu2 26).trans (hup_s _ _ _)
  obtain ⟨u3, eu3⟩ : ∃ w : HpT, w = (hup u2 26 (.inr (2, [.int (0 : Int32), .int (0 : Int32), .int (0 : Int32), .int (0 : Int32), .int (0 : Int32), .int (0 : Int32), .int (0 : Int32), .int (0 : Int32), .int (0 : Int32), .int (0 : Int32), .null, .null]))) := ⟨_, rfl⟩
  refine pfX3_18 C dX3_init_16 k26_2 (Nat.le_of_ble_eq_true rfl) rfl eu3.symm ?_
  refine x_aload_n C 0 dX3_init_19 rfl rfl ?_
  refine x_iconst (v := (0 : Int32)) C dX3_init_20 (by decide) ?_
  have k26_3 := (congrFun eu3 26).trans (hup_s _ _ _)
  obtain ⟨u4, eu4⟩ : ∃ w : HpT, w = (hup u3 26 (.inr (2, [.int (0 : Int32), .int (0 : Int32), .int (0 : Int32), .int (0 : Int32), .int (0 : Int32), .int (0 : Int32), .int (0 : Int32), .int (0 : Int32), .int (0 : Int32), .int (0 : Int32), .null, .null]))) := ⟨_, rfl⟩
  refine pfX3_21 C dX3_init_21 k26_3 (Nat.le_of_ble_eq_true rfl) rfl eu4.symm ?_
  refine x_aload_n C 0 dX3_init_24 rfl rfl ?_
  refine x_iconst (v := (-1 : Int32)) C dX3_init_25 (by decide) ?_
  have k26_4 := (congrFun eu4 26).trans (hup_s _ _ _)
  obtain ⟨u5, eu5⟩ : ∃ w : HpT, w = (hup u4 26 (.inr (2, [.int (0 : Int32), .int (0 : Int32), .int (0 : Int32), .int (0 : Int32), .int (-1 : Int32), .int (0 : Int32), .int (0 : Int32), .int (0 : Int32), .int (0 : Int32), .int (0 : Int32), .null, .null]))) := ⟨_, rfl⟩
  refine pfX3_24 C dX3_init_26 k26_4 (Nat.le_of_ble_eq_true rfl) rfl eu5.symm ?_
  refine x_aload_n C 0 dX3_init_29 rfl rfl ?_
  refine x_iconst (v := (0 : Int32)) C dX3_init_30 (by decide) ?_
  have k26_5 := (congrFun eu5 26).trans (hup_s _ _ _)
  obtain ⟨u6, eu6⟩ : ∃ w : HpT, w = (hup u5 26 (.inr (2, [.int (0 : Int32), .int (0 : Int32), .int (0 : Int32), .int (0 : Int32), .int (-1 : Int32), .int (0 : Int32), .int (0 : Int32), .int (0 : Int32), .int (0 : Int32), .int (0 : Int32), .null, .null]))) := ⟨_, rfl⟩
  refine pfX3_27 C dX3_init_31 k26_5 (Nat.le_of_ble_eq_true rfl) rfl eu6.symm ?_
  refine x_aload_n C 0 dX3_init_34 rfl rfl ?_
  refine x_iconst (v := (-1 : Int32)) C dX3_init_35 (by decide) ?_
  have k26_6 := (congrFun eu6 26).trans (hup_s _ _ _)
  obtain ⟨u7, eu7⟩ : ∃ w : HpT, w = (hup u6 26 (.inr (2, [.int (0 : Int32), .int (0 : Int32), .int (0 : Int32), .int (0 : Int32), .int (-1 : Int32), .int (0 : Int32), .int (-1 : Int32), .int (0 : Int32), .int (0 : Int32), .int (0 : Int32), .null, .null]))) := ⟨_, rfl⟩
  refine pfX3_30 C dX3_init_36 k26_6 (Nat.le_of_ble_eq_true rfl) rfl eu7.symm ?_
  refine x_aload_n C 0 dX3_init_39 rfl rfl ?_
  refine x_iconst (v := (0 : Int32)) C dX3_init_40 (by decide) ?_
  have k26_7 := (congrFun eu7 26).trans (hup_s _ _ _)
  obtain ⟨u8, eu8⟩ : ∃ w : HpT, w = (hup u7 26 (.inr (2, [.int (0 : Int32), .int (0 : Int32), .int (0 : Int32), .int (0 : Int32), .int (-1 : Int32), .int (0 : Int32), .int (-1 : Int32), .int (0 : Int32), .int (0 : Int32), .int (0 : Int32), .null, .null]))) := ⟨_, rfl⟩
  refine pfX3_33 C dX3_init_41 k26_7 (Nat.le_of_ble_eq_true rfl) rfl eu8.symm ?_
  refine x_aload_n C 0 dX3_init_44 rfl rfl ?_
  refine x_iconst (v := (0 : Int32)) C dX3_init_45 (by decide) ?_
  have k26_8 := (congrFun eu8 26).trans (hup_s _ _ _)
  obtain ⟨u9, eu9⟩ : ∃ w : HpT, w = (hup u8 26 (.inr (2, [.int (0 : Int32), .int (0 : Int32), .int (0 : Int32), .int (0 : Int32), .int (-1 : Int32), .int (0 : Int32), .int (-1 : Int32), .int (0 : Int32), .int (0 : Int32), .int (0 : Int32), .null, .null]))) := ⟨_, rfl⟩
  refine pfX3_36 C dX3_init_46 k26_8 (Nat.le_of_ble_eq_true rfl) rfl eu9.symm ?_
  refine x_aload_n C 0 dX3_init_49 rfl rfl ?_
  refine x_iconst (v := (0 : Int32)) C dX3_init_50 (by decide) ?_
  have k26_9 := (congrFun eu9 26).trans (hup_s _ _ _)
  obtain ⟨u10, eu10⟩ : ∃ w : HpT, w = (hup u9 26 (.inr (2, [.int (0 : Int32), .int (0 : Int32), .int (0 : Int32), .int (0 : Int32), .int (-1 : Int32), .int (0 : Int32), .int (-1 : Int32), .int (0 : Int32), .int (0 : Int32), .int (0 : Int32), .null, .null]))) := ⟨_, rfl⟩
  refine pfX3_39 C dX3_init_51 k26_9 (Nat.le_of_ble_eq_true rfl) rfl eu10.symm ?_
  refine x_aload_n C 0 dX3_init_54 rfl rfl ?_
  refine x_bipush (v := (6 : Int32)) C dX3_init_55 (by decide) ?_
  refine x_newI C ka_int 6 (by decide) (by decide) (Nat.le_of_ble_eq_true rfl) (Nat.le_of_ble_eq_true rfl) (Nat.le_of_ble_eq_true rfl) dX3_init_57 ?_
  obtain ⟨u11, eu11⟩ : ∃ w : HpT, w = (hup u10 27 (aI G 6 (fun _ => 0))) := ⟨_, rfl⟩
  refine x_norm (st2 := [.ref (z + 27), .ref (z + 26)]) (kc2 := 1) (ks2 := 6) (n2 := 28) rfl rfl rfl rfl eu11.symm ?_
  have k26_10 := (congrFun eu10 26).trans (hup_s _ _ _)
  have k26_11 := (congrFun eu11 26).trans (hup_n' (by decide) (k26_10))
  obtain ⟨u12, eu12⟩ : ∃ w : HpT, w = (hup u11 26 (.inr (2, [.int (0 : Int32), .int (0 : Int32), .int (0 : Int32), .int (0 : Int32), .int (-1 : Int32), .int (0 : Int32), .int (-1 : Int32), .int (0 : Int32), .int (0 : Int32), .int (0 : Int32), .ref (z + 27), .null]))) := ⟨_, rfl⟩
  refine pfX3_42 C dX3_init_59 hnm k26_11 (Nat.le_of_ble_eq_true rfl) rfl eu12.symm ?_
  refine x_aload_n C 0 dX3_init_62 rfl rfl ?_
  refine x_bipush (v := (6 : Int32)) C dX3_init_63 (by decide) ?_
  refine x_newI C ka_int 6 (by decide) (by decide) (Nat.le_of_ble_eq_true rfl) (Nat.le_of_ble_eq_true rfl) (Nat.le_of_ble_eq_true rfl) dX3_init_65 ?_
  obtain ⟨u13, eu13⟩ : ∃ w : HpT, w = (hup u12 28 (aI G 6 (fun _ => 0))) := ⟨_, rfl⟩
  refine x_norm (st2 := [.ref (z + 28), .ref (z + 26)]) (kc2 := 2) (ks2 := 12) (n2 := 29) rfl rfl rfl rfl eu13.symm ?_
  have k26_12 := (congrFun eu12 26).trans (hup_s _ _ _)
  have k26_13 := (congrFun eu13 26).trans (hup_n' (by decide) (k26_12))
  obtain ⟨u14, eu14⟩ : ∃ w : HpT, w = (hup u13 26 (.inr (2, [.int (0 : Int32), .int (0 : Int32), .int (0 : Int32), .int (0 : Int32), .int (-1 : Int32), .int (0 : Int32), .int (-1 : Int32), .int (0 : Int32), .int (0 : Int32), .int (0 : Int32), .ref (z + 27), .ref (z + 28)]))) := ⟨_, rfl⟩
  refine pfX3_46 C dX3_init_67 hnm k26_13 (Nat.le_of_ble_eq_true rfl) rfl eu14.symm ?_
  exact x_vret C hr hlk (Nat.le_of_ble_eq_true rfl) (Nat.le_of_ble_eq_true rfl) dX3_init_70 rfl (by rw [eu14, eu13, eu12, eu11, eu10, eu9, eu8, eu7, eu6, eu5, eu4, eu3, eu2, eu1]; simp only [hup_hup, hup_sk, ne_eq, Nat.reduceEqDiff, not_false_eq_true]) rfl
set_option maxRecDepth 20000 in
theorem p_X3_init_8 {G : GT} {l : Launch} {z : Nat} (u : HpT) (h29 : u 29 = some (.inr (2, [.int (0 : Int32), .int (0 : Int32), .int (0 : Int32), .int (0 : Int32), .int (0 : Int32), .int (0 : Int32), .int (0 : Int32), .int (0 : Int32), .int (0 : Int32), .int (0 : Int32), .null, .null]))) : Mt G l z yX3_init cX3_init 1 none { frames := 1, cells := 2, slots := 12, locals := 12 } [.ref (z + 29)] u 30 none (hup (hup (hup u 30 (aI G 6 (fun _ => 0))) 31 (aI G 6 (fun _ => 0))) 29 (.inr (2, [.int (0 : Int32), .int (0 : Int32), .int (0 : Int32), .int (0 : Int32), .int (-1 : Int32), .int (0 : Int32), .int (-1 : Int32), .int (0 : Int32), .int (0 : Int32), .int (0 : Int32), .ref (z + 30), .ref (z + 31)]))) 32 := by
  refine mt_of (by decide +kernel) (Nat.le_of_ble_eq_true rfl) ?_
  intro p e s m below meth c C hr hlk hnm
  refine x_aload_n C 0 dX3_init_0 rfl rfl ?_
  refine x_objInit C kmX3_3 kObjI kObjC (Nat.le_of_ble_eq_true rfl) (Nat.le_of_ble_eq_true rfl) dX3_init_1 ?_
  refine x_aload_n C 0 dX3_init_4 rfl rfl ?_
  refine x_iconst (v := (0 : Int32)) C dX3_init_5 (by decide) ?_
  obtain ⟨u1, eu1⟩ : ∃ w : HpT, w = (hup u 29 (.inr (2, [.int (0 : Int32), .int (0 : Int32), .int (0 : Int32), .int (0 : Int32), .int (0 : Int32), .int (0 : Int32), .int (0 : Int32), .int (0 : Int32), .int (0 : Int32), .int (0 : Int32), .null, .null]))) := ⟨_, rfl⟩
  refine pfX3_9 C dX3_init_6 h29 (Nat.le_of_ble_eq_true rfl) rfl eu1.symm ?_
  refine x_aload_n C 0 dX3_init_9 rfl rfl ?_
  refine x_iconst (v := (0 : Int32)) C dX3_init_10 (by decide) ?_
  have k29_1 := (congrFun eu1 29).trans (hup_s _ _ _)
  obtain ⟨u2, eu2⟩ : ∃ w : HpT, w = (hup u1 29 (.inr (2, [.int (0 : Int32), .int (0 : Int32), .int (0 : Int32), .int (0 : Int32), .int (0 : Int32), .int (0 : Int32), .int (0 : Int32), .int (0 : Int32), .int (0 : Int32), .int (0 : Int32), .null, .null]))) := ⟨_, rfl⟩
  refine pfX3_15 C dX3_init_11 k29_1 (Nat.le_of_ble_eq_true rfl) rfl eu2.symm ?_
  refine x_aload_n C 0 dX3_init_14 rfl rfl ?_
  refine x_iconst (v := (0 : Int32)) C dX3_init_15 (by decide) ?_
  have k29_2 := (congrFun eu2 29).trans (hup_s _ _ _)
  obtain ⟨u3, eu3⟩ : ∃ w : HpT, w = (hup u2 29 (.inr (2, [.int (0 : Int32), .int (0 : Int32), .int (0 : Int32), .int (0 : Int32), .int (0 : Int32), .int (0 : Int32), .int (0 : Int32), .int (0 : Int32), .int (0 : Int32), .int (0 : Int32), .null, .null]))) := ⟨_, rfl⟩
  refine pfX3_18 C dX3_init_16 k29_2 (Nat.le_of_ble_eq_true rfl) rfl eu3.symm ?_
  refine x_aload_n C 0 dX3_init_19 rfl rfl ?_
  refine x_iconst (v := (0 : Int32)) C dX3_init_20 (by decide) ?_
  have k29_3 := (congrFun eu3 29).trans (hup_s _ _ _)
  obtain ⟨u4, eu4⟩ : ∃ w : HpT, w = (hup u3 29 (.inr (2, [.int (0 : Int32), .int (0 : Int32), .int (0 : Int32), .int (0 : Int32), .int (0 : Int32), .int (0 : Int32), .int (0 : Int32), .int (0 : Int32), .int (0 : Int32), .int (0 : Int32), .null, .null]))) := ⟨_, rfl⟩
  refine pfX3_21 C dX3_init_21 k29_3 (Nat.le_of_ble_eq_true rfl) rfl eu4.symm ?_
  refine x_aload_n C 0 dX3_init_24 rfl rfl ?_
  refine x_iconst (v := (-1 : Int32)) C dX3_init_25 (by decide) ?_
  have k29_4 := (congrFun eu4 29).trans (hup_s _ _ _)
  obtain ⟨u5, eu5⟩ : ∃ w : HpT, w = (hup u4 29 (.inr (2, [.int (0 : Int32), .int (0 : Int32), .int (0 : Int32), .int (0 : Int32), .int (-1 : Int32), .int (0 : Int32), .int (0 : Int32), .int (0 : Int32), .int (0 : Int32), .int (0 : Int32), .null, .null]))) := ⟨_, rfl⟩
  refine pfX3_24 C dX3_init_26 k29_4 (Nat.le_of_ble_eq_true rfl) rfl eu5.symm ?_
  refine x_aload_n C 0 dX3_init_29 rfl rfl ?_
  refine x_iconst (v := (0 : Int32)) C dX3_init_30 (by decide) ?_
  have k29_5 := (congrFun eu5 29).trans (hup_s _ _ _)
  obtain ⟨u6, eu6⟩ : ∃ w : HpT, w = (hup u5 29 (.inr (2, [.int (0 : Int32), .int (0 : Int32), .int (0 : Int32), .int (0 : Int32), .int (-1 : Int32), .int (0 : Int32), .int (0 : Int32), .int (0 : Int32), .int (0 : Int32), .int (0 : Int32), .null, .null]))) := ⟨_, rfl⟩
  refine pfX3_27 C dX3_init_31 k29_5 (Nat.le_of_ble_eq_true rfl) rfl eu6.symm ?_
  refine x_aload_n C 0 dX3_init_34 rfl rfl ?_
  refine x_iconst (v := (-1 : Int32)) C dX3_init_35 (by decide) ?_
  have k29_6 := (congrFun eu6 29).trans (hup_s _ _ _)
  obtain ⟨u7, eu7⟩ : ∃ w : HpT, w = (hup u6 29 (.inr (2, [.int (0 : Int32), .int (0 : Int32), .int (0 : Int32), .int (0 : Int32), .int (-1 : Int32), .int (0 : Int32), .int (-1 : Int32), .int (0 : Int32), .int (0 : Int32), .int (0 : Int32), .null, .null]))) := ⟨_, rfl⟩
  refine pfX3_30 C dX3_init_36 k29_6 (Nat.le_of_ble_eq_true rfl) rfl eu7.symm ?_
  refine x_aload_n C 0 dX3_init_39 rfl rfl ?_
  refine x_iconst (v := (0 : Int32)) C dX3_init_40 (by decide) ?_
  have k29_7 := (congrFun eu7 29).trans (hup_s _ _ _)
  obtain ⟨u8, eu8⟩ : ∃ w : HpT, w = (hup u7 29 (.inr (2, [.int (0 : Int32), .int (0 : Int32), .int (0 : Int32), .int (0 : Int32), .int (-1 : Int32), .int (0 : Int32), .int (-1 : Int32), .int (0 : Int32), .int (0 : Int32), .int (0 : Int32), .null, .null]))) := ⟨_, rfl⟩
  refine pfX3_33 C dX3_init_41 k29_7 (Nat.le_of_ble_eq_true rfl) rfl eu8.symm ?_
  refine x_aload_n C 0 dX3_init_44 rfl rfl ?_
  refine x_iconst (v := (0 : Int32)) C dX3_init_45 (by decide) ?_
  have k29_8 := (congrFun eu8 29).trans (hup_s _ _ _)
  obtain ⟨u9, eu9⟩ : ∃ w : HpT, w = (hup u8 29 (.inr (2, [.int (0 : Int32), .int (0 : Int32), .int (0 : Int32), .int (0 : Int32), .int (-1 : Int32), .int (0 : Int32), .int (-1 : Int32), .int (0 : Int32), .int (0 : Int32), .int (0 : Int32), .null, .null]))) := ⟨_, rfl⟩
  refine pfX3_36 C dX3_init_46 k29_8 (Nat.le_of_ble_eq_true rfl) rfl eu9.symm ?_
  refine x_aload_n C 0 dX3_init_49 rfl rfl ?_
  refine x_iconst (v := (0 : Int32)) C dX3_init_50 (by decide) ?_
  have k29_9 := (congrFun eu9 29).trans (hup_s _ _ _)
  obtain ⟨u10, eu10⟩ : ∃ w : HpT, w = (hup u9 29 (.inr (2, [.int (0 : Int32), .int (0 : Int32), .int (0 : Int32), .int (0 : Int32), .int (-1 : Int32), .int (0 : Int32), .int (-1 : Int32), .int (0 : Int32), .int (0 : Int32), .int (0 : Int32), .null, .null]))) := ⟨_, rfl⟩
  refine pfX3_39 C dX3_init_51 k29_9 (Nat.le_of_ble_eq_true rfl) rfl eu10.symm ?_
  refine x_aload_n C 0 dX3_init_54 rfl rfl ?_
  refine x_bipush (v := (6 : Int32)) C dX3_init_55 (by decide) ?_
  refine x_newI C ka_int 6 (by decide) (by decide) (Nat.le_of_ble_eq_true rfl) (Nat.le_of_ble_eq_true rfl) (Nat.le_of_ble_eq_true rfl) dX3_init_57 ?_
  obtain ⟨u11, eu11⟩ : ∃ w : HpT, w = (hup u10 30 (aI G 6 (fun _ => 0))) := ⟨_, rfl⟩
  refine x_norm (st2 := [.ref (z + 30), .ref (z + 29)]) (kc2 := 1) (ks2 := 6) (n2 := 31) rfl rfl rfl rfl eu11.symm ?_
  have k29_10 := (congrFun eu10 29).trans (hup_s _ _ _)
  have k29_11 := (congrFun eu11 29).trans (hup_n' (by decide) (k29_10))
  obtain ⟨u12, eu12⟩ : ∃ w : HpT, w = (hup u11 29 (.inr (2, [.int (0 : Int32), .int (0 : Int32), .int (0 : Int32), .int (0 : Int32), .int (-1 : Int32), .int (0 : Int32), .int (-1 : Int32), .int (0 : Int32), .int (0 : Int32), .int (0 : Int32), .ref (z + 30), .null]))) := ⟨_, rfl⟩
  refine pfX3_42 C dX3_init_59 hnm k29_11 (Nat.le_of_ble_eq_true rfl) rfl eu12.symm ?_
  refine x_aload_n C 0 dX3_init_62 rfl rfl ?_
  refine x_bipush (v := (6 : Int32)) C dX3_init_63 (by decide) ?_
  refine x_newI C ka_int 6 (by decide) (by decide) (Nat.le_of_ble_eq_true rfl) (Nat.le_of_ble_eq_true rfl) (Nat.le_of_ble_eq_true rfl) dX3_init_65 ?_
  obtain ⟨u13, eu13⟩ : ∃ w : HpT, w = (hup u12 31 (aI G 6 (fun _ => 0))) := ⟨_, rfl⟩
  refine x_norm (st2 := [.ref (z + 31), .ref (z + 29)]) (kc2 := 2) (ks2 := 12) (n2 := 32) rfl rfl rfl rfl eu13.symm ?_
  have k29_12 := (congrFun eu12 29).trans (hup_s _ _ _)
  have k29_13 := (congrFun eu13 29).trans (hup_n' (by decide) (k29_12))
  obtain ⟨u14, eu14⟩ : ∃ w : HpT, w = (hup u13 29 (.inr (2, [.int (0 : Int32), .int (0 : Int32), .int (0 : Int32), .int (0 : Int32), .int (-1 : Int32), .int (0 : Int32), .int (-1 : Int32), .int (0 : Int32), .int (0 : Int32), .int (0 : Int32), .ref (z + 30), .ref (z + 31)]))) := ⟨_, rfl⟩
  refine pfX3_46 C dX3_init_67 hnm k29_13 (Nat.le_of_ble_eq_true rfl) rfl eu14.symm ?_
  exact x_vret C hr hlk (Nat.le_of_ble_eq_true rfl) (Nat.le_of_ble_eq_true rfl) dX3_init_70 rfl (by rw [eu14, eu13, eu12, eu11, eu10, eu9, eu8, eu7, eu6, eu5, eu4, eu3, eu2, eu1]; simp only [hup_hup, hup_sk, ne_eq, Nat.reduceEqDiff, not_false_eq_true]) rfl
set_option maxRecDepth 20000 in
theorem p_X3_init_9 {G : GT} {l : Launch} {z : Nat} (u : HpT) (h32 : u 32 = some (.inr (2, [.int (0 : Int32), .int (0 : Int32), .int (0 : Int32), .int (0 : Int32), .int (0 : Int32), .int (0 : Int32), .int (0 : Int32), .int (0 : Int32), .int (0 : Int32), .int (0 : Int32), .null, .null]))) : Mt G l z yX3_init cX3_init 1 none { frames := 1, cells := 2, slots := 12, locals := 12 } [.ref (z + 32)] u 33 none (hup (hup (hup u 33 (aI G 6 (fun _ => 0))) 34 (aI G 6 (fun _ => 0))) 32 (.inr (2, [.int (0 : Int32), .int (0 : Int32), .int (0 : Int32), .int (0 : Int32), .int (-1 : Int32), .int (0 : Int32), .int (-1 : Int32), .int (0 : Int32), .int (0 : Int32), .int (0 : Int32), .ref (z + 33), .ref (z + 34)]))) 35 := by
  refine mt_of (by decide +kernel) (Nat.le_of_ble_eq_true rfl) ?_
  intro p e s m below meth c C hr hlk hnm
  refine x_aload_n C 0 dX3_init_0 rfl rfl ?_
  refine x_objInit C kmX3_3 kObjI kObjC (Nat.le_of_ble_eq_true rfl) (Nat.le_of_ble_eq_true rfl) dX3_init_1 ?_
  refine x_aload_n C 0 dX3_init_4 rfl rfl ?_
  refine x_iconst (v := (0 : Int32)) C dX3_init_5 (by decide) ?_
  obtain ⟨u1, eu1⟩ : ∃ w : HpT, w = (hup u 32 (.inr (2, [.int (0 : Int32), .int (0 : Int32), .int (0 : Int32), .int (0 : Int32), .int (0 : Int32), .int (0 : Int32), .int (0 : Int32), .int (0 : Int32), .int (0 : Int32), .int (0 : Int32), .null, .null]))) := ⟨_, rfl⟩
  refine pfX3_9 C dX3_init_6 h32 (Nat.le_of_ble_eq_true rfl) rfl eu1.symm ?_
  refine x_aload_n C 0 dX3_init_9 rfl rfl ?_
  refine x_iconst (v := (0 : Int32)) C dX3_init_10 (by decide) ?_
  have k32_1 := (congrFun eu1 32).trans (hup_s _ _ _)
  obtain ⟨u2, eu2⟩ : ∃ w : HpT, w = (hup u1 32 (.inr (2, [.int (0 : Int32), .int (0 : Int32), .int (0 : Int32), .int (0 : Int32), .int (0 : Int32), .int (0 : Int32), .int (0 : Int32), .int (0 : Int32), .int (0 : Int32), .int (0 : Int32), .null, .null]))) := ⟨_, rfl⟩
  refine pfX3_15 C dX3_init_11 k32_1 (Nat.le_of_ble_eq_true rfl) rfl eu2.symm ?_
  refine x_aload_n C 0 dX3_init_14 rfl rfl ?_
  refine x_iconst (v := (0 : Int32)) C dX3_init_15 (by decide) ?_
  have k32_2 := (congrFun eu2 32).trans (hup_s _ _ _)
  obtain ⟨u3, eu3⟩ : ∃ w : HpT, w = (hup u2 32 (.inr (2, [.int (0 : Int32), .int (0 : Int32), .int (0 : Int32), .int (0 : Int32), .int (0 : Int32), .int (0 : Int32), .int (0 : Int32), .int (0 : Int32), .int (0 : Int32), .int (0 : Int32), .null, .null]))) := ⟨_, rfl⟩
  refine pfX3_18 C dX3_init_16 k32_2 (Nat.le_of_ble_eq_true rfl) rfl eu3.symm ?_
  refine x_aload_n C 0 dX3_init_19 rfl rfl ?_
  refine x_iconst (v := (0 : Int32)) C dX3_init_20 (by decide) ?_
  have k32_3 := (congrFun eu3 32).trans (hup_s _ _ _)
  obtain ⟨u4, eu4⟩ : ∃ w : HpT, w = (hup u3 32 (.inr (2, [.int (0 : Int32), .int (0 : Int32), .int (0 : Int32), .int (0 : Int32), .int (0 : Int32), .int (0 : Int32), .int (0 : Int32), .int (0 : Int32), .int (0 : Int32), .int (0 : Int32), .null, .null]))) := ⟨_, rfl⟩
  refine pfX3_21 C dX3_init_21 k32_3 (Nat.le_of_ble_eq_true rfl) rfl eu4.symm ?_
  refine x_aload_n C 0 dX3_init_24 rfl rfl ?_
  refine x_iconst (v := (-1 : Int32)) C dX3_init_25 (by decide) ?_
  have k32_4 := (congrFun eu4 32).trans (hup_s _ _ _)
  obtain ⟨u5, eu5⟩ : ∃ w : HpT, w = (hup u4 32 (.inr (2, [.int (0 : Int32), .int (0 : Int32), .int (0 : Int32), .int (0 : Int32), .int (-1 : Int32), .int (0 : Int32), .int (0 : Int32), .int (0 : Int32), .int (0 : Int32), .int (0 : Int32), .null, .null]))) := ⟨_, rfl⟩
  refine pfX3_24 C dX3_init_26 k32_4 (Nat.le_of_ble_eq_true rfl) rfl eu5.symm ?_
  refine x_aload_n C 0 dX3_init_29 rfl rfl ?_
  refine x_iconst (v := (0 : Int32)) C dX3_init_30 (by decide) ?_
  have k32_5 := (congrFun eu5 32).trans (hup_s _ _ _)
  obtain ⟨u6, eu6⟩ : ∃ w : HpT, w = (hup u5 32 (.inr (2, [.int (0 : Int32), .int (0 : Int32), .int (0 : Int32), .int (0 : Int32), .int (-1 : Int32), .int (0 : Int32), .int (0 : Int32), .int (0 : Int32), .int (0 : Int32), .int (0 : Int32), .null, .null]))) := ⟨_, rfl⟩
  refine pfX3_27 C dX3_init_31 k32_5 (Nat.le_of_ble_eq_true rfl) rfl eu6.symm ?_
  refine x_aload_n C 0 dX3_init_34 rfl rfl ?_
  refine x_iconst (v := (-1 : Int32)) C dX3_init_35 (by decide) ?_
  have k32_6 := (congrFun eu6 32).trans (hup_s _ _ _)
  obtain ⟨u7, eu7⟩ : ∃ w : HpT, w = (hup u6 32 (.inr (2, [.int (0 : Int32), .int (0 : Int32), .int (0 : Int32), .int (0 : Int32), .int (-1 : Int32), .int (0 : Int32), .int (-1 : Int32), .int (0 : Int32), .int (0 : Int32), .int (0 : Int32), .null, .null]))) := ⟨_, rfl⟩
  refine pfX3_30 C dX3_init_36 k32_6 (Nat.le_of_ble_eq_true rfl) rfl eu7.symm ?_
  refine x_aload_n C 0 dX3_init_39 rfl rfl ?_
  refine x_iconst (v := (0 : Int32)) C dX3_init_40 (by decide) ?_
  have k32_7 := (congrFun eu7 32).trans (hup_s _ _ _)
  obtain ⟨u8, eu8⟩ : ∃ w : HpT, w = (hup u7 32 (.inr (2, [.int (0 : Int32), .int (0 : Int32), .int (0 : Int32), .int (0 : Int32), .int (-1 : Int32), .int (0 : Int32), .int (-1 : Int32), .int (0 : Int32), .int (0 : Int32), .int (0 : Int32), .null, .null]))) := ⟨_, rfl⟩
  refine pfX3_33 C dX3_init_41 k32_7 (Nat.le_of_ble_eq_true rfl) rfl eu8.symm ?_
  refine x_aload_n C 0 dX3_init_44 rfl rfl ?_
  refine x_iconst (v := (0 : Int32)) C dX3_init_45 (by decide) ?_
  have k32_8 := (congrFun eu8 32).trans (hup_s _ _ _)
  obtain ⟨u9, eu9⟩ : ∃ w : HpT, w = (hup u8 32 (.inr (2, [.int (0 : Int32), .int (0 : Int32), .int (0 : Int32), .int (0 : Int32), .int (-1 : Int32), .int (0 : Int32), .int (-1 : Int32), .int (0 : Int32), .int (0 : Int32), .int (0 : Int32), .null, .null]))) := ⟨_, rfl⟩
  refine pfX3_36 C dX3_init_46 k32_8 (Nat.le_of_ble_eq_true rfl) rfl eu9.symm ?_
  refine x_aload_n C 0 dX3_init_49 rfl rfl ?_
  refine x_iconst (v := (0 : Int32)) C dX3_init_50 (by decide) ?_
  have k32_9 := (congrFun eu9 32).trans (hup_s _ _ _)
  obtain ⟨u10, eu10⟩ : ∃ w : HpT, w = (hup u9 32 (.inr (2, [.int (0 : Int32), .int (0 : Int32), .int (0 : Int32), .int (0 : Int32), .int (-1 : Int32), .int (0 : Int32), .int (-1 : Int32), .int (0 : Int32), .int (0 : Int32), .int (0 : Int32), .null, .null]))) := ⟨_, rfl⟩
  refine pfX3_39 C dX3_init_51 k32_9 (Nat.le_of_ble_eq_true rfl) rfl eu10.symm ?_
  refine x_aload_n C 0 dX3_init_54 rfl rfl ?_
  refine x_bipush (v := (6 : Int32)) C dX3_init_55 (by decide) ?_
  refine x_newI C ka_int 6 (by decide) (by decide) (Nat.le_of_ble_eq_true rfl) (Nat.le_of_ble_eq_true rfl) (Nat.le_of_ble_eq_true rfl) dX3_init_57 ?_
  obtain ⟨u11, eu11⟩ : ∃ w : HpT, w = (hup u10 33 (aI G 6 (fun _ => 0))) := ⟨_, rfl⟩
  refine x_norm (st2 := [.ref (z + 33), .ref (z + 32)]) (kc2 := 1) (ks2 := 6) (n2 := 34) rfl rfl rfl rfl eu11.symm ?_
  have k32_10 := (congrFun eu10 32).trans (hup_s _ _ _)
  have k32_11 := (congrFun eu11 32).trans (hup_n' (by decide) (k32_10))
  obtain ⟨u12, eu12⟩ : ∃ w : HpT, w = (hup u11 32 (.inr (2, [.int (0 : Int32), .int (0 : Int32), .int (0 : Int32), .int (0 : Int32), .int (-1 : Int32), .int (0 : Int32), .int (-1 : Int32), .int (0 : Int32), .int (0 : Int32), .int (0 : Int32), .ref (z + 33), .null]))) := ⟨_, rfl⟩
  refine pfX3_42 C dX3_init_59 hnm k32_11 (Nat.le_of_ble_eq_true rfl) rfl eu12.symm ?_
  refine x_aload_n C 0 dX3_init_62 rfl rfl ?_
  refine x_bipush (v := (6 : Int32)) C dX3_init_63 (by decide) ?_
  refine x_newI C ka_int 6 (by decide) (by decide) (Nat.le_of_ble_eq_true rfl) (Nat.le_of_ble_eq_true rfl) (Nat.le_of_ble_eq_true rfl) dX3_init_65 ?_
  obtain ⟨u13, eu13⟩ : ∃ w : HpT, w = (hup u12 34 (aI G 6 (fun _ => 0))) := ⟨_, rfl⟩
  refine x_norm (st2 := [.ref (z + 34), .ref (z + 32)]) (kc2 := 2) (ks2 := 12) (n2 := 35) rfl rfl rfl rfl eu13.symm ?_
  have k32_12 := (congrFun eu12 32).trans (hup_s _ _ _)
  have k32_13 := (congrFun eu13 32).trans (hup_n' (by decide) (k32_12))
  obtain ⟨u14, eu14⟩ : ∃ w : HpT, w = (hup u13 32 (.inr (2, [.int (0 : Int32), .int (0 : Int32), .int (0 : Int32), .int (0 : Int32), .int (-1 : Int32), .int (0 : Int32), .int (-1 : Int32), .int (0 : Int32), .int (0 : Int32), .int (0 : Int32), .ref (z + 33), .ref (z + 34)]))) := ⟨_, rfl⟩
  refine pfX3_46 C dX3_init_67 hnm k32_13 (Nat.le_of_ble_eq_true rfl) rfl eu14.symm ?_
  exact x_vret C hr hlk (Nat.le_of_ble_eq_true rfl) (Nat.le_of_ble_eq_true rfl) dX3_init_70 rfl (by rw [eu14, eu13, eu12, eu11, eu10, eu9, eu8, eu7, eu6, eu5, eu4, eu3, eu2, eu1]; simp only [hup_hup, hup_sk, ne_eq, Nat.reduceEqDiff, not_false_eq_true]) rfl
set_option maxRecDepth 20000 in
theorem p_X3_init_10 {G : GT} {l : Launch} {z : Nat} (u : HpT) (h35 : u 35 = some (.inr (2, [.int (0 : Int32), .int (0 : Int32), .int (0 : Int32), .int (0 : Int32), .int (0 : Int32), .int (0 : Int32), .int (0 : Int32), .int (0 : Int32), .int (0 : Int32), .int (0 : Int32), .null, .null]))) : Mt G l z yX3_init cX3_init 1 none { frames := 1, cells := 2, slots := 12, locals := 12 } [.ref (z + 35)] u 36 none (hup (hup (hup u 36 (aI G 6 (fun _ => 0))) 37 (aI G 6 (fun _ => 0))) 35 (.inr (2, [.int (0 : Int32), .int (0 : Int32), .int (0 : Int32), .int (0 : Int32), .int (-1 : Int32), .int (0 : Int32), .int (-1 : Int32), .int (0 : Int32), .int (0 : Int32), .int (0 : Int32), .ref (z + 36), .ref (z + 37)]))) 38 := by
  refine mt_of (by decide +kernel) (Nat.le_of_ble_eq_true rfl) ?_
  intro p e s m below meth c C hr hlk hnm
  refine x_aload_n C 0 dX3_init_0 rfl rfl ?_
  refine x_objInit C kmX3_3 kObjI kObjC (Nat.le_of_ble_eq_true rfl) (Nat.le_of_ble_eq_true rfl) dX3_init_1 ?_
  refine x_aload_n C 0 dX3_init_4 rfl rfl ?_
  refine x_iconst (v := (0 : Int32)) C dX3_init_5 (by decide) ?_
  obtain ⟨u1, eu1⟩ : ∃ w : HpT, w = (hup u 35 (.inr (2, [.int (0 : Int32), .int (0 : Int32), .int (0 : Int32), .int (0 : Int32), .int (0 : Int32), .int (0 : Int32), .int (0 : Int32), .int (0 : Int32), .int (0 : Int32), .int (0 : Int32), .null, .null]))) := ⟨_, rfl⟩
  refine pfX3_9 C dX3_init_6 h35 (Nat.le_of_ble_eq_true rfl) rfl eu1.symm ?_
  refine x_aload_n C 0 dX3_init_9 rfl rfl ?_
  refine x_iconst (v := (0 : Int32)) C dX3_init_10 (by decide) ?_
  have k35_1 := (congrFun eu1 35).trans (hup_s _ _ _)
  obtain ⟨u2, eu2⟩ : ∃ w : HpT, w = (hup u1 35 (.inr (2, [.int (0 : Int32), .int (0 : Int32), .int (0 : Int32), .int (0 : Int32), .int (0 : Int32), .int (0 : Int32), .int (0 : Int32), .int (0 : Int32), .int (0 : Int32), .int (0 : Int32), .null, .null]))) := ⟨_, rfl⟩
  refine pfX3_15 C dX3_init_11 k35_1 (Nat.le_of_ble_eq_true rfl) rfl eu2.symm ?_
  refine x_aload_n C 0 dX3_init_14 rfl rfl ?_
  refine x_iconst (v := (0 : Int32)) C dX3_init_15 (by decide) ?_
  have k35_2 := (congrFun eu2 35).trans (hup_s _ _ _)
  obtain ⟨u3, eu3⟩ : ∃ w : HpT, w = (hup u2 35 (.inr (2, [.int (0 : Int32), .int (0 : Int32), .int (0 : Int32), .int (0 : Int32), .int (0 : Int32), .int (0 : Int32), .int (0 : Int32), .int (0 : Int32), .int (0 : Int32), .int (0 : Int32), .null, .null]))) := ⟨_, rfl⟩
  refine pfX3_18 C dX3_init_16 k35_2 (Nat.le_of_ble_eq_true rfl) rfl eu3.symm ?_
  refine x_aload_n C 0 dX3_init_19 rfl rfl ?_
  refine x_iconst (v := (0 : Int32)) C dX3_init_20 (by decide) ?_
  have k35_3 := (congrFun eu3 35).trans (hup_s _ _ _)
  obtain ⟨u4, eu4⟩ : ∃ w : HpT, w = (hup u3 35 (.inr (2, [.int (0 : Int32), .int (0 : Int32), .int (0 : Int32), .int (0 : Int32), .int (0 : Int32), .int (0 : Int32), .int (0 : Int32), .int (0 : Int32), .int (0 : Int32), .int (0 : Int32), .null, .null]))) := ⟨_, rfl⟩
  refine pfX3_21 C dX3_init_21 k35_3 (Nat.le_of_ble_eq_true rfl) rfl eu4.symm ?_
  refine x_aload_n C 0 dX3_init_24 rfl rfl ?_
  refine x_iconst (v := (-1 : Int32)) C dX3_init_25 (by decide) ?_
  have k35_4 := (congrFun eu4 35).trans (hup_s _ _ _)
  obtain ⟨u5, eu5⟩ : ∃ w : HpT, w = (hup u4 35 (.inr (2, [.int (0 : Int32), .int (0 : Int32), .int (0 : Int32), .int (0 : Int32), .int (-1 : Int32), .int (0 : Int32), .int (0 : Int32), .int (0 : Int32), .int (0 : Int32), .int (0 : Int32), .null, .null]))) := ⟨_, rfl⟩
  refine pfX3_24 C dX3_init_26 k35_4 (Nat.le_of_ble_eq_true rfl) rfl eu5.symm ?_
  refine x_aload_n C 0 dX3_init_29 rfl rfl ?_
  refine x_iconst (v := (0 : Int32)) C dX3_init_30 (by decide) ?_
  have k35_5 := (congrFun eu5 35).trans (hup_s _ _ _)
  obtain ⟨u6, eu6⟩ : ∃ w : HpT, w = (hup u5 35 (.inr (2, [.int (0 : Int32), .int (0 : Int32), .int (0 : Int32), .int (0 : Int32), .int (-1 : Int32), .int (0 : Int32), .int (0 : Int32), .int (0 : Int32), .int (0 : Int32), .int (0 : Int32), .null, .null]))) := ⟨_, rfl⟩
  refine pfX3_27 C dX3_init_31 k35_5 (Nat.le_of_ble_eq_true rfl) rfl eu6.symm ?_
  refine x_aload_n C 0 dX3_init_34 rfl rfl ?_
  refine x_iconst (v := (-1 : Int32)) C dX3_init_35 (by decide) ?_
  have k35_6 := (congrFun eu6 35).trans (hup_s _ _ _)
  obtain ⟨u7, eu7⟩ : ∃ w : HpT, w = (hup u6 35 (.inr (2, [.int (0 : Int32), .int (0 : Int32), .int (0 : Int32), .int (0 : Int32), .int (-1 : Int32), .int (0 : Int32), .int (-1 : Int32), .int (0 : Int32), .int (0 : Int32), .int (0 : Int32), .null, .null]))) := ⟨_, rfl⟩
  refine pfX3_30 C dX3_init_36 k35_6 (Nat.le_of_ble_eq_true rfl) rfl eu7.symm ?_
  refine x_aload_n C 0 dX3_init_39 rfl rfl ?_
  refine x_iconst (v := (0 : Int32)) C dX3_init_40 (by decide) ?_
  have k35_7 := (congrFun eu7 35).trans (hup_s _ _ _)
  obtain ⟨u8, eu8⟩ : ∃ w : HpT, w = (hup u7 35 (.inr (2, [.int (0 : Int32), .int (0 : Int32), .int (0 : Int32), .int (0 : Int32), .int (-1 : Int32), .int (0 : Int32), .int (-1 : Int32), .int (0 : Int32), .int (0 : Int32), .int (0 : Int32), .null, .null]))) := ⟨_, rfl⟩
  refine pfX3_33 C dX3_init_41 k35_7 (Nat.le_of_ble_eq_true rfl) rfl eu8.symm ?_
  refine x_aload_n C 0 dX3_init_44 rfl rfl ?_
  refine x_iconst (v := (0 : Int32)) C dX3_init_45 (by decide) ?_
  have k35_8 := (congrFun eu8 35).trans (hup_s _ _ _)
  obtain ⟨u9, eu9⟩ : ∃ w : HpT, w = (hup u8 35 (.inr (2, [.int (0 : Int32), .int (0 : Int32), .int (0 : Int32), .int (0 : Int32), .int (-1 : Int32), .int (0 : Int32), .int (-1 : Int32), .int (0 : Int32), .int (0 : Int32), .int (0 : Int32), .null, .null]))) := ⟨_, rfl⟩
  refine pfX3_36 C dX3_init_46 k35_8 (Nat.le_of_ble_eq_true rfl) rfl eu9.symm ?_
  refine x_aload_n C 0 dX3_init_49 rfl rfl ?_
  refine x_iconst (v := (0 : Int32)) C dX3_init_50 (by decide) ?_
  have k35_9 := (congrFun eu9 35).trans (hup_s _ _ _)
  obtain ⟨u10, eu10⟩ : ∃ w : HpT, w = (hup u9 35 (.inr (2, [.int (0 : Int32), .int (0 : Int32), .int (0 : Int32), .int (0 : Int32), .int (-1 : Int32), .int (0 : Int32), .int (-1 : Int32), .int (0 : Int32), .int (0 : Int32), .int (0 : Int32), .null, .null]))) := ⟨_, rfl⟩
  refine pfX3_39 C dX3_init_51 k35_9 (Nat.le_of_ble_eq_true rfl) rfl eu10.symm ?_
  refine x_aload_n C 0 dX3_init_54 rfl rfl ?_
  refine x_bipush (v := (6 : Int32)) C dX3_init_55 (by decide) ?_
  refine x_newI C ka_int 6 (by decide) (by decide) (Nat.le_of_ble_eq_true rfl) (Nat.le_of_ble_eq_true rfl) (Nat.le_of_ble_eq_true rfl) dX3_init_57 ?_
  obtain ⟨u11, eu11⟩ : ∃ w : HpT, w = (hup u10 36 (aI G 6 (fun _ => 0))) := ⟨_, rfl⟩
  refine x_norm (st2 := [.ref (z + 36), .ref (z + 35)]) (kc2 := 1) (ks2 := 6) (n2 := 37) rfl rfl rfl rfl eu11.symm ?_
  have k35_10 := (congrFun eu10 35).trans (hup_s _ _ _)
  have k35_11 := (congrFun eu11 35).trans (hup_n' (by decide) (k35_10))
  obtain ⟨u12, eu12⟩ : ∃ w : HpT, w = (hup u11 35 (.inr (2, [.int (0 : Int32), .int (0 : Int32), .int (0 : Int32), .int (0 : Int32), .int (-1 : Int32), .int (0 : Int32), .int (-1 : Int32), .int (0 : Int32), .int (0 : Int32), .int (0 : Int32), .ref (z + 36), .null]))) := ⟨_, rfl⟩
  refine pfX3_42 C dX3_init_59 hnm k35_11 (Nat.le_of_ble_eq_true rfl) rfl eu12.symm ?_
  refine x_aload_n C 0 dX3_init_62 rfl rfl ?_
  refine x_bipush (v := (6 : Int32)) C dX3_init_63 (by decide) ?_
  refine x_newI C ka_int 6 (by decide) (by decide) (Nat.le_of_ble_eq_true rfl) (Nat.le_of_ble_eq_true rfl) (Nat.le_of_ble_eq_true rfl) dX3_init_65 ?_
  obtain ⟨u13, eu13⟩ : ∃ w : HpT, w = (hup u12 37 (aI G 6 (fun _ => 0))) := ⟨_, rfl⟩
  refine x_norm (st2 := [.ref (z + 37), .ref (z + 35)]) (kc2 := 2) (ks2 := 12) (n2 := 38) rfl rfl rfl rfl eu13.symm ?_
  have k35_12 := (congrFun eu12 35).trans (hup_s _ _ _)
  have k35_13 := (congrFun eu13 35).trans (hup_n' (by decide) (k35_12))
  obtain ⟨u14, eu14⟩ : ∃ w : HpT, w = (hup u13 35 (.inr (2, [.int (0 : Int32), .int (0 : Int32), .int (0 : Int32), .int (0 : Int32), .int (-1 : Int32), .int (0 : Int32), .int (-1 : Int32), .int (0 : Int32), .int (0 : Int32), .int (0 : Int32), .ref (z + 36), .ref (z + 37)]))) := ⟨_, rfl⟩
  refine pfX3_46 C dX3_init_67 hnm k35_13 (Nat.le_of_ble_eq_true rfl) rfl eu14.symm ?_
  exact x_vret C hr hlk (Nat.le_of_ble_eq_true rfl) (Nat.le_of_ble_eq_true rfl) dX3_init_70 rfl (by rw [eu14, eu13, eu12, eu11, eu10, eu9, eu8, eu7, eu6, eu5, eu4, eu3, eu2, eu1]; simp only [hup_hup, hup_sk, ne_eq, Nat.reduceEqDiff, not_false_eq_true]) rfl
set_option maxRecDepth 20000 in
theorem p_X3_init_11 {G : GT} {l : Launch} {z : Nat} (u : HpT) (h38 : u 38 = some (.inr (2, [.int (0 : Int32), .int (0 : Int32), .int (0 : Int32), .int (0 : Int32), .int (0 : Int32), .int (0 : Int32), .int (0 : Int32), .int (0 : Int32), .int (0 : Int32), .int (0 : Int32), .null, .null]))) : Mt G l z yX3_init cX3_init 1 none { frames := 1, cells := 2, slots := 12, locals := 12 } [.ref (z + 38)] u 39 none (hup (hup (hup u 39 (aI G 6 (fun _ => 0))) 40 (aI G 6 (fun _ => 0))) 38 (.inr (2, [.int (0 : Int32), .int (0 : Int32), .int (0 : Int32), .int (0 : Int32), .int (-1 : Int32), .int (0 : Int32), .int (-1 : Int32), .int (0 : Int32), .int (0 : Int32), .int (0 : Int32), .ref (z + 39), .ref (z + 40)]))) 41 := by
  refine mt_of (by decide +kernel) (Nat.le_of_ble_eq_true rfl) ?_
  intro p e s m below meth c C hr hlk hnm
  refine x_aload_n C 0 dX3_init_0 rfl rfl ?_
  refine x_objInit C kmX3_3 kObjI kObjC (Nat.le_of_ble_eq_true rfl) (Nat.le_of_ble_eq_true rfl) dX3_init_1 ?_
  refine x_aload_n C 0 dX3_init_4 rfl rfl ?_
  refine x_iconst (v := (0 : Int32)) C dX3_init_5 (by decide) ?_
  obtain ⟨u1, eu1⟩ : ∃ w : HpT, w = (hup u 38 (.inr (2, [.int (0 : Int32), .int (0 : Int32), .int (0 : Int32), .int (0 : Int32), .int (0 : Int32), .int (0 : Int32), .int (0 : Int32), .int (0 : Int32), .int (0 : Int32), .int (0 : Int32), .null, .null]))) := ⟨_, rfl⟩
  refine pfX3_9 C dX3_init_6 h38 (Nat.le_of_ble_eq_true rfl) rfl eu1.symm ?_
  refine x_aload_n C 0 dX3_init_9 rfl rfl ?_
  refine x_iconst (v := (0 : Int32)) C dX3_init_10 (by decide) ?_
  have k38_1 := (congrFun eu1 38).trans (hup_s _ _ _)
  obtain ⟨u2, eu2⟩ : ∃ w : HpT, w = (hup u1 38 (.inr (2, [.int (0 : Int32), .int (0 : Int32), .int (0 : Int32), .int (0 : Int32), .int (0 : Int32), .int (0 : Int32), .int (0 : Int32), .int (0 : Int32), .int (0 : Int32), .int (0 : Int32), .null, .null]))) := ⟨_, rfl⟩
  refine pfX3_15 C dX3_init_11 k38_1 (Nat.le_of_ble_eq_true rfl) rfl eu2.symm ?_
  refine x_aload_n C 0 dX3_init_14 rfl rfl ?_
  refine x_iconst (v := (0 : Int32)) C dX3_init_15 (by decide) ?_
  have k38_2 := (congrFun eu2 38).trans (hup_s _ _ _)
  obtain ⟨u3, eu3⟩ : ∃ w : HpT, w = (hup u2 38 (.inr (2, [.int (0 : Int32), .int (0 : Int32), .int (0 : Int32), .int (0 : Int32), .int (0 : Int32), .int (0 : Int32), .int (0 : Int32), .int (0 : Int32), .int (0 : Int32), .int (0 : Int32), .null, .null]))) := ⟨_, rfl⟩
  refine pfX3_18 C dX3_init_16 k38_2 (Nat.le_of_ble_eq_true rfl) rfl eu3.symm ?_
  refine x_aload_n C 0 dX3_init_19 rfl rfl ?_
  refine x_iconst (v := (0 : Int32)) C dX3_init_20 (by decide) ?_
  have k38_3 := (congrFun eu3 38).trans (hup_s _ _ _)
  obtain ⟨u4, eu4⟩ : ∃ w : HpT, w = (hup u3 38 (.inr (2, [.int (0 : Int32), .int (0 : Int32), .int (0 : Int32), .int (0 : Int32), .int (0 : Int32), .int (0 : Int32), .int (0 : Int32), .int (0 : Int32), .int (0 : Int32), .int (0 : Int32), .null, .null]))) := ⟨_, rfl⟩
  refine pfX3_21 C dX3_init_21 k38_3 (Nat.le_of_ble_eq_true rfl) rfl eu4.symm ?_
  refine x_aload_n C 0 dX3_init_24 rfl rfl ?_
  refine x_iconst (v := (-1 : Int32)) C dX3_init_25 (by decide) ?_
  have k38_4 := (congrFun eu4 38).trans (hup_s _ _ _)
  obtain ⟨u5, eu5⟩ : ∃ w : HpT, w = (hup u4 38 (.inr (2, [.int (0 : Int32), .int (0 : Int32), .int (0 : Int32), .int (0 : Int32), .int (-1 : Int32), .int (0 : Int32), .int (0 : Int32), .int (0 : Int32), .int (0 : Int32), .int (0 : Int32), .null, .null]))) := ⟨_, rfl⟩
  refine pfX3_24 C dX3_init_26 k38_4 (Nat.le_of_ble_eq_true rfl) rfl eu5.symm ?_
  refine x_aload_n C 0 dX3_init_29 rfl rfl ?_
  refine x_iconst (v := (0 : Int32)) C dX3_init_30 (by decide) ?_
  have k38_5 := (congrFun eu5 38).trans (hup_s _ _ _)
  obtain ⟨u6, eu6⟩ : ∃ w : HpT, w = (hup u5 38 (.inr (2, [.int (0 : Int32), .int (0 : Int32), .int (0 : Int32), .int (0 : Int32), .int (-1 : Int32), .int (0 : Int32), .int (0 : Int32), .int (0 : Int32), .int (0 : Int32), .int (0 : Int32), .null, .null]))) := ⟨_, rfl⟩
  refine pfX3_27 C dX3_init_31 k38_5 (Nat.le_of_ble_eq_true rfl) rfl eu6.symm ?_
  refine x_aload_n C 0 dX3_init_34 rfl rfl ?_
  refine x_iconst (v := (-1 : Int32)) C dX3_init_35 (by decide) ?_
  have k38_6 := (congrFun eu6 38).trans (hup_s _ _ _)
  obtain ⟨u7, eu7⟩ : ∃ w : HpT, w = (hup u6 38 (.inr (2, [.int (0 : Int32), .int (0 : Int32), .int (0 : Int32), .int (0 : Int32), .int (-1 : Int32), .int (0 : Int32), .int (-1 : Int32), .int (0 : Int32), .int (0 : Int32), .int (0 : Int32), .null, .null]))) := ⟨_, rfl⟩
  refine pfX3_30 C dX3_init_36 k38_6 (Nat.le_of_ble_eq_true rfl) rfl eu7.symm ?_
  refine x_aload_n C 0 dX3_init_39 rfl rfl ?_
  refine x_iconst (v := (0 : Int32)) C dX3_init_40 (by decide) ?_
  have k38_7 := (congrFun eu7 38).trans (hup_s _ _ _)
  obtain ⟨u8, eu8⟩ : ∃ w : HpT, w = (hup u7 38 (.inr (2, [.int (0 : Int32), .int (0 : Int32), .int (0 : Int32), .int (0 : Int32), .int (-1 : Int32), .int (0 : Int32), .int (-1 : Int32), .int (0 : Int32), .int (0 : Int32), .int (0 : Int32), .null, .null]))) := ⟨_, rfl⟩
  refine pfX3_33 C dX3_init_41 k38_7 (Nat.le_of_ble_eq_true rfl) rfl eu8.symm ?_
  refine x_aload_n C 0 dX3_init_44 rfl rfl ?_
  refine x_iconst (v := (0 : Int32)) C dX3_init_45 (by decide) ?_
  have k38_8 := (congrFun eu8 38).trans (hup_s _ _ _)
  obtain ⟨u9, eu9⟩ : ∃ w : HpT, w = (hup u8 38 (.inr (2, [.int (0 : Int32), .int (0 : Int32), .int (0 : Int32), .int (0 : Int32), .int (-1 : Int32), .int (0 : Int32), .int (-1 : Int32), .int (0 : Int32), .int (0 : Int32), .int (0 : Int32), .null, .null]))) := ⟨_, rfl⟩
  refine pfX3_36 C dX3_init_46 k38_8 (Nat.le_of_ble_eq_true rfl) rfl eu9.symm ?_
  refine x_aload_n C 0 dX3_init_49 rfl rfl ?_
  refine x_iconst (v := (0 : Int32)) C dX3_init_50 (by decide) ?_
  have k38_9 := (congrFun eu9 38).trans (hup_s _ _ _)
  obtain ⟨u10, eu10⟩ : ∃ w : HpT, w = (hup u9 38 (.inr (2, [.int (0 : Int32), .int (0 : Int32), .int (0 : Int32), .int (0 : Int32), .int (-1 : Int32), .int (0 : Int32), .int (-1 : Int32), .int (0 : Int32), .int (0 : Int32), .int (0 : Int32), .null, .null]))) := ⟨_, rfl⟩
  refine pfX3_39 C dX3_init_51 k38_9 (Nat.le_of_ble_eq_true rfl) rfl eu10.symm ?_
  refine x_aload_n C 0 dX3_init_54 rfl rfl ?_
  refine x_bipush (v := (6 : Int32)) C dX3_init_55 (by decide) ?_
  refine x_newI C ka_int 6 (by decide) (by decide) (Nat.le_of_ble_eq_true rfl) (Nat.le_of_ble_eq_true rfl) (Nat.le_of_ble_eq_true rfl) dX3_init_57 ?_
  obtain ⟨u11, eu11⟩ : ∃ w : HpT, w = (hup u10 39 (aI G 6 (fun _ => 0))) := ⟨_, rfl⟩
  refine x_norm (st2 := [.ref (z + 39), .ref (z + 38)]) (kc2 := 1) (ks2 := 6) (n2 := 40) rfl rfl rfl rfl eu11.symm ?_
  have k38_10 := (congrFun eu10 38).trans (hup_s _ _ _)
  have k38_11 := (congrFun eu11 38).trans (hup_n' (by decide) (k38_10))
  obtain ⟨u12, eu12⟩ : ∃ w : HpT, w = (hup u11 38 (.inr (2, [.int (0 : Int32), .int (0 : Int32), .int (0 : Int32), .int (0 : Int32), .int (-1 : Int32), .int (0 : Int32), .int (-1 : Int32), .int (0 : Int32), .int (0 : Int32), .int (0 : Int32), .ref (z + 39), .null]))) := ⟨_, rfl⟩
  refine pfX3_42 C dX3_init_59 hnm k38_11 (Nat.le_of_ble_eq_true rfl) rfl eu12.symm ?_
  refine x_aload_n C 0 dX3_init_62 rfl rfl ?_
  refine x_bipush (v := (6 : Int32)) C dX3_init_63 (by decide) ?_
  refine x_newI C ka_int 6 (by decide) (by decide) (Nat.le_of_ble_eq_true rfl) (Nat.le_of_ble_eq_true rfl) (Nat.le_of_ble_eq_true rfl) dX3_init_65 ?_
  obtain ⟨u13, eu13⟩ : ∃ w : HpT, w = (hup u12 40 (aI G 6 (fun _ => 0))) := ⟨_, rfl⟩
  refine x_norm (st2 := [.ref (z + 40), .ref (z + 38)]) (kc2 := 2) (ks2 := 12) (n2 := 41) rfl rfl rfl rfl eu13.symm ?_
  have k38_12 := (congrFun eu12 38).trans (hup_s _ _ _)
  have k38_13 := (congrFun eu13 38).trans (hup_n' (by decide) (k38_12))
  obtain ⟨u14, eu14⟩ : ∃ w : HpT, w = (hup u13 38 (.inr (2, [.int (0 : Int32), .int (0 : Int32), .int (0 : Int32), .int (0 : Int32), .int (-1 : Int32), .int (0 : Int32), .int (-1 : Int32), .int (0 : Int32), .int (0 : Int32), .int (0 : Int32), .ref (z + 39), .ref (z + 40)]))) := ⟨_, rfl⟩
  refine pfX3_46 C dX3_init_67 hnm k38_13 (Nat.le_of_ble_eq_true rfl) rfl eu14.symm ?_
  exact x_vret C hr hlk (Nat.le_of_ble_eq_true rfl) (Nat.le_of_ble_eq_true rfl) dX3_init_70 rfl (by rw [eu14, eu13, eu12, eu11, eu10, eu9, eu8, eu7, eu6, eu5, eu4, eu3, eu2, eu1]; simp only [hup_hup, hup_sk, ne_eq, Nat.reduceEqDiff, not_false_eq_true]) rfl
set_option maxRecDepth 20000 in
theorem p_X3_init_12 {G : GT} {l : Launch} {z : Nat} (u : HpT) (h41 : u 41 = some (.inr (2, [.int (0 : Int32), .int (0 : Int32), .int (0 : Int32), .int (0 : Int32), .int (0 : Int32), .int (0 : Int32), .int (0 : Int32), .int (0 : Int32), .int (0 : Int32), .int (0 : Int32), .null, .null]))) : Mt G l z yX3_init cX3_init 1 none { frames := 1, cells := 2, slots := 12, locals := 12 } [.ref (z + 41)] u 42 none (hup (hup (hup u 42 (aI G 6 (fun _ => 0))) 43 (aI G 6 (fun _ => 0))) 41 (.inr (2, [.int (0 : Int32), .int (0 : Int32), .int (0 : Int32), .int (0 : Int32), .int (-1 : Int32), .int (0 : Int32), .int (-1 : Int32), .int (0 : Int32), .int (0 : Int32), .int (0 : Int32), .ref (z + 42), .ref (z + 43)]))) 44 := by
  refine mt_of (by decide +kernel) (Nat.le_of_ble_eq_true rfl) ?_
  intro p e s m below meth c C hr hlk hnm
  refine x_aload_n C 0 dX3_init_0 rfl rfl ?_
  refine x_objInit C kmX3_3 kObjI kObjC (Nat.le_of_ble_eq_true rfl) (Nat.le_of_ble_eq_true rfl) dX3_init_1 ?_
  refine x_aload_n C 0 dX3_init_4 rfl rfl ?_
  refine x_iconst (v := (0 : Int32)) C dX3_init_5 (by decide) ?_
  obtain ⟨u1, eu1⟩ : ∃ w : HpT, w = (hup u 41 (.inr (2, [.int (0 : Int32), .int (0 : Int32), .int (0 : Int32), .int (0 : Int32), .int (0 : Int32), .int (0 : Int32), .int (0 : Int32), .int (0 : Int32), .int (0 : Int32), .int (0 : Int32), .null, .null]))) := ⟨_, rfl⟩
  refine pfX3_9 C dX3_init_6 h41 (Nat.le_of_ble_eq_true rfl) rfl eu1.symm ?_
  refine x_aload_n C 0 dX3_init_9 rfl rfl ?_
  refine x_iconst (v := (0 : Int32)) C dX3_init_10 (by decide) ?_
  have k41_1 := (congrFun eu1 41).trans (hup_s _ _ _)
  obtain ⟨u2, eu2⟩ : ∃ w : HpT, w = (hup u1 41 (.inr (2, [.int (0 : Int32), .int (0 : Int32), .int (0 : Int32), .int (0 : Int32), .int (0 : Int32), .int (0 : Int32), .int (0 : Int32), .int (0 : Int32), .int (0 : Int32), .int (0 : Int32), .null, .null]))) := ⟨_, rfl⟩
  refine pfX3_15 C dX3_init_11 k41_1 (Nat.le_of_ble_eq_true rfl) rfl eu2.symm ?_
  refine x_aload_n C 0 dX3_init_14 rfl rfl ?_
  refine x_iconst (v := (0 : Int32)) C dX3_init_15 (by decide) ?_
  have k41_2 := (congrFun eu2 41).trans (hup_s _ _ _)
  obtain ⟨u3, eu3⟩ : ∃ w : HpT, w = (hup u2 41 (.inr (2, [.int (0 : Int32), .int (0 : Int32), .int (0 : Int32), .int (0 : Int32), .int (0 : Int32), .int (0 : Int32), .int (0 : Int32), .int (0 : Int32), .int (0 : Int32), .int (0 : Int32), .null, .null]))) := ⟨_, rfl⟩
  refine pfX3_18 C dX3_init_16 k41_2 (Nat.le_of_ble_eq_true rfl) rfl eu3.symm ?_
  refine x_aload_n C 0 dX3_init_19 rfl rfl ?_
  refine x_iconst (v := (0 : Int32)) C dX3_init_20 (by decide) ?_
  have k41_3 := (congrFun eu3 41).trans (hup_s _ _ _)
  obtain ⟨u4, eu4⟩ : ∃ w : HpT, w = (hup u3 41 (.inr (2, [.int (0 : Int32), .int (0 : Int32), .int (0 : Int32), .int (0 : Int32), .int (0 : Int32), .int (0 : Int32), .int (0 : Int32), .int (0 : Int32), .int (0 : Int32), .int (0 : Int32), .null, .null]))) := ⟨_, rfl⟩
  refine pfX3_21 C dX3_init_21 k41_3 (Nat.le_of_ble_eq_true rfl) rfl eu4.symm ?_
  refine x_aload_n C 0 dX3_init_24 rfl rfl ?_
  refine x_iconst (v := (-1 : Int32)) C dX3_init_25 (by decide) ?_
  have k41_4 := (congrFun eu4 41).trans (hup_s _ _ _)
  obtain ⟨u5, eu5⟩ : ∃ w : HpT, w = (hup u4 41 (.inr (2, [.int (0 : Int32), .int (0 : Int32), .int (0 : Int32), .int (0 : Int32), .int (-1 : Int32), .int (0 : Int32), .int (0 : Int32), .int (0 : Int32), .int (0 : Int32), .int (0 : Int32), .null, .null]))) := ⟨_, rfl⟩
  refine pfX3_24 C dX3_init_26 k41_4 (Nat.le_of_ble_eq_true rfl) rfl eu5.symm ?_
  refine x_aload_n C 0 dX3_init_29 rfl rfl ?_
  refine x_iconst (v := (0 : Int32)) C dX3_init_30 (by decide) ?_
  have k41_5 := (congrFun eu5 41).trans (hup_s _ _ _)
  obtain ⟨u6, eu6⟩ : ∃ w : HpT, w = (hup u5 41 (.inr (2, [.int (0 : Int32), .int (0 : Int32), .int (0 : Int32), .int (0 : Int32), .int (-1 : Int32), .int (0 : Int32), .int (0 : Int32), .int (0 : Int32), .int (0 : Int32), .int (0 : Int32), .null, .null]))) := ⟨_, rfl⟩
  refine pfX3_27 C dX3_init_31 k41_5 (Nat.le_of_ble_eq_true rfl) rfl eu6.symm ?_
  refine x_aload_n C 0 dX3_init_34 rfl rfl ?_
  refine x_iconst (v := (-1 : Int32)) C dX3_init_35 (by decide) ?_
  have k41_6 := (congrFun eu6 41).trans (hup_s _ _ _)
  obtain ⟨u7, eu7⟩ : ∃ w : HpT, w = (hup u6 41 (.inr (2, [.int (0 : Int32), .int (0 : Int32), .int (0 : Int32), .int (0 : Int32), .int (-1 : Int32), .int (0 : Int32), .int (-1 : Int32), .int (0 : Int32), .int (0 : Int32), .int (0 : Int32), .null, .null]))) := ⟨_, rfl⟩
  refine pfX3_30 C dX3_init_36 k41_6 (Nat.le_of_ble_eq_true rfl) rfl eu7.symm ?_
  refine x_aload_n C 0 dX3_init_39 rfl rfl ?_
  refine x_iconst (v := (0 : Int32)) C dX3_init_40 (by decide) ?_
  have k41_7 := (congrFun eu7 41).trans (hup_s _ _ _)
  obtain ⟨u8, eu8⟩ : ∃ w : HpT, w = (hup u7 41 (.inr (2, [.int (0 : Int32), .int (0 : Int32), .int (0 : Int32), .int (0 : Int32), .int (-1 : Int32), .int (0 : Int32), .int (-1 : Int32), .int (0 : Int32), .int (0 : Int32), .int (0 : Int32), .null, .null]))) := ⟨_, rfl⟩
  refine pfX3_33 C dX3_init_41 k41_7 (Nat.le_of_ble_eq_true rfl) rfl eu8.symm ?_
  refine x_aload_n C 0 dX3_init_44 rfl rfl ?_
  refine x_iconst (v := (0 : Int32)) C dX3_init_45 (by decide) ?_
  have k41_8 := (congrFun eu8 41).trans (hup_s _ _ _)
  obtain ⟨u9, eu9⟩ : ∃ w : HpT, w = (hup u8 41 (.inr (2, [.int (0 : Int32), .int (0 : Int32), .int (0 : Int32), .int (0 : Int32), .int (-1 : Int32), .int (0 : Int32), .int (-1 : Int32), .int (0 : Int32), .int (0 : Int32), .int (0 : Int32), .null, .null]))) := ⟨_, rfl⟩
  refine pfX3_36 C dX3_init_46 k41_8 (Nat.le_of_ble_eq_true rfl) rfl eu9.symm ?_
  refine x_aload_n C 0 dX3_init_49 rfl rfl ?_
  refine x_iconst (v := (0 : Int32)) C dX3_init_50 (by decide) ?_
  have k41_9 := (congrFun eu9 41).trans (hup_s _ _ _)
  obtain ⟨u10, eu10⟩ : ∃ w : HpT, w = (hup u9 41 (.inr (2, [.int (0 : Int32), .int (0 : Int32), .int (0 : Int32), .int (0 : Int32), .int (-1 : Int32), .int (0 : Int32), .int (-1 : Int32), .int (0 : Int32), .int (0 : Int32), .int (0 : Int32), .null, .null]))) := ⟨_, rfl⟩
  refine pfX3_39 C dX3_init_51 k41_9 (Nat.le_of_ble_eq_true rfl) rfl eu10.symm ?_
  refine x_aload_n C 0 dX3_init_54 rfl rfl ?_
  refine x_bipush (v := (6 : Int32)) C dX3_init_55 (by decide) ?_
  refine x_newI C ka_int 6 (by decide) (by decide) (Nat.le_of_ble_eq_true rfl) (Nat.le_of_ble_eq_true rfl) (Nat.le_of_ble_eq_true rfl) dX3_init_57 ?_
  obtain ⟨u11, eu11⟩ : ∃ w : HpT, w = (hup u10 42 (aI G 6 (fun _ => 0))) := ⟨_, rfl⟩
  refine x_norm (st2 := [.ref (z + 42), .ref (z + 41)]) (kc2 := 1) (ks2 := 6) (n2 := 43) rfl rfl rfl rfl eu11.symm ?_
  have k41_10 := (congrFun eu10 41).trans (hup_s _ _ _)
  have k41_11 := (congrFun eu11 41).trans (hup_n' (by decide) (k41_10))
  obtain ⟨u12, eu12⟩ : ∃ w : HpT, w = (hup u11 41 (.inr (2, [.int (0 : Int32), .int (0 : Int32), .int (0 : Int32), .int (0 : Int32), .int (-1 : Int32), .int (0 : Int32), .int (-1 : Int32), .int (0 : Int32), .int (0 : Int32), .int (0 : Int32), .ref (z + 42), .null]))) := ⟨_, rfl⟩
  refine pfX3_42 C dX3_init_59 hnm k41_11 (Nat.le_of_ble_eq_true rfl) rfl eu12.symm ?_
  refine x_aload_n C 0 dX3_init_62 rfl rfl ?_
  refine x_bipush (v := (6 : Int32)) C dX3_init_63 (by decide) ?_
  refine x_newI C ka_int 6 (by decide) (by decide) (Nat.le_of_ble_eq_true rfl) (Nat.le_of_ble_eq_true rfl) (Nat.le_of_ble_eq_true rfl) dX3_init_65 ?_
  obtain ⟨u13, eu13⟩ : ∃ w : HpT, w = (hup u12 43 (aI G 6 (fun _ => 0))) := ⟨_, rfl⟩
  refine x_norm (st2 := [.ref (z + 43), .ref (z + 41)]) (kc2 := 2) (ks2 := 12) (n2 := 44) rfl rfl rfl rfl eu13.symm ?_
  have k41_12 := (congrFun eu12 41).trans (hup_s _ _ _)
  have k41_13 := (congrFun eu13 41).trans (hup_n' (by decide) (k41_12))
  obtain ⟨u14, eu14⟩ : ∃ w : HpT, w = (hup u13 41 (.inr (2, [.int (0 : Int32), .int (0 : Int32), .int (0 : Int32), .int (0 : Int32), .int (-1 : Int32), .int (0 : Int32), .int (-1 : Int32), .int (0 : Int32), .int (0 : Int32), .int (0 : Int32), .ref (z + 42), .ref (z + 43)]))) := ⟨_, rfl⟩
  refine pfX3_46 C dX3_init_67 hnm k41_13 (Nat.le_of_ble_eq_true rfl) rfl eu14.symm ?_
  exact x_vret C hr hlk (Nat.le_of_ble_eq_true rfl) (Nat.le_of_ble_eq_true rfl) dX3_init_70 rfl (by rw [eu14, eu13, eu12, eu11, eu10, eu9, eu8, eu7, eu6, eu5, eu4, eu3, eu2, eu1]; simp only [hup_hup, hup_sk, ne_eq, Nat.reduceEqDiff, not_false_eq_true]) rfl
set_option maxRecDepth 20000 in
theorem p_X3_init_13 {G : GT} {l : Launch} {z : Nat} (u : HpT) (h44 : u 44 = some (.inr (2, [.int (0 : Int32), .int (0 : Int32), .int (0 : Int32), .int (0 : Int32), .int (0 : Int32), .int (0 : Int32), .int (0 : Int32), .int (0 : Int32), .int (0 : Int32), .int (0 : Int32), .null, .null]))) : Mt G l z yX3_init cX3_init 1 none { frames := 1, cells := 2, slots := 12, locals := 12 } [.ref (z + 44)] u 45 none (hup (hup (hup u 45 (aI G 6 (fun _ => 0))) 46 (aI G 6 (fun _ => 0))) 44 (.inr (2, [.int (0 : Int32), .int (0 : Int32), .int (0 : Int32), .int (0 : Int32), .int (-1 : Int32), .int (0 : Int32), .int (-1 : Int32), .int (0 : Int32), .int (0 : Int32), .int (0 : Int32), .ref (z + 45), .ref (z + 46)]))) 47 := by
  refine mt_of (by decide +kernel) (Nat.le_of_ble_eq_true rfl) ?_
  intro p e s m below meth c C hr hlk hnm
  refine x_aload_n C 0 dX3_init_0 rfl rfl ?_
  refine x_objInit C kmX3_3 kObjI kObjC (Nat.le_of_ble_eq_true rfl) (Nat.le_of_ble_eq_true rfl) dX3_init_1 ?_
  refine x_aload_n C 0 dX3_init_4 rfl rfl ?_
  refine x_iconst (v := (0 : Int32)) C dX3_init_5 (by decide) ?_
  obtain ⟨u1, eu1⟩ : ∃ w : HpT, w = (hup u 44 (.inr (2, [.int (0 : Int32), .int (0 : Int32), .int (0 : Int32), .int (0 : Int32), .int (0 : Int32), .int (0 : Int32), .int (0 : Int32), .int (0 : Int32), .int (0 : Int32), .int (0 : Int32), .null, .null]))) := ⟨_, rfl⟩
  refine pfX3_9 C dX3_init_6 h44 (Nat.le_of_ble_eq_true rfl) rfl eu1.symm ?_
  refine x_aload_n C 0 dX3_init_9 rfl rfl ?_
  refine x_iconst (v := (0 : Int32)) C dX3_init_10 (by decide) ?_
  have k44_1 := (congrFun eu1 44).trans (hup_s _ _ _)
  obtain ⟨u2, eu2⟩ : ∃ w : HpT, w = (hup u1 44 (.inr (2, [.int (0 : Int32), .int (0 : Int32), .int (0 : Int32), .int (0 : Int32), .int (0 : Int32), .int (0 : Int32), .int (0 : Int32), .int (0 : Int32), .int (0 : Int32), .int (0 : Int32), .null, .null]))) := ⟨_, rfl⟩
  refine pfX3_15 C dX3_init_11 k44_1 (Nat.le_of_ble_eq_true rfl) rfl eu2.symm ?_
  refine x_aload_n C 0 dX3_init_14 rfl rfl ?_
  refine x_iconst (v := (0 : Int32)) C dX3_init_15 (by decide) ?_
  have k44_2 := (congrFun eu2 44).trans (hup_s _ _ _)
  obtain ⟨u3, eu3⟩ : ∃ w : HpT, w = (hup u2 44 (.inr (2, [.int (0 : Int32), .int (0 : Int32), .int (0 : Int32), .int (0 : Int32), .int (0 : Int32), .int (0 : Int32), .int (0 : Int32), .int (0 : Int32), .int (0 : Int32), .int (0 : Int32), .null, .null]))) := ⟨_, rfl⟩
  refine pfX3_18 C dX3_init_16 k44_2 (Nat.le_of_ble_eq_true rfl) rfl eu3.symm ?_
  refine x_aload_n C 0 dX3_init_19 rfl rfl ?_
  refine x_iconst (v := (0 : Int32)) C dX3_init_20 (by decide) ?_
  have k44_3 := (congrFun eu3 44).trans (hup_s _ _ _)
  obtain ⟨u4, eu4⟩ : ∃ w : HpT, w = (hup u3 44 (.inr (2, [.int (0 : Int32), .int (0 : Int32), .int (0 : Int32), .int (0 : Int32), .int (0 : Int32), .int (0 : Int32), .int (0 : Int32), .int (0 : Int32), .int (0 : Int32), .int (0 : Int32), .null, .null]))) := ⟨_, rfl⟩
  refine pfX3_21 C dX3_init_21 k44_3 (Nat.le_of_ble_eq_true rfl) rfl eu4.symm ?_
  refine x_aload_n C 0 dX3_init_24 rfl rfl ?_
  refine x_iconst (v := (-1 : Int32)) C dX3_init_25 (by decide) ?_
  have k44_4 := (congrFun eu4 44).trans (hup_s _ _ _)
  obtain ⟨u5, eu5⟩ : ∃ w : HpT, w = (hup u4 44 (.inr (2, [.int (0 : Int32), .int (0 : Int32), .int (0 : Int32), .int (0 : Int32), .int (-1 : Int32), .int (0 : Int32), .int (0 : Int32), .int (0 : Int32), .int (0 : Int32), .int (0 : Int32), .null, .null]))) := ⟨_, rfl⟩
  refine pfX3_24 C dX3_init_26 k44_4 (Nat.le_of_ble_eq_true rfl) rfl eu5.symm ?_
  refine x_aload_n C 0 dX3_init_29 rfl rfl ?_
  refine x_iconst (v := (0 : Int32)) C dX3_init_30 (by decide) ?_
  have k44_5 := (congrFun eu5 44).trans (hup_s _ _ _)
  obtain ⟨u6, eu6⟩ : ∃ w : HpT, w = (hup u5 44 (.inr (2, [.int (0 : Int32), .int (0 : Int32), .int (0 : Int32), .int (0 : Int32), .int (-1 : Int32), .int (0 : Int32), .int (0 : Int32), .int (0 : Int32), .int (0 : Int32), .int (0 : Int32), .null, .null]))) := ⟨_, rfl⟩
  refine pfX3_27 C dX3_init_31 k44_5 (Nat.le_of_ble_eq_true rfl) rfl eu6.symm ?_
  refine x_aload_n C 0 dX3_init_34 rfl rfl ?_
  refine x_iconst (v := (-1 : Int32)) C dX3_init_35 (by decide) ?_
  have k44_6 := (congrFun eu6 44).trans (hup_s _ _ _)
  obtain ⟨u7, eu7⟩ : ∃ w : HpT, w = (hup u6 44 (.inr (2, [.int (0 : Int32), .int (0 : Int32), .int (0 : Int32), .int (0 : Int32), .int (-1 : Int32), .int (0 : Int32), .int (-1 : Int32), .int (0 : Int32), .int (0 : Int32), .int (0 : Int32), .null, .null]))) := ⟨_, rfl⟩
  refine pfX3_30 C dX3_init_36 k44_6 (Nat.le_of_ble_eq_true rfl) rfl eu7.symm ?_
  refine x_aload_n C 0 dX3_init_39 rfl rfl ?_
  refine x_iconst (v := (0 : Int32)) C dX3_init_40 (by decide) ?_
  have k44_7 := (congrFun eu7 44).trans (hup_s _ _ _)
  obtain ⟨u8, eu8⟩ : ∃ w : HpT, w = (hup u7 44 (.inr (2, [.int (0 : Int32), .int (0 : Int32), .int (0 : Int32), .int (0 : Int32), .int (-1 : Int32), .int (0 : Int32), .int (-1 : Int32), .int (0 : Int32), .int (0 : Int32), .int (0 : Int32), .null, .null]))) := ⟨_, rfl⟩
  refine pfX3_33 C dX3_init_41 k44_7 (Nat.le_of_ble_eq_true rfl) rfl eu8.symm ?_
  refine x_aload_n C 0 dX3_init_44 rfl rfl ?_
  refine x_iconst (v := (0 : Int32)) C dX3_init_45 (by decide) ?_
  have k44_8 := (congrFun eu8 44).trans (hup_s _ _ _)
  obtain ⟨u9, eu9⟩ : ∃ w : HpT, w = (hup u8 44 (.inr (2, [.int (0 : Int32), .int (0 : Int32), .int (0 : Int32), .int (0 : Int32), .int (-1 : Int32), .int (0 : Int32), .int (-1 : Int32), .int (0 : Int32), .int (0 : Int32), .int (0 : Int32), .null, .null]))) := ⟨_, rfl⟩
  refine pfX3_36 C dX3_init_46 k44_8 (Nat.le_of_ble_eq_true rfl) rfl eu9.symm ?_
  refine x_aload_n C 0 dX3_init_49 rfl rfl ?_
  refine x_iconst (v := (0 : Int32)) C dX3_init_50 (by decide) ?_
  have k44_9 := (congrFun eu9 44).trans (hup_s _ _ _)
  obtain ⟨u10, eu10⟩ : ∃ w : HpT, w = (hup u9 44 (.inr (2, [.int (0 : Int32), .int (0 : Int32), .int (0 : Int32), .int (0 : Int32), .int (-1 : Int32), .int (0 : Int32), .int (-1 : Int32), .int (0 : Int32), .int (0 : Int32), .int (0 : Int32), .null, .null]))) := ⟨_, rfl⟩
  refine pfX3_39 C dX3_init_51 k44_9 (Nat.le_of_ble_eq_true rfl) rfl eu10.symm ?_
  refine x_aload_n C 0 dX3_init_54 rfl rfl ?_
  refine x_bipush (v := (6 : Int32)) C dX3_init_55 (by decide) ?_
  refine x_newI C ka_int 6 (by decide) (by decide) (Nat.le_of_ble_eq_true rfl) (Nat.le_of_ble_eq_true rfl) (Nat.le_of_ble_eq_true rfl) dX3_init_57 ?_
  obtain ⟨u11, eu11⟩ : ∃ w : HpT, w = (hup u10 45 (aI G 6 (fun _ => 0))) := ⟨_, rfl⟩
  refine x_norm (st2 := [.ref (z + 45), .ref (z + 44)]) (kc2 := 1) (ks2 := 6) (n2 := 46) rfl rfl rfl rfl eu11.symm ?_
  have k44_10 := (congrFun eu10 44).trans (hup_s _ _ _)
  have k44_11 := (congrFun eu11 44).trans (hup_n' (by decide) (k44_10))
  obtain ⟨u12, eu12⟩ : ∃ w : HpT, w = (hup u11 44 (.inr (2, [.int (0 : Int32), .int (0 : Int32), .int (0 : Int32), .int (0 : Int32), .int (-1 : Int32), .int (0 : Int32), .int (-1 : Int32), .int (0 : Int32), .int (0 : Int32), .int (0 : Int32), .ref (z + 45), .null]))) := ⟨_, rfl⟩
  refine pfX3_42 C dX3_init_59 hnm k44_11 (Nat.le_of_ble_eq_true rfl) rfl eu12.symm ?_
  refine x_aload_n C 0 dX3_init_62 rfl rfl ?_
  refine x_bipush (v := (6 : Int32)) C dX3_init_63 (by decide) ?_
  refine x_newI C ka_int 6 (by decide) (by decide) (Nat.le_of_ble_eq_true rfl) (Nat.le_of_ble_eq_true rfl) (Nat.le_of_ble_eq_true rfl) dX3_init_65 ?_
  obtain ⟨u13, eu13⟩ : ∃ w : HpT, w = (hup u12 46 (aI G 6 (fun _ => 0))) := ⟨_, rfl⟩
  refine x_norm (st2 := [.ref (z + 46), .ref (z + 44)]) (kc2 := 2) (ks2 := 12) (n2 := 47) rfl rfl rfl rfl eu13.symm ?_
  have k44_12 := (congrFun eu12 44).trans (hup_s _ _ _)
  have k44_13 := (congrFun eu13 44).trans (hup_n' (by decide) (k44_12))
  obtain ⟨u14, eu14⟩ : ∃ w : HpT, w = (hup u13 44 (.inr (2, [.int (0 : Int32), .int (0 : Int32), .int (0 : Int32), .int (0 : Int32), .int (-1 : Int32), .int (0 : Int32), .int (-1 : Int32), .int (0 : Int32), .int (0 : Int32), .int (0 : Int32), .ref (z + 45), .ref (z + 46)]))) := ⟨_, rfl⟩
  refine pfX3_46 C dX3_init_67 hnm k44_13 (Nat.le_of_ble_eq_true rfl) rfl eu14.symm ?_
  exact x_vret C hr hlk (Nat.le_of_ble_eq_true rfl) (Nat.le_of_ble_eq_true rfl) dX3_init_70 rfl (by rw [eu14, eu13, eu12, eu11, eu10, eu9, eu8, eu7, eu6, eu5, eu4, eu3, eu2, eu1]; simp only [hup_hup, hup_sk, ne_eq, Nat.reduceEqDiff, not_false_eq_true]) rfl
set_option maxRecDepth 20000 in
theorem p_X3_init_14 {G : GT} {l : Launch} {z : Nat} (u : HpT) (h47 : u 47 = some (.inr (2, [.int (0 : Int32), .int (0 : Int32), .int (0 : Int32), .int (0 : Int32), .int (0 : Int32), .int (0 : Int32), .int (0 : Int32), .int (0 : Int32), .int (0 : Int32), .int (0 : Int32), .null, .null]))) : Mt G l z yX3_init cX3_init 1 none { frames := 1, cells := 2, slots := 12, locals := 12 } [.ref (z + 47)] u 48 none (hup (hup (hup u 48 (aI G 6 (fun _ => 0))) 49 (aI G 6 (fun _ => 0))) 47 (.inr (2, [.int (0 : Int32), .int (0 : Int32), .int (0 : Int32), .int (0 : Int32), .int (-1 : Int32), .int (0 : Int32), .int (-1 : Int32), .int (0 : Int32), .int (0 : Int32), .int (0 : Int32), .ref (z + 48), .ref (z + 49)]))) 50 := by
  refine mt_of (by decide +kernel) (Nat.le_of_ble_eq_true rfl) ?_
  intro p e s m below meth c C hr hlk hnm
  refine x_aload_n C 0 dX3_init_0 rfl rfl ?_
  refine x_objInit C kmX3_3 kObjI kObjC (Nat.le_of_ble_eq_true rfl) (Nat.le_of_ble_eq_true rfl) dX3_init_1 ?_
  refine x_aload_n C 0 dX3_init_4 rfl rfl ?_
  refine x_iconst (v := (0 : Int32)) C dX3_init_5 (by decide) ?_
  obtain ⟨u1, eu1⟩ : ∃ w : HpT, w = (hup u 47 (.inr (2, [.int (0 : Int32), .int (0 : Int32), .int (0 : Int32), .int (0 : Int32), .int (0 : Int32), .int (0 : Int32), .int (0 : Int32), .int (0 : Int32), .int (0 : Int32), .int (0 : Int32), .null, .null]))) := ⟨_, rfl⟩
  refine pfX3_9 C dX3_init_6 h47 (Nat.le_of_ble_eq_true rfl) rfl eu1.symm ?_
  refine x_aload_n C 0 dX3_init_9 rfl rfl ?_
  refine x_iconst (v := (0 : Int32)) C dX3_init_10 (by decide) ?_
  have k47_1 := (congrFun eu1 47).trans (hup_s _ _ _)
  obtain ⟨u2, eu2⟩ : ∃ w : HpT, w = (hup u1 47 (.inr (2, [.int (0 : Int32), .int (0 : Int32), .int (0 : Int32), .int (0 : Int32), .int (0 : Int32), .int (0 : Int32), .int (0 : Int32), .int (0 : Int32), .int (0 : Int32), .int (0 : Int32), .null, .null]))) := ⟨_, rfl⟩
  refine pfX3_15 C dX3_init_11 k47_1 (Nat.le_of_ble_eq_true rfl) rfl eu2.symm ?_
  refine x_aload_n C 0 dX3_init_14 rfl rfl ?_
  refine x_iconst (v := (0 : Int32)) C dX3_init_15 (by decide) ?_
  have k47_2 := (congrFun eu2 47).trans (hup_s _ _ _)
  obtain ⟨u3, eu3⟩ : ∃ w : HpT, w = (hup u2 47 (.inr (2, [.int (0 : Int32), .int (0 : Int32), .int (0 : Int32), .int (0 : Int32), .int (0 : Int32), .int (0 : Int32), .int (0 : Int32), .int (0 : Int32), .int (0 : Int32), .int (0 : Int32), .null, .null]))) := ⟨_, rfl⟩
  refine pfX3_18 C dX3_init_16 k47_2 (Nat.le_of_ble_eq_true rfl) rfl eu3.symm ?_
  refine x_aload_n C 0 dX3_init_19 rfl rfl ?_
  refine x_iconst (v := (0 : Int32)) C dX3_init_20 (by decide) ?_
  have k47_3 := (congrFun eu3 47).trans (hup_s _ _ _)
  obtain ⟨u4, eu4⟩ : ∃ w : HpT, w = (hup u3 47 (.inr (2, [.int (0 : Int32), .int (0 : Int32), .int (0 : Int32), .int (0 : Int32), .int (0 : Int32), .int (0 : Int32), .int (0 : Int32), .int (0 : Int32), .int (0 : Int32), .int (0 : Int32), .null, .null]))) := ⟨_, rfl⟩
  refine pfX3_21 C dX3_init_21 k47_3 (Nat.le_of_ble_eq_true rfl) rfl eu4.symm ?_
  refine x_aload_n C 0 dX3_init_24 rfl rfl ?_
  refine x_iconst (v := (-1 : Int32)) C dX3_init_25 (by decide) ?_
  have k47_4 := (congrFun eu4 47).trans (hup_s _ _ _)
  obtain ⟨u5, eu5⟩ : ∃ w : HpT, w = (hup u4 47 (.inr (2, [.int (0 : Int32), .int (0 : Int32), .int (0 : Int32), .int (0 : Int32), .int (-1 : Int32), .int (0 : Int32), .int (0 : Int32), .int (0 : Int32), .int (0 : Int32), .int (0 : Int32), .null, .null]))) := ⟨_, rfl⟩
  refine pfX3_24 C dX3_init_26 k47_4 (Nat.le_of_ble_eq_true rfl) rfl eu5.symm ?_
  refine x_aload_n C 0 dX3_init_29 rfl rfl ?_
  refine x_iconst (v := (0 : Int32)) C dX3_init_30 (by decide) ?_
  have k47_5 := (congrFun eu5 47).trans (hup_s _ _ _)
  obtain ⟨u6, eu6⟩ : ∃ w : HpT, w = (hup u5 47 (.inr (2, [.int (0 : Int32), .int (0 : Int32), .int (0 : Int32), .int (0 : Int32), .int (-1 : Int32), .int (0 : Int32), .int (0 : Int32), .int (0 : Int32), .int (0 : Int32), .int (0 : Int32), .null, .null]))) := ⟨_, rfl⟩
  refine pfX3_27 C dX3_init_31 k47_5 (Nat.le_of_ble_eq_true rfl) rfl eu6.symm ?_
  refine x_aload_n C 0 dX3_init_34 rfl rfl ?_
  refine x_iconst (v := (-1 : Int32)) C dX3_init_35 (by decide) ?_
  have k47_6 := (congrFun eu6 47).trans (hup_s _ _ _)
  obtain ⟨u7, eu7⟩ : ∃ w : HpT, w = (hup u6 47 (.inr (2, [.int (0 : Int32), .int (0 : Int32), .int (0 : Int32), .int (0 : Int32), .int (-1 : Int32), .int (0 : Int32), .int (-1 : Int32), .int (0 : Int32), .int (0 : Int32), .int (0 : Int32), .null, .null]))) := ⟨_, rfl⟩
  refine pfX3_30 C dX3_init_36 k47_6 (Nat.le_of_ble_eq_true rfl) rfl eu7.symm ?_
  refine x_aload_n C 0 dX3_init_39 rfl rfl ?_
  refine x_iconst (v := (0 : Int32)) C dX3_init_40 (by decide) ?_
  have k47_7 := (congrFun eu7 47).trans (hup_s _ _ _)
  obtain ⟨u8, eu8⟩ : ∃ w : HpT, w = (hup u7 47 (.inr (2, [.int (0 : Int32), .int (0 : Int32), .int (0 : Int32), .int (0 : Int32), .int (-1 : Int32), .int (0 : Int32), .int (-1 : Int32), .int (0 : Int32), .int (0 : Int32), .int (0 : Int32), .null, .null]))) := ⟨_, rfl⟩
  refine pfX3_33 C dX3_init_41 k47_7 (Nat.le_of_ble_eq_true rfl) rfl eu8.symm ?_
  refine x_aload_n C 0 dX3_init_44 rfl rfl ?_
  refine x_iconst (v := (0 : Int32)) C dX3_init_45 (by decide) ?_
  have k47_8 := (congrFun eu8 47).trans (hup_s _ _ _)
  obtain ⟨u9, eu9⟩ : ∃ w : HpT, w = (hup u8 47 (.inr (2, [.int (0 : Int32), .int (0 : Int32), .int (0 : Int32), .int (0 : Int32), .int (-1 : Int32), .int (0 : Int32), .int (-1 : Int32), .int (0 : Int32), .int (0 : Int32), .int (0 : Int32), .null, .null]))) := ⟨_, rfl⟩
  refine pfX3_36 C dX3_init_46 k47_8 (Nat.le_of_ble_eq_true rfl) rfl eu9.symm ?_
  refine x_aload_n C 0 dX3_init_49 rfl rfl ?_
  refine x_iconst (v := (0 : Int32)) C dX3_init_50 (by decide) ?_
  have k47_9 := (congrFun eu9 47).trans (hup_s _ _ _)
  obtain ⟨u10, eu10⟩ : ∃ w : HpT, w = (hup u9 47 (.inr (2, [.int (0 : Int32), .int (0 : Int32), .int (0 : Int32), .int (0 : Int32), .int (-1 : Int32), .int (0 : Int32), .int (-1 : Int32), .int (0 : Int32), .int (0 : Int32), .int (0 : Int32), .null, .null]))) := ⟨_, rfl⟩
  refine pfX3_39 C dX3_init_51 k47_9 (Nat.le_of_ble_eq_true rfl) rfl eu10.symm ?_
  refine x_aload_n C 0 dX3_init_54 rfl rfl ?_
  refine x_bipush (v := (6 : Int32)) C dX3_init_55 (by decide) ?_
  refine x_newI C ka_int 6 (by decide) (by decide) (Nat.le_of_ble_eq_true rfl) (Nat.le_of_ble_eq_true rfl) (Nat.le_of_ble_eq_true rfl) dX3_init_57 ?_
  obtain ⟨u11, eu11⟩ : ∃ w : HpT, w = (hup u10 48 (aI G 6 (fun _ => 0))) := ⟨_, rfl⟩
  refine x_norm (st2 := [.ref (z + 48), .ref (z + 47)]) (kc2 := 1) (ks2 := 6) (n2 := 49) rfl rfl rfl rfl eu11.symm ?_
  have k47_10 := (congrFun eu10 47).trans (hup_s _ _ _)
  have k47_11 := (congrFun eu11 47).trans (hup_n' (by decide) (k47_10))
  obtain ⟨u12, eu12⟩ : ∃ w : HpT, w = (hup u11 47 (.inr (2, [.int (0 : Int32), .int (0 : Int32), .int (0 : Int32), .int (0 : Int32), .int (-1 : Int32), .int (0 : Int32), .int (-1 : Int32), .int (0 : Int32), .int (0 : Int32), .int (0 : Int32), .ref (z + 48), .null]))) := ⟨_, rfl⟩
  refine pfX3_42 C dX3_init_59 hnm k47_11 (Nat.le_of_ble_eq_true rfl) rfl eu12.symm ?_
  refine x_aload_n C 0 dX3_init_62 rfl rfl ?_
  refine x_bipush (v := (6 : Int32)) C dX3_init_63 (by decide) ?_
  refine x_newI C ka_int 6 (by decide) (by decide) (Nat.le_of_ble_eq_true rfl) (Nat.le_of_ble_eq_true rfl) (Nat.le_of_ble_eq_true rfl) dX3_init_65 ?_
  obtain ⟨u13, eu13⟩ : ∃ w : HpT, w = (hup u12 49 (aI G 6 (fun _ => 0))) := ⟨_, rfl⟩
  refine x_norm (st2 := [.ref (z + 49), .ref (z + 47)]) (kc2 := 2) (ks2 := 12) (n2 := 50) rfl rfl rfl rfl eu13.symm ?_
  have k47_12 := (congrFun eu12 47).trans (hup_s _ _ _)
  have k47_13 := (congrFun eu13 47).trans (hup_n' (by decide) (k47_12))
  obtain ⟨u14, eu14⟩ : ∃ w : HpT, w = (hup u13 47 (.inr (2, [.int (0 : Int32), .int (0 : Int32), .int (0 : Int32), .int (0 : Int32), .int (-1 : Int32), .int (0 : Int32), .int (-1 : Int32), .int (0 : Int32), .int (0 : Int32), .int (0 : Int32), .ref (z + 48), .ref (z + 49)]))) := ⟨_, rfl⟩
  refine pfX3_46 C dX3_init_67 hnm k47_13 (Nat.le_of_ble_eq_true rfl) rfl eu14.symm ?_
  exact x_vret C hr hlk (Nat.le_of_ble_eq_true rfl) (Nat.le_of_ble_eq_true rfl) dX3_init_70 rfl (by rw [eu14, eu13, eu12, eu11, eu10, eu9, eu8, eu7, eu6, eu5, eu4, eu3, eu2, eu1]; simp only [hup_hup, hup_sk, ne_eq, Nat.reduceEqDiff, not_false_eq_true]) rfl
set_option maxRecDepth 20000 in
theorem p_X3_init_15 {G : GT} {l : Launch} {z : Nat} (u : HpT) (h50 : u 50 = some (.inr (2, [.int (0 : Int32), .int (0 : Int32), .int (0 : Int32), .int (0 : Int32), .int (0 : Int32), .int (0 : Int32), .int (0 : Int32), .int (0 : Int32), .int (0 : Int32), .int (0 : Int32), .null, .null]))) : Mt G l z yX3_init cX3_init 1 none { frames := 1, cells := 2, slots := 12, locals := 12 } [.ref (z + 50)] u 51 none (hup (hup (hup u 51 (aI G 6 (fun _ => 0))) 52 (aI G 6 (fun _ => 0))) 50 (.inr (2, [.int (0 : Int32), .int (0 : Int32), .int (0 : Int32), .int (0 : Int32), .int (-1 : Int32), .int (0 : Int32), .int (-1 : Int32), .int (0 : Int32), .int (0 : Int32), .int (0 : Int32), .ref (z + 51), .ref (z + 52)]))) 53 := by
  refine mt_of (by decide +kernel) (Nat.le_of_ble_eq_true rfl) ?_
  intro p e s m below meth c C hr hlk hnm
  refine x_aload_n C 0 dX3_init_0 rfl rfl ?_
  refine x_objInit C kmX3_3 kObjI kObjC (Nat.le_of_ble_eq_true rfl) (Nat.le_of_ble_eq_true rfl) dX3_init_1 ?_
  refine x_aload_n C 0 dX3_init_4 rfl rfl ?_
  refine x_iconst (v := (0 : Int32)) C dX3_init_5 (by decide) ?_
  obtain ⟨u1, eu1⟩ : ∃ w : HpT, w = (hup u 50 (.inr (2, [.int (0 : Int32), .int (0 : Int32), .int (0 : Int32), .int (0 : Int32), .int (0 : Int32), .int (0 : Int32), .int (0 : Int32), .int (0 : Int32), .int (0 : Int32), .int (0 : Int32), .null, .null]))) := ⟨_, rfl⟩
  refine pfX3_9 C dX3_init_6 h50 (Nat.le_of_ble_eq_true rfl) rfl eu1.symm ?_
  refine x_aload_n C 0 dX3_init_9 rfl rfl ?_
  refine x_iconst (v := (0 : Int32)) C dX3_init_10 (by decide) ?_
  have k50_1 := (congrFun eu1 50).trans (hup_s _ _ _)
  obtain ⟨u2, eu2⟩ : ∃ w : HpT, w = (hup u1 50 (.inr (2, [.int (0 : Int32), .int (0 : Int32), .int (0 : Int32), .int (0 : Int32), .int (0 : Int32), .int (0 : Int32), .int (0 : Int32), .int (0 : Int32), .int (0 : Int32), .int (0 : Int32), .null, .null]))) := ⟨_, rfl⟩
  refine pfX3_15 C dX3_init_11 k50_1 (Nat.le_of_ble_eq_true rfl) rfl eu2.symm ?_
  refine x_aload_n C 0 dX3_init_14 rfl rfl ?_
  refine x_iconst (v := (0 : Int32)) C dX3_init_15 (by decide) ?_
  have k50_2 := (congrFun eu2 50).trans (hup_s _ _ _)
  obtain ⟨u3, eu3⟩ : ∃ w : HpT, w = (hup u2 50 (.inr (2, [.int (0 : Int32), .int (0 : Int32), .int (0 : Int32), .int (0 : Int32), .int (0 : Int32), .int (0 : Int32), .int (0 : Int32), .int (0 : Int32), .int (0 : Int32), .int (0 : Int32), .null, .null]))) := ⟨_, rfl⟩
  refine pfX3_18 C dX3_init_16 k50_2 (Nat.le_of_ble_eq_true rfl) rfl eu3.symm ?_
  refine x_aload_n C 0 dX3_init_19 rfl rfl ?_
  refine x_iconst (v := (0 : Int32)) C dX3_init_20 (by decide) ?_
  have k50_3 := (congrFun eu3 50).trans (hup_s _ _ _)
  obtain ⟨u4, eu4⟩ : ∃ w : HpT, w = (hup u3 50 (.inr (2, [.int (0 : Int32), .int (0 : Int32), .int (0 : Int32), .int (0 : Int32), .int (0 : Int32), .int (0 : Int32), .int (0 : Int32), .int (0 : Int32), .int (0 : Int32), .int (0 : Int32), .null, .null]))) := ⟨_, rfl⟩
  refine pfX3_21 C dX3_init_21 k50_3 (Nat.le_of_ble_eq_true rfl) rfl eu4.symm ?_
  refine x_aload_n C 0 dX3_init_24 rfl rfl ?_
  refine x_iconst (v := (-1 : Int32)) C dX3_init_25 (by decide) ?_
  have k50_4 := (congrFun eu4 50).trans (hup_s _ _ _)
  obtain ⟨u5, eu5⟩ : ∃ w : HpT, w = (hup u4 50 (.inr (2, [.int (0 : Int32), .int (0 : Int32), .int (0 : Int32), .int (0 : Int32), .int (-1 : Int32), .int (0 : Int32), .int (0 : Int32), .int (0 : Int32), .int (0 : Int32), .int (0 : Int32), .null, .null]))) := ⟨_, rfl⟩
  refine pfX3_24 C dX3_init_26 k50_4 (Nat.le_of_ble_eq_true rfl) rfl eu5.symm ?_
  refine x_aload_n C 0 dX3_init_29 rfl rfl ?_
  refine x_iconst (v := (0 : Int32)) C dX3_init_30 (by decide) ?_
  have k50_5 := (congrFun eu5 50).trans (hup_s _ _ _)
  obtain ⟨u6, eu6⟩ : ∃ w : HpT, w = (hup u5 50 (.inr (2, [.int (0 : Int32), .int (0 : Int32), .int (0 : Int32), .int (0 : Int32), .int (-1 : Int32), .int (0 : Int32), .int (0 : Int32), .int (0 : Int32), .int (0 : Int32), .int (0 : Int32), .null, .null]))) := ⟨_, rfl⟩
  refine pfX3_27 C dX3_init_31 k50_5 (Nat.le_of_ble_eq_true rfl) rfl eu6.symm ?_
  refine x_aload_n C 0 dX3_init_34 rfl rfl ?_
  refine x_iconst (v := (-1 : Int32)) C dX3_init_35 (by decide) ?_
  have k50_6 := (congrFun eu6 50).trans (hup_s _ _ _)
  obtain ⟨u7, eu7⟩ : ∃ w : HpT, w = (hup u6 50 (.inr (2, [.int (0 : Int32), .int (0 : Int32), .int (0 : Int32), .int (0 : Int32), .int (-1 : Int32), .int (0 : Int32), .int (-1 : Int32), .int (0 : Int32), .int (0 : Int32), .int (0 : Int32), .null, .null]))) := ⟨_, rfl⟩
  refine pfX3_30 C dX3_init_36 k50_6 (Nat.le_of_ble_eq_true rfl) rfl eu7.symm ?_
  refine x_aload_n C 0 dX3_init_39 rfl rfl ?_
  refine x_iconst (v := (0 : Int32)) C dX3_init_40 (by decide) ?_
  have k50_7 := (congrFun eu7 50).trans (hup_s _ _ _)
  obtain ⟨u8, eu8⟩ : ∃ w : HpT, w = (hup u7 50 (.inr (2, [.int (0 : Int32), .int (0 : Int32), .int (0 : Int32), .int (0 : Int32), .int (-1 : Int32), .int (0 : Int32), .int (-1 : Int32), .int (0 : Int32), .int (0 : Int32), .int (0 : Int32), .null, .null]))) := ⟨_, rfl⟩
  refine pfX3_33 C dX3_init_41 k50_7 (Nat.le_of_ble_eq_true rfl) rfl eu8.symm ?_
  refine x_aload_n C 0 dX3_init_44 rfl rfl ?_
  refine x_iconst (v := (0 : Int32)) C dX3_init_45 (by decide) ?_
  have k50_8 := (congrFun eu8 50).trans (hup_s _ _ _)
  obtain ⟨u9, eu9⟩ : ∃ w : HpT, w = (hup u8 50 (.inr (2, [.int (0 : Int32), .int (0 : Int32), .int (0 : Int32), .int (0 : Int32), .int (-1 : Int32), .int (0 : Int32), .int (-1 : Int32), .int (0 : Int32), .int (0 : Int32), .int (0 : Int32), .null, .null]))) := ⟨_, rfl⟩
  refine pfX3_36 C dX3_init_46 k50_8 (Nat.le_of_ble_eq_true rfl) rfl eu9.symm ?_
  refine x_aload_n C 0 dX3_init_49 rfl rfl ?_
  refine x_iconst (v := (0 : Int32)) C dX3_init_50 (by decide) ?_
  have k50_9 := (congrFun eu9 50).trans (hup_s _ _ _)
  obtain ⟨u10, eu10⟩ : ∃ w : HpT, w = (hup u9 50 (.inr (2, [.int (0 : Int32), .int (0 : Int32), .int (0 : Int32), .int (0 : Int32), .int (-1 : Int32), .int (0 : Int32), .int (-1 : Int32), .int (0 : Int32), .int (0 : Int32), .int (0 : Int32), .null, .null]))) := ⟨_, rfl⟩
  refine pfX3_39 C dX3_init_51 k50_9 (Nat.le_of_ble_eq_true rfl) rfl eu10.symm ?_
  refine x_aload_n C 0 dX3_init_54 rfl rfl ?_
  refine x_bipush (v := (6 : Int32)) C dX3_init_55 (by decide) ?_
  refine x_newI C ka_int 6 (by decide) (by decide) (Nat.le_of_ble_eq_true rfl) (Nat.le_of_ble_eq_true rfl) (Nat.le_of_ble_eq_true rfl) dX3_init_57 ?_
  obtain ⟨u11, eu11⟩ : ∃ w : HpT, w = (hup u10 51 (aI G 6 (fun _ => 0))) := ⟨_, rfl⟩
  refine x_norm (st2 := [.ref (z + 51), .ref (z + 50)]) (kc2 := 1) (ks2 := 6) (n2 := 52) rfl rfl rfl rfl eu11.symm ?_
  have k50_10 := (congrFun eu10 50).trans (hup_s _ _ _)
  have k50_11 := (congrFun eu11 50).trans (hup_n' (by decide) (k50_10))
  obtain ⟨u12, eu12⟩ : ∃ w : HpT, w = (hup u11 50 (.inr (2, [.int (0 : Int32), .int (0 : Int32), .int (0 : Int32), .int (0 : Int32), .int (-1 : Int32), .int (0 : Int32), .int (-1 : Int32), .int (0 : Int32), .int (0 : Int32), .int (0 : Int32), .ref (z + 51), .null]))) := ⟨_, rfl⟩
  refine pfX3_42 C dX3_init_59 hnm k50_11 (Nat.le_of_ble_eq_true rfl) rfl eu12.symm ?_
  refine x_aload_n C 0 dX3_init_62 rfl rfl ?_
  refine x_bipush (v := (6 : Int32)) C dX3_init_63 (by decide) ?_
  refine x_newI C ka_int 6 (by decide) (by decide) (Nat.le_of_ble_eq_true rfl) (Nat.le_of_ble_eq_true rfl) (Nat.le_of_ble_eq_true rfl) dX3_init_65 ?_
  obtain ⟨u13, eu13⟩ : ∃ w : HpT, w = (hup u12 52 (aI G 6 (fun _ => 0))) := ⟨_, rfl⟩
  refine x_norm (st2 := [.ref (z + 52), .ref (z + 50)]) (kc2 := 2) (ks2 := 12) (n2 := 53) rfl rfl rfl rfl eu13.symm ?_
  have k50_12 := (congrFun eu12 50).trans (hup_s _ _ _)
  have k50_13 := (congrFun eu13 50).trans (hup_n' (by decide) (k50_12))
  obtain ⟨u14, eu14⟩ : ∃ w : HpT, w = (hup u13 50 (.inr (2, [.int (0 : Int32), .int (0 : Int32), .int (0 : Int32), .int (0 : Int32), .int (-1 : Int32), .int (0 : Int32), .int (-1 : Int32), .int (0 : Int32), .int (0 : Int32), .int (0 : Int32), .ref (z + 51), .ref (z + 52)]))) := ⟨_, rfl⟩
  refine pfX3_46 C dX3_init_67 hnm k50_13 (Nat.le_of_ble_eq_true rfl) rfl eu14.symm ?_
  exact x_vret C hr hlk (Nat.le_of_ble_eq_true rfl) (Nat.le_of_ble_eq_true rfl) dX3_init_70 rfl (by rw [eu14, eu13, eu12, eu11, eu10, eu9, eu8, eu7, eu6, eu5, eu4, eu3, eu2, eu1]; simp only [hup_hup, hup_sk, ne_eq, Nat.reduceEqDiff, not_false_eq_true]) rfl
set_option maxRecDepth 20000 in
theorem p_X3_init_16 {G : GT} {l : Launch} {z : Nat} (u : HpT) (h53 : u 53 = some (.inr (2, [.int (0 : Int32), .int (0 : Int32), .int (0 : Int32), .int (0 : Int32), .int (0 : Int32), .int (0 : Int32), .int (0 : Int32), .int (0 : Int32), .int (0 : Int32), .int (0 : Int32), .null, .null]))) : Mt G l z yX3_init cX3_init 1 none { frames := 1, cells := 2, slots := 12, locals := 12 } [.ref (z + 53)] u 54 none (hup (hup (hup u 54 (aI G 6 (fun _ => 0))) 55 (aI G 6 (fun _ => 0))) 53 (.inr (2, [.int (0 : Int32), .int (0 : Int32), .int (0 : Int32), .int (0 : Int32), .int (-1 : Int32), .int (0 : Int32), .int (-1 : Int32), .int (0 : Int32), .int (0 : Int32), .int (0 : Int32), .ref (z + 54), .ref (z + 55)]))) 56 := by
  refine mt_of (by decide +kernel) (Nat.le_of_ble_eq_true rfl) ?_
  intro p e s m below meth c C hr hlk hnm
  refine x_aload_n C 0 dX3_init_0 rfl rfl ?_
  refine x_objInit C kmX3_3 kObjI kObjC (Nat.le_of_ble_eq_true rfl) (Nat.le_of_ble_eq_true rfl) dX3_init_1 ?_
  refine x_aload_n C 0 dX3_init_4 rfl rfl ?_
  refine x_iconst (v := (0 : Int32)) C dX3_init_5 (by decide) ?_
  obtain ⟨u1, eu1⟩ : ∃ w : HpT, w = (hup u 53 (.inr (2, [.int (0 : Int32), .int (0 : Int32), .int (0 : Int32), .int (0 : Int32), .int (0 : Int32), .int (0 : Int32), .int (0 : Int32), .int (0 : Int32), .int (0 : Int32), .int (0 : Int32), .null, .null]))) := ⟨_, rfl⟩
  refine pfX3_9 C dX3_init_6 h53 (Nat.le_of_ble_eq_true rfl) rfl eu1.symm ?_
  refine x_aload_n C 0 dX3_init_9 rfl rfl ?_
  refine x_iconst (v := (0 : Int32)) C dX3_init_10 (by decide) ?_
  have k53_1 := (congrFun eu1 53).trans (hup_s _ _ _)
  obtain ⟨u2, eu2⟩ : ∃ w : HpT, w = (hup u1 53 (.inr (2, [.int (0 : Int32), .int (0 : Int32), .int (0 : Int32), .int (0 : Int32), .int (0 : Int32), .int (0 : Int32), .int (0 : Int32), .int (0 : Int32), .int (0 : Int32), .int (0 : Int32), .null, .null]))) := ⟨_, rfl⟩
  refine pfX3_15 C dX3_init_11 k53_1 (Nat.le_of_ble_eq_true rfl) rfl eu2.symm ?_
  refine x_aload_n C 0 dX3_init_14 rfl rfl ?_
  refine x_iconst (v := (0 : Int32)) C dX3_init_15 (by decide) ?_
  have k53_2 := (congrFun eu2 53).trans (hup_s _ _ _)
  obtain ⟨u3, eu3⟩ : ∃ w : HpT, w = (hup u2 53 (.inr (2, [.int (0 : Int32), .int (0 : Int32), .int (0 : Int32), .int (0 : Int32), .int (0 : Int32), .int (0 : Int32), .int (0 : Int32), .int (0 : Int32), .int (0 : Int32), .int (0 : Int32), .null, .null]))) := ⟨_, rfl⟩
  refine pfX3_18 C dX3_init_16 k53_2 (Nat.le_of_ble_eq_true rfl) rfl eu3.symm ?_
  refine x_aload_n C 0 dX3_init_19 rfl rfl ?_
  refine x_iconst (v := (0 : Int32)) C dX3_init_20 (by decide) ?_
  have k53_3 := (congrFun eu3 53).trans (hup_s _ _ _)
  obtain ⟨u4, eu4⟩ : ∃ w : HpT, w = (hup u3 53 (.inr (2, [.int (0 : Int32), .int (0 : Int32), .int (0 : Int32), .int (0 : Int32), .int (0 : Int32), .int (0 : Int32), .int (0 : Int32), .int (0 : Int32), .int (0 : Int32), .int (0 : Int32), .null, .null]))) := ⟨_, rfl⟩
  refine pfX3_21 C dX3_init_21 k53_3 (Nat.le_of_ble_eq_true rfl) rfl eu4.symm ?_
  refine x_aload_n C 0 dX3_init_24 rfl rfl ?_
  refine x_iconst (v := (-1 : Int32)) C dX3_init_25 (by decide) ?_
  have k53_4 := (congrFun eu4 53).trans (hup_s _ _ _)
  obtain ⟨u5, eu5⟩ : ∃ w : HpT, w = (hup u4 53 (.inr (2, [.int (0 : Int32), .int (0 : Int32), .int (0 : Int32), .int (0 : Int32), .int (-1 : Int32), .int (0 : Int32), .int (0 : Int32), .int (0 : Int32), .int (0 : Int32), .int (0 : Int32), .null, .null]))) := ⟨_, rfl⟩
  refine pfX3_24 C dX3_init_26 k53_4 (Nat.le_of_ble_eq_true rfl) rfl eu5.symm ?_
  refine x_aload_n C 0 dX3_init_29 rfl rfl ?_
  refine x_iconst (v := (0 : Int32)) C dX3_init_30 (by decide) ?_
  have k53_5 := (congrFun eu5 53).trans (hup_s _ _ _)
  obtain ⟨u6, eu6⟩ : ∃ w : HpT, w = (hup u5 53 (.inr (2, [.int (0 : Int32), .int (0 : Int32), .int (0 : Int32), .int (0 : Int32), .int (-1 : Int32), .int (0 : Int32), .int (0 : Int32), .int (0 : Int32), .int (0 : Int32), .int (0 : Int32), .null, .null]))) := ⟨_, rfl⟩
  refine pfX3_27 C dX3_init_31 k53_5 (Nat.le_of_ble_eq_true rfl) rfl eu6.symm ?_
  refine x_aload_n C 0 dX3_init_34 rfl rfl ?_
  refine x_iconst (v := (-1 : Int32)) C dX3_init_35 (by decide) ?_
  have k53_6 := (congrFun eu6 53).trans (hup_s _ _ _)
  obtain ⟨u7, eu7⟩ : ∃ w : HpT, w = (hup u6 53 (.inr (2, [.int (0 : Int32), .int (0 : Int32), .int (0 : Int32), .int (0 : Int32), .int (-1 : Int32), .int (0 : Int32), .int (-1 : Int32), .int (0 : Int32), .int (0 : Int32), .int (0 : Int32), .null, .null]))) := ⟨_, rfl⟩
  refine pfX3_30 C dX3_init_36 k53_6 (Nat.le_of_ble_eq_true rfl) rfl eu7.symm ?_
  refine x_aload_n C 0 dX3_init_39 rfl rfl ?_
  refine x_iconst (v := (0 : Int32)) C dX3_init_40 (by decide) ?_
  have k53_7 := (congrFun eu7 53).trans (hup_s _ _ _)
  obtain ⟨u8, eu8⟩ : ∃ w : HpT, w = (hup u7 53 (.inr (2, [.int (0 : Int32), .int (0 : Int32), .int (0 : Int32), .int (0 : Int32), .int (-1 : Int32), .int (0 : Int32), .int (-1 : Int32), .int (0 : Int32), .int (0 : Int32), .int (0 : Int32), .null, .null]))) := ⟨_, rfl⟩
  refine pfX3_33 C dX3_init_41 k53_7 (Nat.le_of_ble_eq_true rfl) rfl eu8.symm ?_
  refine x_aload_n C 0 dX3_init_44 rfl rfl ?_
  refine x_iconst (v := (0 : Int32)) C dX3_init_45 (by decide) ?_
  have k53_8 := (congrFun eu8 53).trans (hup_s _ _ _)
  obtain ⟨u9, eu9⟩ : ∃ w : HpT, w = (hup u8 53 (.inr (2, [.int (0 : Int32), .int (0 : Int32), .int (0 : Int32), .int (0 : Int32), .int (-1 : Int32), .int (0 : Int32), .int (-1 : Int32), .int (0 : Int32), .int (0 : Int32), .int (0 : Int32), .null, .null]))) := ⟨_, rfl⟩
  refine pfX3_36 C dX3_init_46 k53_8 (Nat.le_of_ble_eq_true rfl) rfl eu9.symm ?_
  refine x_aload_n C 0 dX3_init_49 rfl rfl ?_
  refine x_iconst (v := (0 : Int32)) C dX3_init_50 (by decide) ?_
  have k53_9 := (congrFun eu9 53).trans (hup_s _ _ _)
  obtain ⟨u10, eu10⟩ : ∃ w : HpT, w = (hup u9 53 (.inr (2, [.int (0 : Int32), .int (0 : Int32), .int (0 : Int32), .int (0 : Int32), .int (-1 : Int32), .int (0 : Int32), .int (-1 : Int32), .int (0 : Int32), .int (0 : Int32), .int (0 : Int32), .null, .null]))) := ⟨_, rfl⟩
  refine pfX3_39 C dX3_init_51 k53_9 (Nat.le_of_ble_eq_true rfl) rfl eu10.symm ?_
  refine x_aload_n C 0 dX3_init_54 rfl rfl ?_
  refine x_bipush (v := (6 : Int32)) C dX3_init_55 (by decide) ?_
  refine x_newI C ka_int 6 (by decide) (by decide) (Nat.le_of_ble_eq_true rfl) (Nat.le_of_ble_eq_true rfl) (Nat.le_of_ble_eq_true rfl) dX3_init_57 ?_
  obtain ⟨u11, eu11⟩ : ∃ w : HpT, w = (hup u10 54 (aI G 6 (fun _ => 0))) := ⟨_, rfl⟩
  refine x_norm (st2 := [.ref (z + 54), .ref (z + 53)]) (kc2 := 1) (ks2 := 6) (n2 := 55) rfl rfl rfl rfl eu11.symm ?_
  have k53_10 := (congrFun eu10 53).trans (hup_s _ _ _)
  have k53_11 := (congrFun eu11 53).trans (hup_n' (by decide) (k53_10))
  obtain ⟨u12, eu12⟩ : ∃ w : HpT, w = (hup u11 53 (.inr (2, [.int (0 : Int32), .int (0 : Int32), .int (0 : Int32), .int (0 : Int32), .int (-1 : Int32), .int (0 : Int32), .int (-1 : Int32), .int (0 : Int32), .int (0 : Int32), .int (0 : Int32), .ref (z + 54), .null]))) := ⟨_, rfl⟩
  refine pfX3_42 C dX3_init_59 hnm k53_11 (Nat.le_of_ble_eq_true rfl) rfl eu12.symm ?_
  refine x_aload_n C 0 dX3_init_62 rfl rfl ?_
  refine x_bipush (v := (6 : Int32)) C dX3_init_63 (by decide) ?_
  refine x_newI C ka_int 6 (by decide) (by decide) (Nat.le_of_ble_eq_true rfl) (Nat.le_of_ble_eq_true rfl) (Nat.le_of_ble_eq_true rfl) dX3_init_65 ?_
  obtain ⟨u13, eu13⟩ : ∃ w : HpT, w = (hup u12 55 (aI G 6 (fun _ => 0))) := ⟨_, rfl⟩
  refine x_norm (st2 := [.ref (z + 55), .ref (z + 53)]) (kc2 := 2) (ks2 := 12) (n2 := 56) rfl rfl rfl rfl eu13.symm ?_
  have k53_12 := (congrFun eu12 53).trans (hup_s _ _ _)
  have k53_13 := (congrFun eu13 53).trans (hup_n' (by decide) (k53_12))
  obtain ⟨u14, eu14⟩ : ∃ w : HpT, w = (hup u13 53 (.inr (2, [.int (0 : Int32), .int (0 : Int32), .int (0 : Int32), .int (0 : Int32), .int (-1 : Int32), .int (0 : Int32), .int (-1 : Int32), .int (0 : Int32), .int (0 : Int32), .int (0 : Int32), .ref (z + 54), .ref (z + 55)]))) := ⟨_, rfl⟩
  refine pfX3_46 C dX3_init_67 hnm k53_13 (Nat.le_of_ble_eq_true rfl) rfl eu14.symm ?_
  exact x_vret C hr hlk (Nat.le_of_ble_eq_true rfl) (Nat.le_of_ble_eq_true rfl) dX3_init_70 rfl (by rw [eu14, eu13, eu12, eu11, eu10, eu9, eu8, eu7, eu6, eu5, eu4, eu3, eu2, eu1]; simp only [hup_hup, hup_sk, ne_eq, Nat.reduceEqDiff, not_false_eq_true]) rfl
