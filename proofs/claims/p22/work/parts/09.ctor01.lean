set_option maxRecDepth 20000 in
theorem p_X3_init_17 {G : GT} {l : Launch} {z : Nat} (u : HpT) (h56 : u 56 = some (.inr (2, [.int (0 : Int32), .int (0 : Int32), .int (0 : Int32), .int (0 : Int32), .int (0 : Int32), .int (0 : Int32), .int (0 : Int32), .int (0 : Int32), .int (0 : Int32), .int (0 : Int32), .null, .null]))) : Mt G l z yX3_init cX3_init 1 none { frames := 1, cells := 2, slots := 12, locals := 12 } [.ref (z + 56)] u 57 none (hup (hup (hup u 57 (aI G 6 (fun _ => 0))) 58 (aI G 6 (fun _ => 0))) 56 (.inr (2, [.int (0 : Int32), .int (0 : Int32), .int (0 : Int32), .int (0 : Int32), .int (-1 : Int32), .int (0 : Int32), .int (-1 : Int32), .int (0 : Int32), .int (0 : Int32), .int (0 : Int32), .ref (z + 57), .ref (z + 58)]))) 59 := by
  refine mt_of (by decide +kernel) (Nat.le_of_ble_eq_true rfl) ?_
  intro p e s m below meth c C hr hlk hnm
  refine x_aload_n C 0 dX3_init_0 rfl rfl ?_
  refine x_objInit C kmX3_3 kObjI kObjC (Nat.le_of_ble_eq_true rfl) (Nat.le_of_ble_eq_true rfl) dX3_init_1 ?_
  refine x_aload_n C 0 dX3_init_4 rfl rfl ?_
  refine x_iconst (v := (0 : Int32)) C dX3_init_5 (by decide) ?_
  obtain ⟨u1, eu1⟩ : ∃ w : HpT, w = (hup u 56 (.inr (2, [.int (0 : Int32), .int (0 : Int32), .int (0 : Int32), .int (0 : Int32), .int (0 : Int32), .int (0 : Int32), .int (0 : Int32), .int (0 : Int32), .int (0 : Int32), .int (0 : Int32), .null, .null]))) := ⟨_, rfl⟩
  refine pfX3_9 C dX3_init_6 h56 (Nat.le_of_ble_eq_true rfl) rfl eu1.symm ?_
  refine x_aload_n C 0 dX3_init_9 rfl rfl ?_
  refine x_iconst (v := (0 : Int32)) C dX3_init_10 (by decide) ?_
  have k56_1 := (congrFun eu1 56).trans (hup_s _ _ _)
  obtain ⟨u2, eu2⟩ : ∃ w : HpT, w = (hup u1 56 (.inr (2, [.int (0 : Int32), .int (0 : Int32), .int (0 : Int32), .int (0 : Int32), .int (0 : Int32), .int (0 : Int32), .int (0 : Int32), .int (0 : Int32), .int (0 : Int32), .int (0 : Int32), .null, .null]))) := ⟨_, rfl⟩
  refine pfX3_15 C dX3_init_11 k56_1 (Nat.le_of_ble_eq_true rfl) rfl eu2.symm ?_
  refine x_aload_n C 0 dX3_init_14 rfl rfl ?_
  refine x_iconst (v := (0 : Int32)) C dX3_init_15 (by decide) ?_
  have k56_2 := (congrFun eu2 56).trans (hup_s _ _ _)
  obtain ⟨u3, eu3⟩ : ∃ w : HpT, w = (hup u2 56 (.inr (2, [.int (0 : Int32), .int (0 : Int32), .int (0 : Int32), .int (0 : Int32), .int (0 : Int32), .int (0 : Int32), .int (0 : Int32), .int (0 : Int32), .int (0 : Int32), .int (0 : Int32), .null, .null]))) := ⟨_, rfl⟩
  refine pfX3_18 C dX3_init_16 k56_2 (Nat.le_of_ble_eq_true rfl) rfl eu3.symm ?_
  refine x_aload_n C 0 dX3_init_19 rfl rfl ?_
  refine x_iconst (v := (0 : Int32)) C dX3_init_20 (by decide) ?_
  have k56_3 := (congrFun eu3 56).trans (hup_s _ _ _)
  obtain ⟨u4, eu4⟩ : ∃ w : HpT, w = (hup u3 56 (.inr (2, [.int (0 : Int32), .int (0 : Int32), .int (0 : Int32), .int (0 : Int32), .int (0 : Int32), .int (0 : Int32), .int (0 : Int32), .int (0 : Int32), .int (0 : Int32), .int (0 : Int32), .null, .null]))) := ⟨_, rfl⟩
  refine pfX3_21 C dX3_init_21 k56_3 (Nat.le_of_ble_eq_true rfl) rfl eu4.symm ?_
  refine x_aload_n C 0 dX3_init_24 rfl rfl ?_
  refine x_iconst (v := (-1 : Int32)) C dX3_init_25 (by decide) ?_
  have k56_4 := (congrFun eu4 56).trans (hup_s _ _ _)
  obtain ⟨u5, eu5⟩ : ∃ w : HpT, w = (hup u4 56 (.inr (2, [.int (0 : Int32), .int (0 : Int32), .int (0 : Int32), .int (0 : Int32), .int (-1 : Int32), .int (0 : Int32), .int (0 : Int32), .int (0 : Int32), .int (0 : Int32), .int (0 : Int32), .null, .null]))) := ⟨_, rfl⟩
  refine pfX3_24 C dX3_init_26 k56_4 (Nat.le_of_ble_eq_true rfl) rfl eu5.symm ?_
  refine x_aload_n C 0 dX3_init_29 rfl rfl ?_
  refine x_iconst (v := (0 : Int32)) C dX3_init_30 (by decide) ?_
  have k56_5 := (congrFun eu5 56).trans (hup_s _ _ _)
  obtain ⟨u6, eu6⟩ : ∃ w : HpT, w = (hup u5 56 (.inr (2, [.int (0 : Int32), .int (0 : Int32), .int (0 : Int32), .int (0 : Int32), .int (-1 : Int32), .int (0 : Int32), .int (0 : Int32), .int (0 : Int32), .int (0 : Int32), .int (0 : Int32), .null, .null]))) := ⟨_, rfl⟩
  refine pfX3_27 C dX3_init_31 k56_5 (Nat.le_of_ble_eq_true rfl) rfl eu6.symm ?_
  refine x_aload_n C 0 dX3_init_34 rfl rfl ?_
  refine x_iconst (v := (-1 : Int32)) C dX3_init_35 (by decide) ?_
  have k56_6 := (congrFun eu6 56).trans (hup_s _ _ _)
  obtain ⟨u7, eu7⟩ : ∃ w : HpT, w = (hup u6 56 (.inr (2, [.int (0 : Int32), .int (0 : Int32), .int (0 : Int32), .int (0 : Int32), .int (-1 : Int32), .int (0 : Int32), .int (-1 : Int32), .int (0 : Int32), .int (0 : Int32), .int (0 : Int32), .null, .null]))) := ⟨_, rfl⟩
  refine pfX3_30 C dX3_init_36 k56_6 (Nat.le_of_ble_eq_true rfl) rfl eu7.symm ?_
  refine x_aload_n C 0 dX3_init_39 rfl rfl ?_
  refine x_iconst (v := (0 : Int32)) C dX3_init_40 (by decide) ?_
  have k56_7 := (congrFun eu7 56).trans (hup_s _ _ _)
  obtain ⟨u8, eu8⟩ : ∃ w : HpT, w = (hup u7 56 (.inr (2, [.int (0 : Int32), .int (0 : Int32), .int (0 : Int32), .int (0 : Int32), .int (-1 : Int32), .int (0 : Int32), .int (-1 : Int32), .int (0 : Int32), .int (0 : Int32), .int (0 : Int32), .null, .null]))) := ⟨_, rfl⟩
  refine pfX3_33 C dX3_init_41 k56_7 (Nat.le_of_ble_eq_true rfl) rfl eu8.symm ?_
  refine x_aload_n C 0 dX3_init_44 rfl rfl ?_
  refine x_iconst (v := (0 : Int32)) C dX3_init_45 (by decide) ?_
  have k56_8 := (congrFun eu8 56).trans (hup_s _ _ _)
  obtain ⟨u9, eu9⟩ : ∃ w : HpT, w = (hup u8 56 (.inr (2, [.int (0 : Int32), .int (0 : Int32), .int (0 : Int32), .int (0 : Int32), .int (-1 : Int32), .int (0 : Int32), .int (-1 : Int32), .int (0 : Int32), .int (0 : Int32), .int (0 : Int32), .null, .null]))) := ⟨_, rfl⟩
  refine pfX3_36 C dX3_init_46 k56_8 (Nat.le_of_ble_eq_true rfl) rfl eu9.symm ?_
  refine x_aload_n C 0 dX3_init_49 rfl rfl ?_
  refine x_iconst (v := (0 : Int32)) C dX3_init_50 (by decide) ?_
  have k56_9 := (congrFun eu9 56).trans (hup_s _ _ _)
  obtain ⟨u10, eu10⟩ : ∃ w : HpT, w = (hup u9 56 (.inr (2, [.int (0 : Int32), .int (0 : Int32), .int (0 : Int32), .int (0 : Int32), .int (-1 : Int32), .int (0 : Int32), .int (-1 : Int32), .int (0 : Int32), .int (0 : Int32), .int (0 : Int32), .null, .null]))) := ⟨_, rfl⟩
  refine pfX3_39 C dX3_init_51 k56_9 (Nat.le_of_ble_eq_true rfl) rfl eu10.symm ?_
  refine x_aload_n C 0 dX3_init_54 rfl rfl ?_
  refine x_bipush (v := (6 : Int32)) C dX3_init_55 (by decide) ?_
  refine x_newI C ka_int 6 (by decide) (by decide) (Nat.le_of_ble_eq_true rfl) (Nat.le_of_ble_eq_true rfl) (Nat.le_of_ble_eq_true rfl) dX3_init_57 ?_
  obtain ⟨u11, eu11⟩ : ∃ w : HpT, w = (hup u10 57 (aI G 6 (fun _ => 0))) := ⟨_, rfl⟩
  refine x_norm (st2 := [.ref (z + 57), .ref (z + 56)]) (kc2 := 1) (ks2 := 6) (n2 := 58) rfl rfl rfl rfl eu11.symm ?_
  have k56_10 := (congrFun eu10 56).trans (hup_s _ _ _)
  have k56_11 := (congrFun eu11 56).trans (hup_n' (by decide) (k56_10))
  obtain ⟨u12, eu12⟩ : ∃ w : HpT, w = (hup u11 56 (.inr (2, [.int (0 : Int32), .int (0 : Int32), .int (0 : Int32), .int (0 : Int32), .int (-1 : Int32), .int (0 : Int32), .int (-1 : Int32), .int (0 : Int32), .int (0 : Int32), .int (0 : Int32), .ref (z + 57), .null]))) := ⟨_, rfl⟩
  refine pfX3_42 C dX3_init_59 hnm k56_11 (Nat.le_of_ble_eq_true rfl) rfl eu12.symm ?_
  refine x_aload_n C 0 dX3_init_62 rfl rfl ?_
  refine x_bipush (v := (6 : Int32)) C dX3_init_63 (by decide) ?_
  refine x_newI C ka_int 6 (by decide) (by decide) (Nat.le_of_ble_eq_true rfl) (Nat.le_of_ble_eq_true rfl) (Nat.le_of_ble_eq_true rfl) dX3_init_65 ?_
  obtain ⟨u13, eu13⟩ : ∃ w : HpT, w = (hup u12 58 (aI G 6 (fun _ => 0))) := ⟨_, rfl⟩
  refine x_norm (st2 := [.ref (z + 58), .ref (z + 56)]) (kc2 := 2) (ks2 := 12) (n2 := 59) rfl rfl rfl rfl eu13.symm ?_
  have k56_12 := (congrFun eu12 56).trans (hup_s _ _ _)
  have k56_13 := (congrFun eu13 56).trans (hup_n' (by decide) (k56_12))
  obtain ⟨u14, eu14⟩ : ∃ w : HpT, w = (hup u13 56 (.inr (2, [.int (0 : Int32), .int (0 : Int32), .int (0 : Int32), .int (0 : Int32), .int (-1 : Int32), .int (0 : Int32), .int (-1 : Int32), .int (0 : Int32), .int (0 : Int32), .int (0 : Int32), .ref (z + 57), .ref (z + 58)]))) := ⟨_, rfl⟩
  refine pfX3_46 C dX3_init_67 hnm k56_13 (Nat.le_of_ble_eq_true rfl) rfl eu14.symm ?_
  exact x_vret C hr hlk (Nat.le_of_ble_eq_true rfl) (Nat.le_of_ble_eq_true rfl) dX3_init_70 rfl (by rw [eu14, eu13, eu12, eu11, eu10, eu9, eu8, eu7, eu6, eu5, eu4, eu3, eu2, eu1]; simp only [hup_hup, hup_sk, ne_eq, Nat.reduceEqDiff, not_false_eq_true]) rfl
set_option maxRecDepth 20000 in
theorem p_X3_init_18 {G : GT} {l : Launch} {z : Nat} (u : HpT) (h59 : u 59 = some (.inr (2, [.int (0 : Int32), .int (0 : Int32), .int (0 : Int32), .int (0 : Int32), .int (0 : Int32), .int (0 : Int32), .int (0 : Int32), .int (0 : Int32), .int (0 : Int32), .int (0 : Int32), .null, .null]))) : Mt G l z yX3_init cX3_init 1 none { frames := 1, cells := 2, slots := 12, locals := 12 } [.ref (z + 59)] u 60 none (hup (hup (hup u 60 (aI G 6 (fun _ => 0))) 61 (aI G 6 (fun _ => 0))) 59 (.inr (2, [.int (0 : Int32), .int (0 : Int32), .int (0 : Int32), .int (0 : Int32), .int (-1 : Int32), .int (0 : Int32), .int (-1 : Int32), .int (0 : Int32), .int (0 : Int32), .int (0 : Int32), .ref (z + 60), .ref (z + 61)]))) 62 := by
  refine mt_of (by decide +kernel) (Nat.le_of_ble_eq_true rfl) ?_
  intro p e s m below meth c C hr hlk hnm
  refine x_aload_n C 0 dX3_init_0 rfl rfl ?_
  refine x_objInit C kmX3_3 kObjI kObjC (Nat.le_of_ble_eq_true rfl) (Nat.le_of_ble_eq_true rfl) dX3_init_1 ?_
  refine x_aload_n C 0 dX3_init_4 rfl rfl ?_
  refine x_iconst (v := (0 : Int32)) C dX3_init_5 (by decide) ?_
  obtain ⟨u1, eu1⟩ : ∃ w : HpT, w = (hup u 59 (.inr (2, [.int (0 : Int32), .int (0 : Int32), .int (0 : Int32), .int (0 : Int32), .int (0 : Int32), .int (0 : Int32), .int (0 : Int32), .int (0 : Int32), .int (0 : Int32), .int (0 : Int32), .null, .null]))) := ⟨_, rfl⟩
  refine pfX3_9 C dX3_init_6 h59 (Nat.le_of_ble_eq_true rfl) rfl eu1.symm ?_
  refine x_aload_n C 0 dX3_init_9 rfl rfl ?_
  refine x_iconst (v := (0 : Int32)) C dX3_init_10 (by decide) ?_
  have k59_1 := (congrFun eu1 59).trans (hup_s _ _ _)
  obtain ⟨u2, eu2⟩ : ∃ w : HpT, w = (hup u1 59 (.inr (2, [.int (0 : Int32), .int (0 : Int32), .int (0 : Int32), .int (0 : Int32), .int (0 : Int32), .int (0 : Int32), .int (0 : Int32), .int (0 : Int32), .int (0 : Int32), .int (0 : Int32), .null, .null]))) := ⟨_, rfl⟩
  refine pfX3_15 C dX3_init_11 k59_1 (Nat.le_of_ble_eq_true rfl) rfl eu2.symm ?_
  refine x_aload_n C 0 dX3_init_14 rfl rfl ?_
  refine x_iconst (v := (0 : Int32)) C dX3_init_15 (by decide) ?_
  have k59_2 := (congrFun eu2 59).trans (hup_s _ _ _)
  obtain ⟨u3, eu3⟩ : ∃ w : HpT, w = (hup u2 59 (.inr (2, [.int (0 : Int32), .int (0 : Int32), .int (0 : Int32), .int (0 : Int32), .int (0 : Int32), .int (0 : Int32), .int (0 : Int32), .int (0 : Int32), .int (0 : Int32), .int (0 : Int32), .null, .null]))) := ⟨_, rfl⟩
  refine pfX3_18 C dX3_init_16 k59_2 (Nat.le_of_ble_eq_true rfl) rfl eu3.symm ?_
  refine x_aload_n C 0 dX3_init_19 rfl rfl ?_
  refine x_iconst (v := (0 : Int32)) C dX3_init_20 (by decide) ?_
  have k59_3 := (congrFun eu3 59).trans (hup_s _ _ _)
  obtain ⟨u4, eu4⟩ : ∃ w : HpT, w = (hup u3 59 (.inr (2, [.int (0 : Int32), .int (0 : Int32), .int (0 : Int32), .int (0 : Int32), .int (0 : Int32), .int (0 : Int32), .int (0 : Int32), .int (0 : Int32), .int (0 : Int32), .int (0 : Int32), .null, .null]))) := ⟨_, rfl⟩
  refine pfX3_21 C dX3_init_21 k59_3 (Nat.le_of_ble_eq_true rfl) rfl eu4.symm ?_
  refine x_aload_n C 0 dX3_init_24 rfl rfl ?_
  refine x_iconst (v := (-1 : Int32)) C dX3_init_25 (by decide) ?_
  have k59_4 := (congrFun eu4 59).trans (hup_s _ _ _)
  obtain ⟨u5, eu5⟩ : ∃ w : HpT, w = (hup u4 59 (.inr (2, [.int (0 : Int32), .int (0 : Int32), .int (0 : Int32), .int (0 : Int32), .int (-1 : Int32), .int (0 : Int32), .int (0 : Int32), .int (0 : Int32), .int (0 : Int32), .int (0 : Int32), .null, .null]))) := ⟨_, rfl⟩
  refine pfX3_24 C dX3_init_26 k59_4 (Nat.le_of_ble_eq_true rfl) rfl eu5.symm ?_
  refine x_aload_n C 0 dX3_init_29 rfl rfl ?_
  refine x_iconst (v := (0 : Int32)) C dX3_init_30 (by decide) ?_
  have k59_5 := (congrFun eu5 59).trans (hup_s _ _ _)
  obtain ⟨u6, eu6⟩ : ∃ w : HpT, w = (hup u5 59 (.inr (2, [.int (0 : Int32), .int (0 : Int32), .int (0 : Int32), .int (0 : Int32), .int (-1 : Int32), .int (0 : Int32), .int (0 : Int32), .int (0 : Int32), .int (0 : Int32), .int (0 : Int32), .null, .null]))) := ⟨_, rfl⟩
  refine pfX3_27 C dX3_init_31 k59_5 (Nat.le_of_ble_eq_true rfl) rfl eu6.symm ?_
  refine x_aload_n C 0 dX3_init_34 rfl rfl ?_
  refine x_iconst (v := (-1 : Int32)) C dX3_init_35 (by decide) ?_
  have k59_6 := (congrFun eu6 59).trans (hup_s _ _ _)
  obtain ⟨u7, eu7⟩ : ∃ w : HpT, w = (hup u6 59 (.inr (2, [.int (0 : Int32), .int (0 : Int32), .int (0 : Int32), .int (0 : Int32), .int (-1 : Int32), .int (0 : Int32), .int (-1 : Int32), .int (0 : Int32), .int (0 : Int32), .int (0 : Int32), .null, .null]))) := ⟨_, rfl⟩
  refine pfX3_30 C dX3_init_36 k59_6 (Nat.le_of_ble_eq_true rfl) rfl eu7.symm ?_
  refine x_aload_n C 0 dX3_init_39 rfl rfl ?_
  refine x_iconst (v := (0 : Int32)) C dX3_init_40 (by decide) ?_
  have k59_7 := (congrFun eu7 59).trans (hup_s _ _ _)
  obtain ⟨u8, eu8⟩ : ∃ w : HpT, w = (hup u7 59 (.inr (2, [.int (0 : Int32), .int (0 : Int32), .int (0 : Int32), .int (0 : Int32), .int (-1 : Int32), .int (0 : Int32), .int (-1 : Int32), .int (0 : Int32), .int (0 : Int32), .int (0 : Int32), .null, .null]))) := ⟨_, rfl⟩
  refine pfX3_33 C dX3_init_41 k59_7 (Nat.le_of_ble_eq_true rfl) rfl eu8.symm ?_
  refine x_aload_n C 0 dX3_init_44 rfl rfl ?_
  refine x_iconst (v := (0 : Int32)) C dX3_init_45 (by decide) ?_
  have k59_8 := (congrFun eu8 59).trans (hup_s _ _ _)
  obtain ⟨u9, eu9⟩ : ∃ w : HpT, w = (hup u8 59 (.inr (2, [.int (0 : Int32), .int (0 : Int32), .int (0 : Int32), .int (0 : Int32), .int (-1 : Int32), .int (0 : Int32), .int (-1 : Int32), .int (0 : Int32), .int (0 : Int32), .int (0 : Int32), .null, .null]))) := ⟨_, rfl⟩
  refine pfX3_36 C dX3_init_46 k59_8 (Nat.le_of_ble_eq_true rfl) rfl eu9.symm ?_
  refine x_aload_n C 0 dX3_init_49 rfl rfl ?_
  refine x_iconst (v := (0 : Int32)) C dX3_init_50 (by decide) ?_
  have k59_9 := (congrFun eu9 59).trans (hup_s _ _ _)
  obtain ⟨u10, eu10⟩ : ∃ w : HpT, w = (hup u9 59 (.inr (2, [.int (0 : Int32), .int (0 : Int32), .int (0 : Int32), .int (0 : Int32), .int (-1 : Int32), .int (0 : Int32), .int (-1 : Int32), .int (0 : Int32), .int (0 : Int32), .int (0 : Int32), .null, .null]))) := ⟨_, rfl⟩
  refine pfX3_39 C dX3_init_51 k59_9 (Nat.le_of_ble_eq_true rfl) rfl eu10.symm ?_
  refine x_aload_n C 0 dX3_init_54 rfl rfl ?_
  refine x_bipush (v := (6 : Int32)) C dX3_init_55 (by decide) ?_
  refine x_newI C ka_int 6 (by decide) (by decide) (Nat.le_of_ble_eq_true rfl) (Nat.le_of_ble_eq_true rfl) (Nat.le_of_ble_eq_true rfl) dX3_init_57 ?_
  obtain ⟨u11, eu11⟩ : ∃ w : HpT, w = (hup u10 60 (aI G 6 (fun _ => 0))) := ⟨_, rfl⟩
  refine x_norm (st2 := [.ref (z + 60), .ref (z + 59)]) (kc2 := 1) (ks2 := 6) (n2 := 61) rfl rfl rfl rfl eu11.symm ?_
  have k59_10 := (congrFun eu10 59).trans (hup_s _ _ _)
  have k59_11 := (congrFun eu11 59).trans (hup_n' (by decide) (k59_10))
  obtain ⟨u12, eu12⟩ : ∃ w : HpT, w = (hup u11 59 (.inr (2, [.int (0 : Int32), .int (0 : Int32), .int (0 : Int32), .int (0 : Int32), .int (-1 : Int32), .int (0 : Int32), .int (-1 : Int32), .int (0 : Int32), .int (0 : Int32), .int (0 : Int32), .ref (z + 60), .null]))) := ⟨_, rfl⟩
  refine pfX3_42 C dX3_init_59 hnm k59_11 (Nat.le_of_ble_eq_true rfl) rfl eu12.symm ?_
  refine x_aload_n C 0 dX3_init_62 rfl rfl ?_
  refine x_bipush (v := (6 : Int32)) C dX3_init_63 (by decide) ?_
  refine x_newI C ka_int 6 (by decide) (by decide) (Nat.le_of_ble_eq_true rfl) (Nat.le_of_ble_eq_true rfl) (Nat.le_of_ble_eq_true rfl) dX3_init_65 ?_
  obtain ⟨u13, eu13⟩ : ∃ w : HpT, w = (hup u12 61 (aI G 6 (fun _ => 0))) := ⟨_, rfl⟩
  refine x_norm (st2 := [.ref (z + 61), .ref (z + 59)]) (kc2 := 2) (ks2 := 12) (n2 := 62) rfl rfl rfl rfl eu13.symm ?_
  have k59_12 := (congrFun eu12 59).trans (hup_s _ _ _)
  have k59_13 := (congrFun eu13 59).trans (hup_n' (by decide) (k59_12))
  obtain ⟨u14, eu14⟩ : ∃ w : HpT, w = (hup u13 59 (.inr (2, [.int (0 : Int32), .int (0 : Int32), .int (0 : Int32), .int (0 : Int32), .int (-1 : Int32), .int (0 : Int32), .int (-1 : Int32), .int (0 : Int32), .int (0 : Int32), .int (0 : Int32), .ref (z + 60), .ref (z + 61)]))) := ⟨_, rfl⟩
  refine pfX3_46 C dX3_init_67 hnm k59_13 (Nat.le_of_ble_eq_true rfl) rfl eu14.symm ?_
  exact x_vret C hr hlk (Nat.le_of_ble_eq_true rfl) (Nat.le_of_ble_eq_true rfl) dX3_init_70 rfl (by rw [eu14, eu13, eu12, eu11, eu10, eu9, eu8, eu7, eu6, eu5, eu4, eu3, eu2, eu1]; simp only [hup_hup, hup_sk, ne_eq, Nat.reduceEqDiff, not_false_eq_true]) rfl
set_option maxRecDepth 20000 in
theorem p_X3_init_19 {G : GT} {l : Launch} {z : Nat} (u : HpT) (h62 : u 62 = some (.inr (2, [.int (0 : Int32), .int (0 : Int32), .int (0 : Int32), .int (0 : Int32), .int (0 : Int32), .int (0 : Int32), .int (0 : Int32), .int (0 : Int32), .int (0 : Int32), .int (0 : Int32), .null, .null]))) : Mt G l z yX3_init cX3_init 1 none { frames := 1, cells := 2, slots := 12, locals := 12 } [.ref (z + 62)] u 63 none (hup (hup (hup u 63 (aI G 6 (fun _ => 0))) 64 (aI G 6 (fun _ => 0))) 62 (.inr (2, [.int (0 : Int32), .int (0 : Int32), .int (0 : Int32), .int (0 : Int32), .int (-1 : Int32), .int (0 : Int32), .int (-1 : Int32), .int (0 : Int32), .int (0 : Int32), .int (0 : Int32), .ref (z + 63), .ref (z + 64)]))) 65 := by
  refine mt_of (by decide +kernel) (Nat.le_of_ble_eq_true rfl) ?_
  intro p e s m below meth c C hr hlk hnm
  refine x_aload_n C 0 dX3_init_0 rfl rfl ?_
  refine x_objInit C kmX3_3 kObjI kObjC (Nat.le_of_ble_eq_true rfl) (Nat.le_of_ble_eq_true rfl) dX3_init_1 ?_
  refine x_aload_n C 0 dX3_init_4 rfl rfl ?_
  refine x_iconst (v := (0 : Int32)) C dX3_init_5 (by decide) ?_
  obtain ⟨u1, eu1⟩ : ∃ w : HpT, w = (hup u 62 (.inr (2, [.int (0 : Int32), .int (0 : Int32), .int (0 : Int32), .int (0 : Int32), .int (0 : Int32), .int (0 : Int32), .int (0 : Int32), .int (0 : Int32), .int (0 : Int32), .int (0 : Int32), .null, .null]))) := ⟨_, rfl⟩
  refine pfX3_9 C dX3_init_6 h62 (Nat.le_of_ble_eq_true rfl) rfl eu1.symm ?_
  refine x_aload_n C 0 dX3_init_9 rfl rfl ?_
  refine x_iconst (v := (0 : Int32)) C dX3_init_10 (by decide) ?_
  have k62_1 := (congrFun eu1 62).trans (hup_s _ _ _)
  obtain ⟨u2, eu2⟩ : ∃ w : HpT, w = (hup u1 62 (.inr (2, [.int (0 : Int32), .int (0 : Int32), .int (0 : Int32), .int (0 : Int32), .int (0 : Int32), .int (0 : Int32), .int (0 : Int32), .int (0 : Int32), .int (0 : Int32), .int (0 : Int32), .null, .null]))) := ⟨_, rfl⟩
  refine pfX3_15 C dX3_init_11 k62_1 (Nat.le_of_ble_eq_true rfl) rfl eu2.symm ?_
  refine x_aload_n C 0 dX3_init_14 rfl rfl ?_
  refine x_iconst (v := (0 : Int32)) C dX3_init_15 (by decide) ?_
  have k62_2 := (congrFun eu2 62).trans (hup_s _ _ _)
  obtain ⟨u3, eu3⟩ : ∃ w : HpT, w = (hup u2 62 (.inr (2, [.int (0 : Int32), .int (0 : Int32), .int (0 : Int32), .int (0 : Int32), .int (0 : Int32), .int (0 : Int32), .int (0 : Int32), .int (0 : Int32), .int (0 : Int32), .int (0 : Int32), .null, .null]))) := ⟨_, rfl⟩
  refine pfX3_18 C dX3_init_16 k62_2 (Nat.le_of_ble_eq_true rfl) rfl eu3.symm ?_
  refine x_aload_n C 0 dX3_init_19 rfl rfl ?_
  refine x_iconst (v := (0 : Int32)) C dX3_init_20 (by decide) ?_
  have k62_3 := (congrFun eu3 62).trans (hup_s _ _ _)
  obtain ⟨u4, eu4⟩ : ∃ w : HpT, w = (hup u3 62 (.inr (2, [.int (0 : Int32), .int (0 : Int32), .int (0 : Int32), .int (0 : Int32), .int (0 : Int32), .int (0 : Int32), .int (0 : Int32), .int (0 : Int32), .int (0 : Int32), .int (0 : Int32), .null, .null]))) := ⟨_, rfl⟩
  refine pfX3_21 C dX3_init_21 k62_3 (Nat.le_of_ble_eq_true rfl) rfl eu4.symm ?_
  refine x_aload_n C 0 dX3_init_24 rfl rfl ?_
  refine x_iconst (v := (-1 : Int32)) C dX3_init_25 (by decide) ?_
  have k62_4 := (congrFun eu4 62).trans (hup_s _ _ _)
  obtain ⟨u5, eu5⟩ : ∃ w : HpT, w = (hup u4 62 (.inr (2, [.int (0 : Int32), .int (0 : Int32), .int (0 : Int32), .int (0 : Int32), .int (-1 : Int32), .int (0 : Int32), .int (0 : Int32), .int (0 : Int32), .int (0 : Int32), .int (0 : Int32), .null, .null]))) := ⟨_, rfl⟩
  refine pfX3_24 C dX3_init_26 k62_4 (Nat.le_of_ble_eq_true rfl) rfl eu5.symm ?_
  refine x_aload_n C 0 dX3_init_29 rfl rfl ?_
  refine x_iconst (v := (0 : Int32)) C dX3_init_30 (by decide) ?_
  have k62_5 := (congrFun eu5 62).trans (hup_s _ _ _)
  obtain ⟨u6, eu6⟩ : ∃ w : HpT, w = (hup u5 62 (.inr (2, [.int (0 : Int32), .int (0 : Int32), .int (0 : Int32), .int (0 : Int32), .int (-1 : Int32), .int (0 : Int32), .int (0 : Int32), .int (0 : Int32), .int (0 : Int32), .int (0 : Int32), .null, .null]))) := ⟨_, rfl⟩
  refine pfX3_27 C dX3_init_31 k62_5 (Nat.le_of_ble_eq_true rfl) rfl eu6.symm ?_
  refine x_aload_n C 0 dX3_init_34 rfl rfl ?_
  refine x_iconst (v := (-1 : Int32)) C dX3_init_35 (by decide) ?_
  have k62_6 := (congrFun eu6 62).trans (hup_s _ _ _)
  obtain ⟨u7, eu7⟩ : ∃ w : HpT, w = (hup u6 62 (.inr (2, [.int (0 : Int32), .int (0 : Int32), .int (0 : Int32), .int (0 : Int32), .int (-1 : Int32), .int (0 : Int32), .int (-1 : Int32), .int (0 : Int32), .int (0 : Int32), .int (0 : Int32), .null, .null]))) := ⟨_, rfl⟩
  refine pfX3_30 C dX3_init_36 k62_6 (Nat.le_of_ble_eq_true rfl) rfl eu7.symm ?_
  refine x_aload_n C 0 dX3_init_39 rfl rfl ?_
  refine x_iconst (v := (0 : Int32)) C dX3_init_40 (by decide) ?_
  have k62_7 := (congrFun eu7 62).trans (hup_s _ _ _)
  obtain ⟨u8, eu8⟩ : ∃ w : HpT, w = (hup u7 62 (.inr (2, [.int (0 : Int32), .int (0 : Int32), .int (0 : Int32), .int (0 : Int32), .int (-1 : Int32), .int (0 : Int32), .int (-1 : Int32), .int (0 : Int32), .int (0 : Int32), .int (0 : Int32), .null, .null]))) := ⟨_, rfl⟩
  refine pfX3_33 C dX3_init_41 k62_7 (Nat.le_of_ble_eq_true rfl) rfl eu8.symm ?_
  refine x_aload_n C 0 dX3_init_44 rfl rfl ?_
  refine x_iconst (v := (0 : Int32)) C dX3_init_45 (by decide) ?_
  have k62_8 := (congrFun eu8 62).trans (hup_s _ _ _)
  obtain ⟨u9, eu9⟩ : ∃ w : HpT, w = (hup u8 62 (.inr (2, [.int (0 : Int32), .int (0 : Int32), .int (0 : Int32), .int (0 : Int32), .int (-1 : Int32), .int (0 : Int32), .int (-1 : Int32), .int (0 : Int32), .int (0 : Int32), .int (0 : Int32), .null, .null]))) := ⟨_, rfl⟩
  refine pfX3_36 C dX3_init_46 k62_8 (Nat.le_of_ble_eq_true rfl) rfl eu9.symm ?_
  refine x_aload_n C 0 dX3_init_49 rfl rfl ?_
  refine x_iconst (v := (0 : Int32)) C dX3_init_50 (by decide) ?_
  have k62_9 := (congrFun eu9 62).trans (hup_s _ _ _)
  obtain ⟨u10, eu10⟩ : ∃ w : HpT, w = (hup u9 62 (.inr (2, [.int (0 : Int32), .int (0 : Int32), .int (0 : Int32), .int (0 : Int32), .int (-1 : Int32), .int (0 : Int32), .int (-1 : Int32), .int (0 : Int32), .int (0 : Int32), .int (0 : Int32), .null, .null]))) := ⟨_, rfl⟩
  refine pfX3_39 C dX3_init_51 k62_9 (Nat.le_of_ble_eq_true rfl) rfl eu10.symm ?_
  refine x_aload_n C 0 dX3_init_54 rfl rfl ?_
  refine x_bipush (v := (6 : Int32)) C dX3_init_55 (by decide) ?_
  refine x_newI C ka_int 6 (by decide) (by decide) (Nat.le_of_ble_eq_true rfl) (Nat.le_of_ble_eq_true rfl) (Nat.le_of_ble_eq_true rfl) dX3_init_57 ?_
  obtain ⟨u11, eu11⟩ : ∃ w : HpT, w = (hup u10 63 (aI G 6 (fun _ => 0))) := ⟨_, rfl⟩
  refine x_norm (st2 := [.ref (z + 63), .ref (z + 62)]) (kc2 := 1) (ks2 := 6) (n2 := 64) rfl rfl rfl rfl eu11.symm ?_
  have k62_10 := (congrFun eu10 62).trans (hup_s _ _ _)
  have k62_11 := (congrFun eu11 62).trans (hup_n' (by decide) (k62_10))
  obtain ⟨u12, eu12⟩ : ∃ w : HpT, w = (hup u11 62 (.inr (2, [.int (0 : Int32), .int (0 : Int32), .int (0 : Int32), .int (0 : Int32), .int (-1 : Int32), .int (0 : Int32), .int (-1 : Int32), .int (0 : Int32), .int (0 : Int32), .int (0 : Int32), .ref (z + 63), .null]))) := ⟨_, rfl⟩
  refine pfX3_42 C dX3_init_59 hnm k62_11 (Nat.le_of_ble_eq_true rfl) rfl eu12.symm ?_
  refine x_aload_n C 0 dX3_init_62 rfl rfl ?_
  refine x_bipush (v := (6 : Int32)) C dX3_init_63 (by decide) ?_
  refine x_newI C ka_int 6 (by decide) (by decide) (Nat.le_of_ble_eq_true rfl) (Nat.le_of_ble_eq_true rfl) (Nat.le_of_ble_eq_true rfl) dX3_init_65 ?_
  obtain ⟨u13, eu13⟩ : ∃ w : HpT, w = (hup u12 64 (aI G 6 (fun _ => 0))) := ⟨_, rfl⟩
  refine x_norm (st2 := [.ref (z + 64), .ref (z + 62)]) (kc2 := 2) (ks2 := 12) (n2 := 65) rfl rfl rfl rfl eu13.symm ?_
  have k62_12 := (congrFun eu12 62).trans (hup_s _ _ _)
  have k62_13 := (congrFun eu13 62).trans (hup_n' (by decide) (k62_12))
  obtain ⟨u14, eu14⟩ : ∃ w : HpT, w = (hup u13 62 (.inr (2, [.int (0 : Int32), .int (0 : Int32), .int (0 : Int32), .int (0 : Int32), .int (-1 : Int32), .int (0 : Int32), .int (-1 : Int32), .int (0 : Int32), .int (0 : Int32), .int (0 : Int32), .ref (z + 63), .ref (z + 64)]))) := ⟨_, rfl⟩
  refine pfX3_46 C dX3_init_67 hnm k62_13 (Nat.le_of_ble_eq_true rfl) rfl eu14.symm ?_
  exact x_vret C hr hlk (Nat.le_of_ble_eq_true rfl) (Nat.le_of_ble_eq_true rfl) dX3_init_70 rfl (by rw [eu14, eu13, eu12, eu11, eu10, eu9, eu8, eu7, eu6, eu5, eu4, eu3, eu2, eu1]; simp only [hup_hup, hup_sk, ne_eq, Nat.reduceEqDiff, not_false_eq_true]) rfl
set_option maxRecDepth 20000 in
theorem p_X3_init_20 {G : GT} {l : Launch} {z : Nat} (u : HpT) (h65 : u 65 = some (.inr (2, [.int (0 : Int32), .int (0 : Int32), .int (0 : Int32), .int (0 : Int32), .int (0 : Int32), .int (0 : Int32), .int (0 : Int32), .int (0 : Int32), .int (0 : Int32), .int (0 : Int32), .null, .null]))) : Mt G l z yX3_init cX3_init 1 none { frames := 1, cells := 2, slots := 12, locals := 12 } [.ref (z + 65)] u 66 none (hup (hup (hup u 66 (aI G 6 (fun _ => 0))) 67 (aI G 6 (fun _ => 0))) 65 (.inr (2, [.int (0 : Int32), .int (0 : Int32), .int (0 : Int32), .int (0 : Int32), .int (-1 : Int32), .int (0 : Int32), .int (-1 : Int32), .int (0 : Int32), .int (0 : Int32), .int (0 : Int32), .ref (z + 66), .ref (z + 67)]))) 68 := by
  refine mt_of (by decide +kernel) (Nat.le_of_ble_eq_true rfl) ?_
  intro p e s m below meth c C hr hlk hnm
  refine x_aload_n C 0 dX3_init_0 rfl rfl ?_
  refine x_objInit C kmX3_3 kObjI kObjC (Nat.le_of_ble_eq_true rfl) (Nat.le_of_ble_eq_true rfl) dX3_init_1 ?_
  refine x_aload_n C 0 dX3_init_4 rfl rfl ?_
  refine x_iconst (v := (0 : Int32)) C dX3_init_5 (by decide) ?_
  obtain ⟨u1, eu1⟩ : ∃ w : HpT, w = (hup u 65 (.inr (2, [.int (0 : Int32), .int (0 : Int32), .int (0 : Int32), .int (0 : Int32), .int (0 : Int32), .int (0 : Int32), .int (0 : Int32), .int (0 : Int32), .int (0 : Int32), .int (0 : Int32), .null, .null]))) := ⟨_, rfl⟩
  refine pfX3_9 C dX3_init_6 h65 (Nat.le_of_ble_eq_true rfl) rfl eu1.symm ?_
  refine x_aload_n C 0 dX3_init_9 rfl rfl ?_
  refine x_iconst (v := (0 : Int32)) C dX3_init_10 (by decide) ?_
  have k65_1 := (congrFun eu1 65).trans (hup_s _ _ _)
  obtain ⟨u2, eu2⟩ : ∃ w : HpT, w = (hup u1 65 (.inr (2, [.int (0 : Int32), .int (0 : Int32), .int (0 : Int32), .int (0 : Int32), .int (0 : Int32), .int (0 : Int32), .int (0 : Int32), .int (0 : Int32), .int (0 : Int32), .int (0 : Int32), .null, .null]))) := ⟨_, rfl⟩
  refine pfX3_15 C dX3_init_11 k65_1 (Nat.le_of_ble_eq_true rfl) rfl eu2.symm ?_
  refine x_aload_n C 0 dX3_init_14 rfl rfl ?_
  refine x_iconst (v := (0 : Int32)) C dX3_init_15 (by decide) ?_
  have k65_2 := (congrFun eu2 65).trans (hup_s _ _ _)
  obtain ⟨u3, eu3⟩ : ∃ w : HpT, w = (hup u2 65 (.inr (2, [.int (0 : Int32), .int (0 : Int32), .int (0 : Int32), .int (0 : Int32), .int (0 : Int32), .int (0 : Int32), .int (0 : Int32), .int (0 : Int32), .int (0 : Int32), .int (0 : Int32), .null, .null]))) := ⟨_, rfl⟩
  refine pfX3_18 C dX3_init_16 k65_2 (Nat.le_of_ble_eq_true rfl) rfl eu3.symm ?_
  refine x_aload_n C 0 dX3_init_19 rfl rfl ?_
  refine x_iconst (v := (0 : Int32)) C dX3_init_20 (by decide) ?_
  have k65_3 := (congrFun eu3 65).trans (hup_s _ _ _)
  obtain ⟨u4, eu4⟩ : ∃ w : HpT, w = (hup u3 65 (.inr (2, [.int (0 : Int32), .int (0 : Int32), .int (0 : Int32), .int (0 : Int32), .int (0 : Int32), .int (0 : Int32), .int (0 : Int32), .int (0 : Int32), .int (0 : Int32), .int (0 : Int32), .null, .null]))) := ⟨_, rfl⟩
  refine pfX3_21 C dX3_init_21 k65_3 (Nat.le_of_ble_eq_true rfl) rfl eu4.symm ?_
  refine x_aload_n C 0 dX3_init_24 rfl rfl ?_
  refine x_iconst (v := (-1 : Int32)) C dX3_init_25 (by decide) ?_
  have k65_4 := (congrFun eu4 65).trans (hup_s _ _ _)
  obtain ⟨u5, eu5⟩ : ∃ w : HpT, w = (hup u4 65 (.inr (2, [.int (0 : Int32), .int (0 : Int32), .int (0 : Int32), .int (0 : Int32), .int (-1 : Int32), .int (0 : Int32), .int (0 : Int32), .int (0 : Int32), .int (0 : Int32), .int (0 : Int32), .null, .null]))) := ⟨_, rfl⟩
  refine pfX3_24 C dX3_init_26 k65_4 (Nat.le_of_ble_eq_true rfl) rfl eu5.symm ?_
  refine x_aload_n C 0 dX3_init_29 rfl rfl ?_
  refine x_iconst (v := (0 : Int32)) C dX3_init_30 (by decide) ?_
  have k65_5 := (congrFun eu5 65).trans (hup_s _ _ _)
  obtain ⟨u6, eu6⟩ : ∃ w : HpT, w = (hup u5 65 (.inr (2, [.int (0 : Int32), .int (0 : Int32), .int (0 : Int32), .int (0 : Int32), .int (-1 : Int32), .int (0 : Int32), .int (0 : Int32), .int (0 : Int32), .int (0 : Int32), .int (0 : Int32), .null, .null]))) := ⟨_, rfl⟩
  refine pfX3_27 C dX3_init_31 k65_5 (Nat.le_of_ble_eq_true rfl) rfl eu6.symm ?_
  refine x_aload_n C 0 dX3_init_34 rfl rfl ?_
  refine x_iconst (v := (-1 : Int32)) C dX3_init_35 (by decide) ?_
  have k65_6 := (congrFun eu6 65).trans (hup_s _ _ _)
  obtain ⟨u7, eu7⟩ : ∃ w : HpT, w = (hup u6 65 (.inr (2, [.int (0 : Int32), .int (0 : Int32), .int (0 : Int32), .int (0 : Int32), .int (-1 : Int32), .int (0 : Int32), .int (-1 : Int32), .int (0 : Int32), .int (0 : Int32), .int (0 : Int32), .null, .null]))) := ⟨_, rfl⟩
  refine pfX3_30 C dX3_init_36 k65_6 (Nat.le_of_ble_eq_true rfl) rfl eu7.symm ?_
  refine x_aload_n C 0 dX3_init_39 rfl rfl ?_
  refine x_iconst (v := (0 : Int32)) C dX3_init_40 (by decide) ?_
  have k65_7 := (congrFun eu7 65).trans (hup_s _ _ _)
  obtain ⟨u8, eu8⟩ : ∃ w : HpT, w = (hup u7 65 (.inr (2, [.int (0 : Int32), .int (0 : Int32), .int (0 : Int32), .int (0 : Int32), .int (-1 : Int32), .int (0 : Int32), .int (-1 : Int32), .int (0 : Int32), .int (0 : Int32), .int (0 : Int32), .null, .null]))) := ⟨_, rfl⟩
  refine pfX3_33 C dX3_init_41 k65_7 (Nat.le_of_ble_eq_true rfl) rfl eu8.symm ?_
  refine x_aload_n C 0 dX3_init_44 rfl rfl ?_
  refine x_iconst (v := (0 : Int32)) C dX3_init_45 (by decide) ?_
  have k65_8 := (congrFun eu8 65).trans (hup_s _ _ _)
  obtain ⟨u9, eu9⟩ : ∃ w : HpT, w = (hup u8 65 (.inr (2, [.int (0 : Int32), .int (0 : Int32), .int (0 : Int32), .int (0 : Int32), .int (-1 : Int32), .int (0 : Int32), .int (-1 : Int32), .int (0 : Int32), .int (0 : Int32), .int (0 : Int32), .null, .null]))) := ⟨_, rfl⟩
  refine pfX3_36 C dX3_init_46 k65_8 (Nat.le_of_ble_eq_true rfl) rfl eu9.symm ?_
  refine x_aload_n C 0 dX3_init_49 rfl rfl ?_
  refine x_iconst (v := (0 : Int32)) C dX3_init_50 (by decide) ?_
  have k65_9 := (congrFun eu9 65).trans (hup_s _ _ _)
  obtain ⟨u10, eu10⟩ : ∃ w : HpT, w = (hup u9 65 (.inr (2, [.int (0 : Int32), .int (0 : Int32), .int (0 : Int32), .int (0 : Int32), .int (-1 : Int32), .int (0 : Int32), .int (-1 : Int32), .int (0 : Int32), .int (0 : Int32), .int (0 : Int32), .null, .null]))) := ⟨_, rfl⟩
  refine pfX3_39 C dX3_init_51 k65_9 (Nat.le_of_ble_eq_true rfl) rfl eu10.symm ?_
  refine x_aload_n C 0 dX3_init_54 rfl rfl ?_
  refine x_bipush (v := (6 : Int32)) C dX3_init_55 (by decide) ?_
  refine x_newI C ka_int 6 (by decide) (by decide) (Nat.le_of_ble_eq_true rfl) (Nat.le_of_ble_eq_true rfl) (Nat.le_of_ble_eq_true rfl) dX3_init_57 ?_
  obtain ⟨u11, eu11⟩ : ∃ w : HpT, w = (hup u10 66 (aI G 6 (fun _ => 0))) := ⟨_, rfl⟩
  refine x_norm (st2 := [.ref (z + 66), .ref (z + 65)]) (kc2 := 1) (ks2 := 6) (n2 := 67) rfl rfl rfl rfl eu11.symm ?_
  have k65_10 := (congrFun eu10 65).trans (hup_s _ _ _)
  have k65_11 := (congrFun eu11 65).trans (hup_n' (by decide) (k65_10))
  obtain ⟨u12, eu12⟩ : ∃ w : HpT, w = (hup u11 65 (.inr (2, [.int (0 : Int32), .int (0 : Int32), .int (0 : Int32), .int (0 : Int32), .int (-1 : Int32), .int (0 : Int32), .int (-1 : Int32), .int (0 : Int32), .int (0 : Int32), .int (0 : Int32), .ref (z + 66), .null]))) := ⟨_, rfl⟩
  refine pfX3_42 C dX3_init_59 hnm k65_11 (Nat.le_of_ble_eq_true rfl) rfl eu12.symm ?_
  refine x_aload_n C 0 dX3_init_62 rfl rfl ?_
  refine x_bipush (v := (6 : Int32)) C dX3_init_63 (by decide) ?_
  refine x_newI C ka_int 6 (by decide) (by decide) (Nat.le_of_ble_eq_true rfl) (Nat.le_of_ble_eq_true rfl) (Nat.le_of_ble_eq_true rfl) dX3_init_65 ?_
  obtain ⟨u13, eu13⟩ : ∃ w : HpT, w = (hup u12 67 (aI G 6 (fun _ => 0))) := ⟨_, rfl⟩
  refine x_norm (st2 := [.ref (z + 67), .ref (z + 65)]) (kc2 := 2) (ks2 := 12) (n2 := 68) rfl rfl rfl rfl eu13.symm ?_
  have k65_12 := (congrFun eu12 65).trans (hup_s _ _ _)
  have k65_13 := (congrFun eu13 65).trans (hup_n' (by decide) (k65_12))
  obtain ⟨u14, eu14⟩ : ∃ w : HpT, w = (hup u13 65 (.inr (2, [.int (0 : Int32), .int (0 : Int32), .int (0 : Int32), .int (0 : Int32), .int (-1 : Int32), .int (0 : Int32), .int (-1 : Int32), .int (0 : Int32), .int (0 : Int32), .int (0 : Int32), .ref (z + 66), .ref (z + 67)]))) := ⟨_, rfl⟩
  refine pfX3_46 C dX3_init_67 hnm k65_13 (Nat.le_of_ble_eq_true rfl) rfl eu14.symm ?_
  exact x_vret C hr hlk (Nat.le_of_ble_eq_true rfl) (Nat.le_of_ble_eq_true rfl) dX3_init_70 rfl (by rw [eu14, eu13, eu12, eu11, eu10, eu9, eu8, eu7, eu6, eu5, eu4, eu3, eu2, eu1]; simp only [hup_hup, hup_sk, ne_eq, Nat.reduceEqDiff, not_false_eq_true]) rfl
set_option maxRecDepth 20000 in
theorem p_X3_init_21 {G : GT} {l : Launch} {z : Nat} (u : HpT) (h68 : u 68 = some (.inr (2, [.int (0 : Int32), .int (0 : Int32), .int (0 : Int32), .int (0 : Int32), .int (0 : Int32), .int (0 : Int32), .int (0 : Int32), .int (0 : Int32), .int (0 : Int32), .int (0 : Int32), .null, .null]))) : Mt G l z yX3_init cX3_init 1 none { frames := 1, cells := 2, slots := 12, locals := 12 } [.ref (z + 68)] u 69 none (hup (hup (hup u 69 (aI G 6 (fun _ => 0))) 70 (aI G 6 (fun _ => 0))) 68 (.inr (2, [.int (0 : Int32), .int (0 : Int32), .int (0 : Int32), .int (0 : Int32), .int (-1 : Int32), .int (0 : Int32), .int (-1 : Int32), .int (0 : Int32), .int (0 : Int32), .int (0 : Int32), .ref (z + 69), .ref (z + 70)]))) 71 := by
  refine mt_of (by decide +kernel) (Nat.le_of_ble_eq_true rfl) ?_
  intro p e s m below meth c C hr hlk hnm
  refine x_aload_n C 0 dX3_init_0 rfl rfl ?_
  refine x_objInit C kmX3_3 kObjI kObjC (Nat.le_of_ble_eq_true rfl) (Nat.le_of_ble_eq_true rfl) dX3_init_1 ?_
  refine x_aload_n C 0 dX3_init_4 rfl rfl ?_
  refine x_iconst (v := (0 : Int32)) C dX3_init_5 (by decide) ?_
  obtain ⟨u1, eu1⟩ : ∃ w : HpT, w = (hup u 68 (.inr (2, [.int (0 : Int32), .int (0 : Int32), .int (0 : Int32), .int (0 : Int32), .int (0 : Int32), .int (0 : Int32), .int (0 : Int32), .int (0 : Int32), .int (0 : Int32), .int (0 : Int32), .null, .null]))) := ⟨_, rfl⟩
  refine pfX3_9 C dX3_init_6 h68 (Nat.le_of_ble_eq_true rfl) rfl eu1.symm ?_
  refine x_aload_n C 0 dX3_init_9 rfl rfl ?_
  refine x_iconst (v := (0 : Int32)) C dX3_init_10 (by decide) ?_
  have k68_1 := (congrFun eu1 68).trans (hup_s _ _ _)
  obtain ⟨u2, eu2⟩ : ∃ w : HpT, w = (hup u1 68 (.inr (2, [.int (0 : Int32), .int (0 : Int32), .int (0 : Int32), .int (0 : Int32), .int (0 : Int32), .int (0 : Int32), .int (0 : Int32), .int (0 : Int32), .int (0 : Int32), .int (0 : Int32), .null, .null]))) := ⟨_, rfl⟩
  refine pfX3_15 C dX3_init_11 k68_1 (Nat.le_of_ble_eq_true rfl) rfl eu2.symm ?_
  refine x_aload_n C 0 dX3_init_14 rfl rfl ?_
  refine x_iconst (v := (0 : Int32)) C dX3_init_15 (by decide) ?_
  have k68_2 := (congrFun eu2 68).trans (hup_s _ _ _)
  obtain ⟨u3, eu3⟩ : ∃ w : HpT, w = (hup u2 68 (.inr (2, [.int (0 : Int32), .int (0 : Int32), .int (0 : Int32), .int (0 : Int32), .int (0 : Int32), .int (0 : Int32), .int (0 : Int32), .int (0 : Int32), .int (0 : Int32), .int (0 : Int32), .null, .null]))) := ⟨_, rfl⟩
  refine pfX3_18 C dX3_init_16 k68_2 (Nat.le_of_ble_eq_true rfl) rfl eu3.symm ?_
  refine x_aload_n C 0 dX3_init_19 rfl rfl ?_
  refine x_iconst (v := (0 : Int32)) C dX3_init_20 (by decide) ?_
  have k68_3 := (congrFun eu3 68).trans (hup_s _ _ _)
  obtain ⟨u4, eu4⟩ : ∃ w : HpT, w = (hup u3 68 (.inr (2, [.int (0 : Int32), .int (0 : Int32), .int (0 : Int32), .int (0 : Int32), .int (0 : Int32), .int (0 : Int32), .int (0 : Int32), .int (0 : Int32), .int (0 : Int32), .int (0 : Int32), .null, .null]))) := ⟨_, rfl⟩
  refine pfX3_21 C dX3_init_21 k68_3 (Nat.le_of_ble_eq_true rfl) rfl eu4.symm ?_
  refine x_aload_n C 0 dX3_init_24 rfl rfl ?_
  refine x_iconst (v := (-1 : Int32)) C dX3_init_25 (by decide) ?_
  have k68_4 := (congrFun eu4 68).trans (hup_s _ _ _)
  obtain ⟨u5, eu5⟩ : ∃ w : HpT, w = (hup u4 68 (.inr (2, [.int (0 : Int32), .int (0 : Int32), .int (0 : Int32), .int (0 : Int32), .int (-1 : Int32), .int (0 : Int32), .int (0 : Int32), .int (0 : Int32), .int (0 : Int32), .int (0 : Int32), .null, .null]))) := ⟨_, rfl⟩
  refine pfX3_24 C dX3_init_26 k68_4 (Nat.le_of_ble_eq_true rfl) rfl eu5.symm ?_
  refine x_aload_n C 0 dX3_init_29 rfl rfl ?_
  refine x_iconst (v := (0 : Int32)) C dX3_init_30 (by decide) ?_
  have k68_5 := (congrFun eu5 68).trans (hup_s _ _ _)
  obtain ⟨u6, eu6⟩ : ∃ w : HpT, w = (hup u5 68 (.inr (2, [.int (0 : Int32), .int (0 : Int32), .int (0 : Int32), .int (0 : Int32), .int (-1 : Int32), .int (0 : Int32), .int (0 : Int32), .int (0 : Int32), .int (0 : Int32), .int (0 : Int32), .null, .null]))) := ⟨_, rfl⟩
  refine pfX3_27 C dX3_init_31 k68_5 (Nat.le_of_ble_eq_true rfl) rfl eu6.symm ?_
  refine x_aload_n C 0 dX3_init_34 rfl rfl ?_
  refine x_iconst (v := (-1 : Int32)) C dX3_init_35 (by decide) ?_
  have k68_6 := (congrFun eu6 68).trans (hup_s _ _ _)
  obtain ⟨u7, eu7⟩ : ∃ w : HpT, w = (hup u6 68 (.inr (2, [.int (0 : Int32), .int (0 : Int32), .int (0 : Int32), .int (0 : Int32), .int (-1 : Int32), .int (0 : Int32), .int (-1 : Int32), .int (0 : Int32), .int (0 : Int32), .int (0 : Int32), .null, .null]))) := ⟨_, rfl⟩
  refine pfX3_30 C dX3_init_36 k68_6 (Nat.le_of_ble_eq_true rfl) rfl eu7.symm ?_
  refine x_aload_n C 0 dX3_init_39 rfl rfl ?_
  refine x_iconst (v := (0 : Int32)) C dX3_init_40 (by decide) ?_
  have k68_7 := (congrFun eu7 68).trans (hup_s _ _ _)
  obtain ⟨u8, eu8⟩ : ∃ w : HpT, w = (hup u7 68 (.inr (2, [.int (0 : Int32), .int (0 : Int32), .int (0 : Int32), .int (0 : Int32), .int (-1 : Int32), .int (0 : Int32), .int (-1 : Int32), .int (0 : Int32), .int (0 : Int32), .int (0 : Int32), .null, .null]))) := ⟨_, rfl⟩
  refine pfX3_33 C dX3_init_41 k68_7 (Nat.le_of_ble_eq_true rfl) rfl eu8.symm ?_
  refine x_aload_n C 0 dX3_init_44 rfl rfl ?_
  refine x_iconst (v := (0 : Int32)) C dX3_init_45 (by decide) ?_
  have k68_8 := (congrFun eu8 68).trans (hup_s _ _ _)
  obtain ⟨u9, eu9⟩ : ∃ w : HpT, w = (hup u8 68 (.inr (2, [.int (0 : Int32), .int (0 : Int32), .int (0 : Int32), .int (0 : Int32), .int (-1 : Int32), .int (0 : Int32), .int (-1 : Int32), .int (0 : Int32), .int (0 : Int32), .int (0 : Int32), .null, .null]))) := ⟨_, rfl⟩
  refine pfX3_36 C dX3_init_46 k68_8 (Nat.le_of_ble_eq_true rfl) rfl eu9.symm ?_
  refine x_aload_n C 0 dX3_init_49 rfl rfl ?_
  refine x_iconst (v := (0 : Int32)) C dX3_init_50 (by decide) ?_
  have k68_9 := (congrFun eu9 68).trans (hup_s _ _ _)
  obtain ⟨u10, eu10⟩ : ∃ w : HpT, w = (hup u9 68 (.inr (2, [.int (0 : Int32), .int (0 : Int32), .int (0 : Int32), .int (0 : Int32), .int (-1 : Int32), .int (0 : Int32), .int (-1 : Int32), .int (0 : Int32), .int (0 : Int32), .int (0 : Int32), .null, .null]))) := ⟨_, rfl⟩
  refine pfX3_39 C dX3_init_51 k68_9 (Nat.le_of_ble_eq_true rfl) rfl eu10.symm ?_
  refine x_aload_n C 0 dX3_init_54 rfl rfl ?_
  refine x_bipush (v := (6 : Int32)) C dX3_init_55 (by decide) ?_
  refine x_newI C ka_int 6 (by decide) (by decide) (Nat.le_of_ble_eq_true rfl) (Nat.le_of_ble_eq_true rfl) (Nat.le_of_ble_eq_true rfl) dX3_init_57 ?_
  obtain ⟨u11, eu11⟩ : ∃ w : HpT, w = (hup u10 69 (aI G 6 (fun _ => 0))) := ⟨_, rfl⟩
  refine x_norm (st2 := [.ref (z + 69), .ref (z + 68)]) (kc2 := 1) (ks2 := 6) (n2 := 70) rfl rfl rfl rfl eu11.symm ?_
  have k68_10 := (congrFun eu10 68).trans (hup_s _ _ _)
  have k68_11 := (congrFun eu11 68).trans (hup_n' (by decide) (k68_10))
  obtain ⟨u12, eu12⟩ : ∃ w : HpT, w = (hup u11 68 (.inr (2, [.int (0 : Int32), .int (0 : Int32), .int (0 : Int32), .int (0 : Int32), .int (-1 : Int32), .int (0 : Int32), .int (-1 : Int32), .int (0 : Int32), .int (0 : Int32), .int (0 : Int32), .ref (z + 69), .null]))) := ⟨_, rfl⟩
  refine pfX3_42 C dX3_init_59 hnm k68_11 (Nat.le_of_ble_eq_true rfl) rfl eu12.symm ?_
  refine x_aload_n C 0 dX3_init_62 rfl rfl ?_
  refine x_bipush (v := (6 : Int32)) C dX3_init_63 (by decide) ?_
  refine x_newI C ka_int 6 (by decide) (by decide) (Nat.le_of_ble_eq_true rfl) (Nat.le_of_ble_eq_true rfl) (Nat.le_of_ble_eq_true rfl) dX3_init_65 ?_
  obtain ⟨u13, eu13⟩ : ∃ w : HpT, w = (hup u12 70 (aI G 6 (fun _ => 0))) := ⟨_, rfl⟩
  refine x_norm (st2 := [.ref (z + 70), .ref (z + 68)]) (kc2 := 2) (ks2 := 12) (n2 := 71) rfl rfl rfl rfl eu13.symm ?_
  have k68_12 := (congrFun eu12 68).trans (hup_s _ _ _)
  have k68_13 := (congrFun eu13 68).trans (hup_n' (by decide) (k68_12))
  obtain ⟨u14, eu14⟩ : ∃ w : HpT, w = (hup u13 68 (.inr (2, [.int (0 : Int32), .int (0 : Int32), .int (0 : Int32), .int (0 : Int32), .int (-1 : Int32), .int (0 : Int32), .int (-1 : Int32), .int (0 : Int32), .int (0 : Int32), .int (0 : Int32), .ref (z + 69), .ref (z + 70)]))) := ⟨_, rfl⟩
  refine pfX3_46 C dX3_init_67 hnm k68_13 (Nat.le_of_ble_eq_true rfl) rfl eu14.symm ?_
  exact x_vret C hr hlk (Nat.le_of_ble_eq_true rfl) (Nat.le_of_ble_eq_true rfl) dX3_init_70 rfl (by rw [eu14, eu13, eu12, eu11, eu10, eu9, eu8, eu7, eu6, eu5, eu4, eu3, eu2, eu1]; simp only [hup_hup, hup_sk, ne_eq, Nat.reduceEqDiff, not_false_eq_true]) rfl
set_option maxRecDepth 20000 in
theorem p_X3_init_22 {G : GT} {l : Launch} {z : Nat} (u : HpT) (h71 : u 71 = some (.inr (2, [.int (0 : Int32), .int (0 : Int32), .int (0 : Int32), .int (0 : Int32), .int (0 : Int32), .int (0 : Int32), .int (0 : Int32), .int (0 : Int32), .int (0 : Int32), .int (0 : Int32), .null, .null]))) : Mt G l z yX3_init cX3_init 1 none { frames := 1, cells := 2, slots := 12, locals := 12 } [.ref (z + 71)] u 72 none (hup (hup (hup u 72 (aI G 6 (fun _ => 0))) 73 (aI G 6 (fun _ => 0))) 71 (.inr (2, [.int (0 : Int32), .int (0 : Int32), .int (0 : Int32), .int (0 : Int32), .int (-1 : Int32), .int (0 : Int32), .int (-1 : Int32), .int (0 : Int32), .int (0 : Int32), .int (0 : Int32), .ref (z + 72), .ref (z + 73)]))) 74 := by
  refine mt_of (by decide +kernel) (Nat.le_of_ble_eq_true rfl) ?_
  intro p e s m below meth c C hr hlk hnm
  refine x_aload_n C 0 dX3_init_0 rfl rfl ?_
  refine x_objInit C kmX3_3 kObjI kObjC (Nat.le_of_ble_eq_true rfl) (Nat.le_of_ble_eq_true rfl) dX3_init_1 ?_
  refine x_aload_n C 0 dX3_init_4 rfl rfl ?_
  refine x_iconst (v := (0 : Int32)) C dX3_init_5 (by decide) ?_
  obtain ⟨u1, eu1⟩ : ∃ w : HpT, w = (hup u 71 (.inr (2, [.int (0 : Int32), .int (0 : Int32), .int (0 : Int32), .int (0 : Int32), .int (0 : Int32), .int (0 : Int32), .int (0 : Int32), .int (0 : Int32), .int (0 : Int32), .int (0 : Int32), .null, .null]))) := ⟨_, rfl⟩
  refine pfX3_9 C dX3_init_6 h71 (Nat.le_of_ble_eq_true rfl) rfl eu1.symm ?_
  refine x_aload_n C 0 dX3_init_9 rfl rfl ?_
  refine x_iconst (v := (0 : Int32)) C dX3_init_10 (by decide) ?_
  have k71_1 := (congrFun eu1 71).trans (hup_s _ _ _)
  obtain ⟨u2, eu2⟩ : ∃ w : HpT, w = (hup u1 71 (.inr (2, [.int (0 : Int32), .int (0 : Int32), .int (0 : Int32), .int (0 : Int32), .int (0 : Int32), .int (0 : Int32), .int (0 : Int32), .int (0 : Int32), .int (0 : Int32), .int (0 : Int32), .null, .null]))) := ⟨_, rfl⟩
  refine pfX3_15 C dX3_init_11 k71_1 (Nat.le_of_ble_eq_true rfl) rfl eu2.symm ?_
  refine x_aload_n C 0 dX3_init_14 rfl rfl ?_
  refine x_iconst (v := (0 : Int32)) C dX3_init_15 (by decide) ?_
  have k71_2 := (congrFun eu2 71).trans (hup_s _ _ _)
  obtain ⟨u3, eu3⟩ : ∃ w : HpT, w = (hup u2 71 (.inr (2, [.int (0 : Int32), .int (0 : Int32), .int (0 : Int32), .int (0 : Int32), .int (0 : Int32), .int (0 : Int32), .int (0 : Int32), .int (0 : Int32), .int (0 : Int32), .int (0 : Int32), .null, .null]))) := ⟨_, rfl⟩
  refine pfX3_18 C dX3_init_16 k71_2 (Nat.le_of_ble_eq_true rfl) rfl eu3.symm ?_
  refine x_aload_n C 0 dX3_init_19 rfl rfl ?_
  refine x_iconst (v := (0 : Int32)) C dX3_init_20 (by decide) ?_
  have k71_3 := (congrFun eu3 71).trans (hup_s _ _ _)
  obtain ⟨u4, eu4⟩ : ∃ w : HpT, w = (hup u3 71 (.inr (2, [.int (0 : Int32), .int (0 : Int32), .int (0 : Int32), .int (0 : Int32), .int (0 : Int32), .int (0 : Int32), .int (0 : Int32), .int (0 : Int32), .int (0 : Int32), .int (0 : Int32), .null, .null]))) := ⟨_, rfl⟩
  refine pfX3_21 C dX3_init_21 k71_3 (Nat.le_of_ble_eq_true rfl) rfl eu4.symm ?_
  refine x_aload_n C 0 dX3_init_24 rfl rfl ?_
  refine x_iconst (v := (-1 : Int32)) C dX3_init_25 (by decide) ?_
  have k71_4 := (congrFun eu4 71).trans (hup_s _ _ _)
  obtain ⟨u5, eu5⟩ : ∃ w : HpT, w = (hup u4 71 (.inr (2, [.int (0 : Int32), .int (0 : Int32), .int (0 : Int32), .int (0 : Int32), .int (-1 : Int32), .int (0 : Int32), .int (0 : Int32), .int (0 : Int32), .int (0 : Int32), .int (0 : Int32), .null, .null]))) := ⟨_, rfl⟩
  refine pfX3_24 C dX3_init_26 k71_4 (Nat.le_of_ble_eq_true rfl) rfl eu5.symm ?_
  refine x_aload_n C 0 dX3_init_29 rfl rfl ?_
  refine x_iconst (v := (0 : Int32)) C dX3_init_30 (by decide) ?_
  have k71_5 := (congrFun eu5 71).trans (hup_s _ _ _)
  obtain ⟨u6, eu6⟩ : ∃ w : HpT, w = (hup u5 71 (.inr (2, [.int (0 : Int32), .int (0 : Int32), .int (0 : Int32), .int (0 : Int32), .int (-1 : Int32), .int (0 : Int32), .int (0 : Int32), .int (0 : Int32), .int (0 : Int32), .int (0 : Int32), .null, .null]))) := ⟨_, rfl⟩
  refine pfX3_27 C dX3_init_31 k71_5 (Nat.le_of_ble_eq_true rfl) rfl eu6.symm ?_
  refine x_aload_n C 0 dX3_init_34 rfl rfl ?_
  refine x_iconst (v := (-1 : Int32)) C dX3_init_35 (by decide) ?_
  have k71_6 := (congrFun eu6 71).trans (hup_s _ _ _)
  obtain ⟨u7, eu7⟩ : ∃ w : HpT, w = (hup u6 71 (.inr (2, [.int (0 : Int32), .int (0 : Int32), .int (0 : Int32), .int (0 : Int32), .int (-1 : Int32), .int (0 : Int32), .int (-1 : Int32), .int (0 : Int32), .int (0 : Int32), .int (0 : Int32), .null, .null]))) := ⟨_, rfl⟩
  refine pfX3_30 C dX3_init_36 k71_6 (Nat.le_of_ble_eq_true rfl) rfl eu7.symm ?_
  refine x_aload_n C 0 dX3_init_39 rfl rfl ?_
  refine x_iconst (v := (0 : Int32)) C dX3_init_40 (by decide) ?_
  have k71_7 := (congrFun eu7 71).trans (hup_s _ _ _)
  obtain ⟨u8, eu8⟩ : ∃ w : HpT, w = (hup u7 71 (.inr (2, [.int (0 : Int32), .int (0 : Int32), .int (0 : Int32), .int (0 : Int32), .int (-1 : Int32), .int (0 : Int32), .int (-1 : Int32), .int (0 : Int32), .int (0 : Int32), .int (0 : Int32), .null, .null]))) := ⟨_, rfl⟩
  refine pfX3_33 C dX3_init_41 k71_7 (Nat.le_of_ble_eq_true rfl) rfl eu8.symm ?_
  refine x_aload_n C 0 dX3_init_44 rfl rfl ?_
  refine x_iconst (v := (0 : Int32)) C dX3_init_45 (by decide) ?_
  have k71_8 := (congrFun eu8 71).trans (hup_s _ _ _)
  obtain ⟨u9, eu9⟩ : ∃ w : HpT, w = (hup u8 71 (.inr (2, [.int (0 : Int32), .int (0 : Int32), .int (0 : Int32), .int (0 : Int32), .int (-1 : Int32), .int (0 : Int32), .int (-1 : Int32), .int (0 : Int32), .int (0 : Int32), .int (0 : Int32), .null, .null]))) := ⟨_, rfl⟩
  refine pfX3_36 C dX3_init_46 k71_8 (Nat.le_of_ble_eq_true rfl) rfl eu9.symm ?_
  refine x_aload_n C 0 dX3_init_49 rfl rfl ?_
  refine x_iconst (v := (0 : Int32)) C dX3_init_50 (by decide) ?_
  have k71_9 := (congrFun eu9 71).trans (hup_s _ _ _)
  obtain ⟨u10, eu10⟩ : ∃ w : HpT, w = (hup u9 71 (.inr (2, [.int (0 : Int32), .int (0 : Int32), .int (0 : Int32), .int (0 : Int32), .int (-1 : Int32), .int (0 : Int32), .int (-1 : Int32), .int (0 : Int32), .int (0 : Int32), .int (0 : Int32), .null, .null]))) := ⟨_, rfl⟩
  refine pfX3_39 C dX3_init_51 k71_9 (Nat.le_of_ble_eq_true rfl) rfl eu10.symm ?_
  refine x_aload_n C 0 dX3_init_54 rfl rfl ?_
  refine x_bipush (v := (6 : Int32)) C dX3_init_55 (by decide) ?_
  refine x_newI C ka_int 6 (by decide) (by decide) (Nat.le_of_ble_eq_true rfl) (Nat.le_of_ble_eq_true rfl) (Nat.le_of_ble_eq_true rfl) dX3_init_57 ?_
  obtain ⟨u11, eu11⟩ : ∃ w : HpT, w = (hup u10 72 (aI G 6 (fun _ => 0))) := ⟨_, rfl⟩
  refine x_norm (st2 := [.ref (z + 72), .ref (z + 71)]) (kc2 := 1) (ks2 := 6) (n2 := 73) rfl rfl rfl rfl eu11.symm ?_
  have k71_10 := (congrFun eu10 71).trans (hup_s _ _ _)
  have k71_11 := (congrFun eu11 71).trans (hup_n' (by decide) (k71_10))
  obtain ⟨u12, eu12⟩ : ∃ w : HpT, w = (hup u11 71 (.inr (2, [.int (0 : Int32), .int (0 : Int32), .int (0 : Int32), .int (0 : Int32), .int (-1 : Int32), .int (0 : Int32), .int (-1 : Int32), .int (0 : Int32), .int (0 : Int32), .int (0 : Int32), .ref (z + 72), .null]))) := ⟨_, rfl⟩
  refine pfX3_42 C dX3_init_59 hnm k71_11 (Nat.le_of_ble_eq_true rfl) rfl eu12.symm ?_
  refine x_aload_n C 0 dX3_init_62 rfl rfl ?_
  refine x_bipush (v := (6 : Int32)) C dX3_init_63 (by decide) ?_
  refine x_newI C ka_int 6 (by decide) (by decide) (Nat.le_of_ble_eq_true rfl) (Nat.le_of_ble_eq_true rfl) (Nat.le_of_ble_eq_true rfl) dX3_init_65 ?_
  obtain ⟨u13, eu13⟩ : ∃ w : HpT, w = (hup u12 73 (aI G 6 (fun _ => 0))) := ⟨_, rfl⟩
  refine x_norm (st2 := [.ref (z + 73), .ref (z + 71)]) (kc2 := 2) (ks2 := 12) (n2 := 74) rfl rfl rfl rfl eu13.symm ?_
  have k71_12 := (congrFun eu12 71).trans (hup_s _ _ _)
  have k71_13 := (congrFun eu13 71).trans (hup_n' (by decide) (k71_12))
  obtain ⟨u14, eu14⟩ : ∃ w : HpT, w = (hup u13 71 (.inr (2, [.int (0 : Int32), .int (0 : Int32), .int (0 : Int32), .int (0 : Int32), .int (-1 : Int32), .int (0 : Int32), .int (-1 : Int32), .int (0 : Int32), .int (0 : Int32), .int (0 : Int32), .ref (z + 72), .ref (z + 73)]))) := ⟨_, rfl⟩
  refine pfX3_46 C dX3_init_67 hnm k71_13 (Nat.le_of_ble_eq_true rfl) rfl eu14.symm ?_
  exact x_vret C hr hlk (Nat.le_of_ble_eq_true rfl) (Nat.le_of_ble_eq_true rfl) dX3_init_70 rfl (by rw [eu14, eu13, eu12, eu11, eu10, eu9, eu8, eu7, eu6, eu5, eu4, eu3, eu2, eu1]; simp only [hup_hup, hup_sk, ne_eq, Nat.reduceEqDiff, not_false_eq_true]) rfl
set_option maxRecDepth 20000 in
theorem p_X3_init_23 {G : GT} {l : Launch} {z : Nat} (u : HpT) (h74 : u 74 = some (.inr (2, [.int (0 : Int32), .int (0 : Int32), .int (0 : Int32), .int (0 : Int32), .int (0 : Int32), .int (0 : Int32), .int (0 : Int32), .int (0 : Int32), .int (0 : Int32), .int (0 : Int32), .null, .null]))) : Mt G l z yX3_init cX3_init 1 none { frames := 1, cells := 2, slots := 12, locals := 12 } [.ref (z + 74)] u 75 none (hup (hup (hup u 75 (aI G 6 (fun _ => 0))) 76 (aI G 6 (fun _ => 0))) 74 (.inr (2, [.int (0 : Int32), .int (0 : Int32), .int (0 : Int32), .int (0 : Int32), .int (-1 : Int32), .int (0 : Int32), .int (-1 : Int32), .int (0 : Int32), .int (0 : Int32), .int (0 : Int32), .ref (z + 75), .ref (z + 76)]))) 77 := by
  refine mt_of (by decide +kernel) (Nat.le_of_ble_eq_true rfl) ?_
  intro p e s m below meth c C hr hlk hnm
  refine x_aload_n C 0 dX3_init_0 rfl rfl ?_
  refine x_objInit C kmX3_3 kObjI kObjC (Nat.le_of_ble_eq_true rfl) (Nat.le_of_ble_eq_true rfl) dX3_init_1 ?_
  refine x_aload_n C 0 dX3_init_4 rfl rfl ?_
  refine x_iconst (v := (0 : Int32)) C dX3_init_5 (by decide) ?_
  obtain ⟨u1, eu1⟩ : ∃ w : HpT, w = (hup u 74 (.inr (2, [.int (0 : Int32), .int (0 : Int32), .int (0 : Int32), .int (0 : Int32), .int (0 : Int32), .int (0 : Int32), .int (0 : Int32), .int (0 : Int32), .int (0 : Int32), .int (0 : Int32), .null, .null]))) := ⟨_, rfl⟩
  refine pfX3_9 C dX3_init_6 h74 (Nat.le_of_ble_eq_true rfl) rfl eu1.symm ?_
  refine x_aload_n C 0 dX3_init_9 rfl rfl ?_
  refine x_iconst (v := (0 : Int32)) C dX3_init_10 (by decide) ?_
  have k74_1 := (congrFun eu1 74).trans (hup_s _ _ _)
  obtain ⟨u2, eu2⟩ : ∃ w : HpT, w = (hup u1 74 (.inr (2, [.int (0 : Int32), .int (0 : Int32), .int (0 : Int32), .int (0 : Int32), .int (0 : Int32), .int (0 : Int32), .int (0 : Int32), .int (0 : Int32), .int (0 : Int32), .int (0 : Int32), .null, .null]))) := ⟨_, rfl⟩
  refine pfX3_15 C dX3_init_11 k74_1 (Nat.le_of_ble_eq_true rfl) rfl eu2.symm ?_
  refine x_aload_n C 0 dX3_init_14 rfl rfl ?_
  refine x_iconst (v := (0 : Int32)) C dX3_init_15 (by decide) ?_
  have k74_2 := (congrFun eu2 74).trans (hup_s _ _ _)
  obtain ⟨u3, eu3⟩ : ∃ w : HpT, w = (hup u2 74 (.inr (2, [.int (0 : Int32), .int (0 : Int32), .int (0 : Int32), .int (0 : Int32), .int (0 : Int32), .int (0 : Int32), .int (0 : Int32), .int (0 : Int32), .int (0 : Int32), .int (0 : Int32), .null, .null]))) := ⟨_, rfl⟩
  refine pfX3_18 C dX3_init_16 k74_2 (Nat.le_of_ble_eq_true rfl) rfl eu3.symm ?_
  refine x_aload_n C 0 dX3_init_19 rfl rfl ?_
  refine x_iconst (v := (0 : Int32)) C dX3_init_20 (by decide) ?_
  have k74_3 := (congrFun eu3 74).trans (hup_s _ _ _)
  obtain ⟨u4, eu4⟩ : ∃ w : HpT, w = (hup u3 74 (.inr (2, [.int (0 : Int32), .int (0 : Int32), .int (0 : Int32), .int (0 : Int32), .int (0 : Int32), .int (0 : Int32), .int (0 : Int32), .int (0 : Int32), .int (0 : Int32), .int (0 : Int32), .null, .null]))) := ⟨_, rfl⟩
  refine pfX3_21 C dX3_init_21 k74_3 (Nat.le_of_ble_eq_true rfl) rfl eu4.symm ?_
  refine x_aload_n C 0 dX3_init_24 rfl rfl ?_
  refine x_iconst (v := (-1 : Int32)) C dX3_init_25 (by decide) ?_
  have k74_4 := (congrFun eu4 74).trans (hup_s _ _ _)
  obtain ⟨u5, eu5⟩ : ∃ w : HpT, w = (hup u4 74 (.inr (2, [.int (0 : Int32), .int (0 : Int32), .int (0 : Int32), .int (0 : Int32), .int (-1 : Int32), .int (0 : Int32), .int (0 : Int32), .int (0 : Int32), .int (0 : Int32), .int (0 : Int32), .null, .null]))) := ⟨_, rfl⟩
  refine pfX3_24 C dX3_init_26 k74_4 (Nat.le_of_ble_eq_true rfl) rfl eu5.symm ?_
  refine x_aload_n C 0 dX3_init_29 rfl rfl ?_
  refine x_iconst (v := (0 : Int32)) C dX3_init_30 (by decide) ?_
  have k74_5 := (congrFun eu5 74).trans (hup_s _ _ _)
  obtain ⟨u6, eu6⟩ : ∃ w : HpT, w = (hup u5 74 (.inr (2, [.int (0 : Int32), .int (0 : Int32), .int (0 : Int32), .int (0 : Int32), .int (-1 : Int32), .int (0 : Int32), .int (0 : Int32), .int (0 : Int32), .int (0 : Int32), .int (0 : Int32), .null, .null]))) := ⟨_, rfl⟩
  refine pfX3_27 C dX3_init_31 k74_5 (Nat.le_of_ble_eq_true rfl) rfl eu6.symm ?_
  refine x_aload_n C 0 dX3_init_34 rfl rfl ?_
  refine x_iconst (v := (-1 : Int32)) C dX3_init_35 (by decide) ?_
  have k74_6 := (congrFun eu6 74).trans (hup_s _ _ _)
  obtain ⟨u7, eu7⟩ : ∃ w : HpT, w = (hup u6 74 (.inr (2, [.int (0 : Int32), .int (0 : Int32), .int (0 : Int32), .int (0 : Int32), .int (-1 : Int32), .int (0 : Int32), .int (-1 : Int32), .int (0 : Int32), .int (0 : Int32), .int (0 : Int32), .null, .null]))) := ⟨_, rfl⟩
  refine pfX3_30 C dX3_init_36 k74_6 (Nat.le_of_ble_eq_true rfl) rfl eu7.symm ?_
  refine x_aload_n C 0 dX3_init_39 rfl rfl ?_
  refine x_iconst (v := (0 : Int32)) C dX3_init_40 (by decide) ?_
  have k74_7 := (congrFun eu7 74).trans (hup_s _ _ _)
  obtain ⟨u8, eu8⟩ : ∃ w : HpT, w = (hup u7 74 (.inr (2, [.int (0 : Int32), .int (0 : Int32), .int (0 : Int32), .int (0 : Int32), .int (-1 : Int32), .int (0 : Int32), .int (-1 : Int32), .int (0 : Int32), .int (0 : Int32), .int (0 : Int32), .null, .null]))) := ⟨_, rfl⟩
  refine pfX3_33 C dX3_init_41 k74_7 (Nat.le_of_ble_eq_true rfl) rfl eu8.symm ?_
  refine x_aload_n C 0 dX3_init_44 rfl rfl ?_
  refine x_iconst (v := (0 : Int32)) C dX3_init_45 (by decide) ?_
  have k74_8 := (congrFun eu8 74).trans (hup_s _ _ _)
  obtain ⟨u9, eu9⟩ : ∃ w : HpT, w = (hup u8 74 (.inr (2, [.int (0 : Int32), .int (0 : Int32), .int (0 : Int32), .int (0 : Int32), .int (-1 : Int32), .int (0 : Int32), .int (-1 : Int32), .int (0 : Int32), .int (0 : Int32), .int (0 : Int32), .null, .null]))) := ⟨_, rfl⟩
  refine pfX3_36 C dX3_init_46 k74_8 (Nat.le_of_ble_eq_true rfl) rfl eu9.symm ?_
  refine x_aload_n C 0 dX3_init_49 rfl rfl ?_
  refine x_iconst (v := (0 : Int32)) C dX3_init_50 (by decide) ?_
  have k74_9 := (congrFun eu9 74).trans (hup_s _ _ _)
  obtain ⟨u10, eu10⟩ : ∃ w : HpT, w = (hup u9 74 (.inr (2, [.int (0 : Int32), .int (0 : Int32), .int (0 : Int32), .int (0 : Int32), .int (-1 : Int32), .int (0 : Int32), .int (-1 : Int32), .int (0 : Int32), .int (0 : Int32), .int (0 : Int32), .null, .null]))) := ⟨_, rfl⟩
  refine pfX3_39 C dX3_init_51 k74_9 (Nat.le_of_ble_eq_true rfl) rfl eu10.symm ?_
  refine x_aload_n C 0 dX3_init_54 rfl rfl ?_
  refine x_bipush (v := (6 : Int32)) C dX3_init_55 (by decide) ?_
  refine x_newI C ka_int 6 (by decide) (by decide) (Nat.le_of_ble_eq_true rfl) (Nat.le_of_ble_eq_true rfl) (Nat.le_of_ble_eq_true rfl) dX3_init_57 ?_
  obtain ⟨u11, eu11⟩ : ∃ w : HpT, w = (hup u10 75 (aI G 6 (fun _ => 0))) := ⟨_, rfl⟩
  refine x_norm (st2 := [.ref (z + 75), .ref (z + 74)]) (kc2 := 1) (ks2 := 6) (n2 := 76) rfl rfl rfl rfl eu11.symm ?_
  have k74_10 := (congrFun eu10 74).trans (hup_s _ _ _)
  have k74_11 := (congrFun eu11 74).trans (hup_n' (by decide) (k74_10))
  obtain ⟨u12, eu12⟩ : ∃ w : HpT, w = (hup u11 74 (.inr (2, [.int (0 : Int32), .int (0 : Int32), .int (0 : Int32), .int (0 : Int32), .int (-1 : Int32), .int (0 : Int32), .int (-1 : Int32), .int (0 : Int32), .int (0 : Int32), .int (0 : Int32), .ref (z + 75), .null]))) := ⟨_, rfl⟩
  refine pfX3_42 C dX3_init_59 hnm k74_11 (Nat.le_of_ble_eq_true rfl) rfl eu12.symm ?_
  refine x_aload_n C 0 dX3_init_62 rfl rfl ?_
  refine x_bipush (v := (6 : Int32)) C dX3_init_63 (by decide) ?_
  refine x_newI C ka_int 6 (by decide) (by decide) (Nat.le_of_ble_eq_true rfl) (Nat.le_of_ble_eq_true rfl) (Nat.le_of_ble_eq_true rfl) dX3_init_65 ?_
  obtain ⟨u13, eu13⟩ : ∃ w : HpT, w = (hup u12 76 (aI G 6 (fun _ => 0))) := ⟨_, rfl⟩
  refine x_norm (st2 := [.ref (z + 76), .ref (z + 74)]) (kc2 := 2) (ks2 := 12) (n2 := 77) rfl rfl rfl rfl eu13.symm ?_
  have k74_12 := (congrFun eu12 74).trans (hup_s _ _ _)
  have k74_13 := (congrFun eu13 74).trans (hup_n' (by decide) (k74_12))
  obtain ⟨u14, eu14⟩ : ∃ w : HpT, w = (hup u13 74 (.inr (2, [.int (0 : Int32), .int (0 : Int32), .int (0 : Int32), .int (0 : Int32), .int (-1 : Int32), .int (0 : Int32), .int (-1 : Int32), .int (0 : Int32), .int (0 : Int32), .int (0 : Int32), .ref (z + 75), .ref (z + 76)]))) := ⟨_, rfl⟩
  refine pfX3_46 C dX3_init_67 hnm k74_13 (Nat.le_of_ble_eq_true rfl) rfl eu14.symm ?_
  exact x_vret C hr hlk (Nat.le_of_ble_eq_true rfl) (Nat.le_of_ble_eq_true rfl) dX3_init_70 rfl (by rw [eu14, eu13, eu12, eu11, eu10, eu9, eu8, eu7, eu6, eu5, eu4, eu3, eu2, eu1]; simp only [hup_hup, hup_sk, ne_eq, Nat.reduceEqDiff, not_false_eq_true]) rfl
set_option maxRecDepth 20000 in
theorem p_X3_init_24 {G : GT} {l : Launch} {z : Nat} (u : HpT) (h77 : u 77 = some (.inr (2, [.int (0 : Int32), .int (0 : Int32), .int (0 : Int32), .int (0 : Int32), .int (0 : Int32), .int (0 : Int32), .int (0 : Int32), .int (0 : Int32), .int (0 : Int32), .int (0 : Int32), .null, .null]))) : Mt G l z yX3_init cX3_init 1 none { frames := 1, cells := 2, slots := 12, locals := 12 } [.ref (z + 77)] u 78 none (hup (hup (hup u 78 (aI G 6 (fun _ => 0))) 79 (aI G 6 (fun _ => 0))) 77 (.inr (2, [.int (0 : Int32), .int (0 : Int32), .int (0 : Int32), .int (0 : Int32), .int (-1 : Int32), .int (0 : Int32), .int (-1 : Int32), .int (0 : Int32), .int (0 : Int32), .int (0 : Int32), .ref (z + 78), .ref (z + 79)]))) 80 := by
  refine mt_of (by decide +kernel) (Nat.le_of_ble_eq_true rfl) ?_
  intro p e s m below meth c C hr hlk hnm
  refine x_aload_n C 0 dX3_init_0 rfl rfl ?_
  refine x_objInit C kmX3_3 kObjI kObjC (Nat.le_of_ble_eq_true rfl) (Nat.le_of_ble_eq_true rfl) dX3_init_1 ?_
  refine x_aload_n C 0 dX3_init_4 rfl rfl ?_
  refine x_iconst (v := (0 : Int32)) C dX3_init_5 (by decide) ?_
  obtain ⟨u1, eu1⟩ : ∃ w : HpT, w = (hup u 77 (.inr (2, [.int (0 : Int32), .int (0 : Int32), .int (0 : Int32), .int (0 : Int32), .int (0 : Int32), .int (0 : Int32), .int (0 : Int32), .int (0 : Int32), .int (0 : Int32), .int (0 : Int32), .null, .null]))) := ⟨_, rfl⟩
  refine pfX3_9 C dX3_init_6 h77 (Nat.le_of_ble_eq_true rfl) rfl eu1.symm ?_
  refine x_aload_n C 0 dX3_init_9 rfl rfl ?_
  refine x_iconst (v := (0 : Int32)) C dX3_init_10 (by decide) ?_
  have k77_1 := (congrFun eu1 77).trans (hup_s _ _ _)
  obtain ⟨u2, eu2⟩ : ∃ w : HpT, w = (hup u1 77 (.inr (2, [.int (0 : Int32), .int (0 : Int32), .int (0 : Int32), .int (0 : Int32), .int (0 : Int32), .int (0 : Int32), .int (0 : Int32), .int (0 : Int32), .int (0 : Int32), .int (0 : Int32), .null, .null]))) := ⟨_, rfl⟩
  refine pfX3_15 C dX3_init_11 k77_1 (Nat.le_of_ble_eq_true rfl) rfl eu2.symm ?_
  refine x_aload_n C 0 dX3_init_14 rfl rfl ?_
  refine x_iconst (v := (0 : Int32)) C dX3_init_15 (by decide) ?_
  have k77_2 := (congrFun eu2 77).trans (hup_s _ _ _)
  obtain ⟨u3, eu3⟩ : ∃ w : HpT, w = (hup u2 77 (.inr (2, [.int (0 : Int32), .int (0 : Int32), .int (0 : Int32), .int (0 : Int32), .int (0 : Int32), .int (0 : Int32), .int (0 : Int32), .int (0 : Int32), .int (0 : Int32), .int (0 : Int32), .null, .null]))) := ⟨_, rfl⟩
  refine pfX3_18 C dX3_init_16 k77_2 (Nat.le_of_ble_eq_true rfl) rfl eu3.symm ?_
  refine x_aload_n C 0 dX3_init_19 rfl rfl ?_
  refine x_iconst (v := (0 : Int32)) C dX3_init_20 (by decide) ?_
  have k77_3 := (congrFun eu3 77).trans (hup_s _ _ _)
  obtain ⟨u4, eu4⟩ : ∃ w : HpT, w = (hup u3 77 (.inr (2, [.int (0 : Int32), .int (0 : Int32), .int (0 : Int32), .int (0 : Int32), .int (0 : Int32), .int (0 : Int32), .int (0 : Int32), .int (0 : Int32), .int (0 : Int32), .int (0 : Int32), .null, .null]))) := ⟨_, rfl⟩
  refine pfX3_21 C dX3_init_21 k77_3 (Nat.le_of_ble_eq_true rfl) rfl eu4.symm ?_
  refine x_aload_n C 0 dX3_init_24 rfl rfl ?_
  refine x_iconst (v := (-1 : Int32)) C dX3_init_25 (by decide) ?_
  have k77_4 := (congrFun eu4 77).trans (hup_s _ _ _)
  obtain ⟨u5, eu5⟩ : ∃ w : HpT, w = (hup u4 77 (.inr (2, [.int (0 : Int32), .int (0 : Int32), .int (0 : Int32), .int (0 : Int32), .int (-1 : Int32), .int (0 : Int32), .int (0 : Int32), .int (0 : Int32), .int (0 : Int32), .int (0 : Int32), .null, .null]))) := ⟨_, rfl⟩
  refine pfX3_24 C dX3_init_26 k77_4 (Nat.le_of_ble_eq_true rfl) rfl eu5.symm ?_
  refine x_aload_n C 0 dX3_init_29 rfl rfl ?_
  refine x_iconst (v := (0 : Int32)) C dX3_init_30 (by decide) ?_
  have k77_5 := (congrFun eu5 77).trans (hup_s _ _ _)
  obtain ⟨u6, eu6⟩ : ∃ w : HpT, w = (hup u5 77 (.inr (2, [.int (0 : Int32), .int (0 : Int32), .int (0 : Int32), .int (0 : Int32), .int (-1 : Int32), .int (0 : Int32), .int (0 : Int32), .int (0 : Int32), .int (0 : Int32), .int (0 : Int32), .null, .null]))) := ⟨_, rfl⟩
  refine pfX3_27 C dX3_init_31 k77_5 (Nat.le_of_ble_eq_true rfl) rfl eu6.symm ?_
  refine x_aload_n C 0 dX3_init_34 rfl rfl ?_
  refine x_iconst (v := (-1 : Int32)) C dX3_init_35 (by decide) ?_
  have k77_6 := (congrFun eu6 77).trans (hup_s _ _ _)
  obtain ⟨u7, eu7⟩ : ∃ w : HpT, w = (hup u6 77 (.inr (2, [.int (0 : Int32), .int (0 : Int32), .int (0 : Int32), .int (0 : Int32), .int (-1 : Int32), .int (0 : Int32), .int (-1 : Int32), .int (0 : Int32), .int (0 : Int32), .int (0 : Int32), .null, .null]))) := ⟨_, rfl⟩
  refine pfX3_30 C dX3_init_36 k77_6 (Nat.le_of_ble_eq_true rfl) rfl eu7.symm ?_
  refine x_aload_n C 0 dX3_init_39 rfl rfl ?_
  refine x_iconst (v := (0 : Int32)) C dX3_init_40 (by decide) ?_
  have k77_7 := (congrFun eu7 77).trans (hup_s _ _ _)
  obtain ⟨u8, eu8⟩ : ∃ w : HpT, w = (hup u7 77 (.inr (2, [.int (0 : Int32), .int (0 : Int32), .int (0 : Int32), .int (0 : Int32), .int (-1 : Int32), .int (0 : Int32), .int (-1 : Int32), .int (0 : Int32), .int (0 : Int32), .int (0 : Int32), .null, .null]))) := ⟨_, rfl⟩
  refine pfX3_33 C dX3_init_41 k77_7 (Nat.le_of_ble_eq_true rfl) rfl eu8.symm ?_
  refine x_aload_n C 0 dX3_init_44 rfl rfl ?_
  refine x_iconst (v := (0 : Int32)) C dX3_init_45 (by decide) ?_
  have k77_8 := (congrFun eu8 77).trans (hup_s _ _ _)
  obtain ⟨u9, eu9⟩ : ∃ w : HpT, w = (hup u8 77 (.inr (2, [.int (0 : Int32), .int (0 : Int32), .int (0 : Int32), .int (0 : Int32), .int (-1 : Int32), .int (0 : Int32), .int (-1 : Int32), .int (0 : Int32), .int (0 : Int32), .int (0 : Int32), .null, .null]))) := ⟨_, rfl⟩
  refine pfX3_36 C dX3_init_46 k77_8 (Nat.le_of_ble_eq_true rfl) rfl eu9.symm ?_
  refine x_aload_n C 0 dX3_init_49 rfl rfl ?_
  refine x_iconst (v := (0 : Int32)) C dX3_init_50 (by decide) ?_
  have k77_9 := (congrFun eu9 77).trans (hup_s _ _ _)
  obtain ⟨u10, eu10⟩ : ∃ w : HpT, w = (hup u9 77 (.inr (2, [.int (0 : Int32), .int (0 : Int32), .int (0 : Int32), .int (0 : Int32), .int (-1 : Int32), .int (0 : Int32), .int (-1 : Int32), .int (0 : Int32), .int (0 : Int32), .int (0 : Int32), .null, .null]))) := ⟨_, rfl⟩
  refine pfX3_39 C dX3_init_51 k77_9 (Nat.le_of_ble_eq_true rfl) rfl eu10.symm ?_
  refine x_aload_n C 0 dX3_init_54 rfl rfl ?_
  refine x_bipush (v := (6 : Int32)) C dX3_init_55 (by decide) ?_
  refine x_newI C ka_int 6 (by decide) (by decide) (Nat.le_of_ble_eq_true rfl) (Nat.le_of_ble_eq_true rfl) (Nat.le_of_ble_eq_true rfl) dX3_init_57 ?_
  obtain ⟨u11, eu11⟩ : ∃ w : HpT, w = (hup u10 78 (aI G 6 (fun _ => 0))) := ⟨_, rfl⟩
  refine x_norm (st2 := [.ref (z + 78), .ref (z + 77)]) (kc2 := 1) (ks2 := 6) (n2 := 79) rfl rfl rfl rfl eu11.symm ?_
  have k77_10 := (congrFun eu10 77).trans (hup_s _ _ _)
  have k77_11 := (congrFun eu11 77).trans (hup_n' (by decide) (k77_10))
  obtain ⟨u12, eu12⟩ : ∃ w : HpT, w = (hup u11 77 (.inr (2, [.int (0 : Int32), .int (0 : Int32), .int (0 : Int32), .int (0 : Int32), .int (-1 : Int32), .int (0 : Int32), .int (-1 : Int32), .int (0 : Int32), .int (0 : Int32), .int (0 : Int32), .ref (z + 78), .null]))) := ⟨_, rfl⟩
  refine pfX3_42 C dX3_init_59 hnm k77_11 (Nat.le_of_ble_eq_true rfl) rfl eu12.symm ?_
  refine x_aload_n C 0 dX3_init_62 rfl rfl ?_
  refine x_bipush (v := (6 : Int32)) C dX3_init_63 (by decide) ?_
  refine x_newI C ka_int 6 (by decide) (by decide) (Nat.le_of_ble_eq_true rfl) (Nat.le_of_ble_eq_true rfl) (Nat.le_of_ble_eq_true rfl) dX3_init_65 ?_
  obtain ⟨u13, eu13⟩ : ∃ w : HpT, w = (hup u12 79 (aI G 6 (fun _ => 0))) := ⟨_, rfl⟩
  refine x_norm (st2 := [.ref (z + 79), .ref (z + 77)]) (kc2 := 2) (ks2 := 12) (n2 := 80) rfl rfl rfl rfl eu13.symm ?_
  have k77_12 := (congrFun eu12 77).trans (hup_s _ _ _)
  have k77_13 := (congrFun eu13 77).trans (hup_n' (by decide) (k77_12))
  obtain ⟨u14, eu14⟩ : ∃ w : HpT, w = (hup u13 77 (.inr (2, [.int (0 : Int32), .int (0 : Int32), .int (0 : Int32), .int (0 : Int32), .int (-1 : Int32), .int (0 : Int32), .int (-1 : Int32), .int (0 : Int32), .int (0 : Int32), .int (0 : Int32), .ref (z + 78), .ref (z + 79)]))) := ⟨_, rfl⟩
  refine pfX3_46 C dX3_init_67 hnm k77_13 (Nat.le_of_ble_eq_true rfl) rfl eu14.symm ?_
  exact x_vret C hr hlk (Nat.le_of_ble_eq_true rfl) (Nat.le_of_ble_eq_true rfl) dX3_init_70 rfl (by rw [eu14, eu13, eu12, eu11, eu10, eu9, eu8, eu7, eu6, eu5, eu4, eu3, eu2, eu1]; simp only [hup_hup, hup_sk, ne_eq, Nat.reduceEqDiff, not_false_eq_true]) rfl
set_option maxRecDepth 20000 in
theorem p_X3_init_25 {G : GT} {l : Launch} {z : Nat} (u : HpT) (h80 : u 80 = some (.inr (2, [.int (0 : Int32), .int (0 : Int32), .int (0 : Int32), .int (0 : Int32), .int (0 : Int32), .int (0 : Int32), .int (0 : Int32), .int (0 : Int32), .int (0 : Int32), .int (0 : Int32), .null, .null]))) : Mt G l z yX3_init cX3_init 1 none { frames := 1, cells := 2, slots := 12, locals := 12 } [.ref (z + 80)] u 81 none (hup (hup (hup u 81 (aI G 6 (fun _ => 0))) 82 (aI G 6 (fun _ => 0))) 80 (.inr (2, [.int (0 : Int32), .int (0 : Int32), .int (0 : Int32), .int (0 : Int32), .int (-1 : Int32), .int (0 : Int32), .int (-1 : Int32), .int (0 : Int32), .int (0 : Int32), .int (0 : Int32), .ref (z + 81), .ref (z + 82)]))) 83 := by
  refine mt_of (by decide +kernel) (Nat.le_of_ble_eq_true rfl) ?_
  intro p e s m below meth c C hr hlk hnm
  refine x_aload_n C 0 dX3_init_0 rfl rfl ?_
  refine x_objInit C kmX3_3 kObjI kObjC (Nat.le_of_ble_eq_true rfl) (Nat.le_of_ble_eq_true rfl) dX3_init_1 ?_
  refine x_aload_n C 0 dX3_init_4 rfl rfl ?_
  refine x_iconst (v := (0 : Int32)) C dX3_init_5 (by decide) ?_
  obtain ⟨u1, eu1⟩ : ∃ w : HpT, w = (hup u 80 (.inr (2, [.int (0 : Int32), .int (0 : Int32), .int (0 : Int32), .int (0 : Int32), .int (0 : Int32), .int (0 : Int32), .int (0 : Int32), .int (0 : Int32), .int (0 : Int32), .int (0 : Int32), .null, .null]))) := ⟨_, rfl⟩
  refine pfX3_9 C dX3_init_6 h80 (Nat.le_of_ble_eq_true rfl) rfl eu1.symm ?_
  refine x_aload_n C 0 dX3_init_9 rfl rfl ?_
  refine x_iconst (v := (0 : Int32)) C dX3_init_10 (by decide) ?_
  have k80_1 := (congrFun eu1 80).trans (hup_s _ _ _)
  obtain ⟨u2, eu2⟩ : ∃ w : HpT, w = (hup u1 80 (.inr (2, [.int (0 : Int32), .int (0 : Int32), .int (0 : Int32), .int (0 : Int32), .int (0 : Int32), .int (0 : Int32), .int (0 : Int32), .int (0 : Int32), .int (0 : Int32), .int (0 : Int32), .null, .null]))) := ⟨_, rfl⟩
  refine pfX3_15 C dX3_init_11 k80_1 (Nat.le_of_ble_eq_true rfl) rfl eu2.symm ?_
  refine x_aload_n C 0 dX3_init_14 rfl rfl ?_
  refine x_iconst (v := (0 : Int32)) C dX3_init_15 (by decide) ?_
  have k80_2 := (congrFun eu2 80).trans (hup_s _ _ _)
  obtain ⟨u3, eu3⟩ : ∃ w : HpT, w = (hup u2 80 (.inr (2, [.int (0 : Int32), .int (0 : Int32), .int (0 : Int32), .int (0 : Int32), .int (0 : Int32), .int (0 : Int32), .int (0 : Int32), .int (0 : Int32), .int (0 : Int32), .int (0 : Int32), .null, .null]))) := ⟨_, rfl⟩
  refine pfX3_18 C dX3_init_16 k80_2 (Nat.le_of_ble_eq_true rfl) rfl eu3.symm ?_
  refine x_aload_n C 0 dX3_init_19 rfl rfl ?_
  refine x_iconst (v := (0 : Int32)) C dX3_init_20 (by decide) ?_
  have k80_3 := (congrFun eu3 80).trans (hup_s _ _ _)
  obtain ⟨u4, eu4⟩ : ∃ w : HpT, w = (hup u3 80 (.inr (2, [.int (0 : Int32), .int (0 : Int32), .int (0 : Int32), .int (0 : Int32), .int (0 : Int32), .int (0 : Int32), .int (0 : Int32), .int (0 : Int32), .int (0 : Int32), .int (0 : Int32), .null, .null]))) := ⟨_, rfl⟩
  refine pfX3_21 C dX3_init_21 k80_3 (Nat.le_of_ble_eq_true rfl) rfl eu4.symm ?_
  refine x_aload_n C 0 dX3_init_24 rfl rfl ?_
  refine x_iconst (v := (-1 : Int32)) C dX3_init_25 (by decide) ?_
  have k80_4 := (congrFun eu4 80).trans (hup_s _ _ _)
  obtain ⟨u5, eu5⟩ : ∃ w : HpT, w = (hup u4 80 (.inr (2, [.int (0 : Int32), .int (0 : Int32), .int (0 : Int32), .int (0 : Int32), .int (-1 : Int32), .int (0 : Int32), .int (0 : Int32), .int (0 : Int32), .int (0 : Int32), .int (0 : Int32), .null, .null]))) := ⟨_, rfl⟩
  refine pfX3_24 C dX3_init_26 k80_4 (Nat.le_of_ble_eq_true rfl) rfl eu5.symm ?_
  refine x_aload_n C 0 dX3_init_29 rfl rfl ?_
  refine x_iconst (v := (0 : Int32)) C dX3_init_30 (by decide) ?_
  have k80_5 := (congrFun eu5 80).trans (hup_s _ _ _)
  obtain ⟨u6, eu6⟩ : ∃ w : HpT, w = (hup u5 80 (.inr (2, [.int (0 : Int32), .int (0 : Int32), .int (0 : Int32), .int (0 : Int32), .int (-1 : Int32), .int (0 : Int32), .int (0 : Int32), .int (0 : Int32), .int (0 : Int32), .int (0 : Int32), .null, .null]))) := ⟨_, rfl⟩
  refine pfX3_27 C dX3_init_31 k80_5 (Nat.le_of_ble_eq_true rfl) rfl eu6.symm ?_
  refine x_aload_n C 0 dX3_init_34 rfl rfl ?_
  refine x_iconst (v := (-1 : Int32)) C dX3_init_35 (by decide) ?_
  have k80_6 := (congrFun eu6 80).trans (hup_s _ _ _)
  obtain ⟨u7, eu7⟩ : ∃ w : HpT, w = (hup u6 80 (.inr (2, [.int (0 : Int32), .int (0 : Int32), .int (0 : Int32), .int (0 : Int32), .int (-1 : Int32), .int (0 : Int32), .int (-1 : Int32), .int (0 : Int32), .int (0 : Int32), .int (0 : Int32), .null, .null]))) := ⟨_, rfl⟩
  refine pfX3_30 C dX3_init_36 k80_6 (Nat.le_of_ble_eq_true rfl) rfl eu7.symm ?_
  refine x_aload_n C 0 dX3_init_39 rfl rfl ?_
  refine x_iconst (v := (0 : Int32)) C dX3_init_40 (by decide) ?_
  have k80_7 := (congrFun eu7 80).trans (hup_s _ _ _)
  obtain ⟨u8, eu8⟩ : ∃ w : HpT, w = (hup u7 80 (.inr (2, [.int (0 : Int32), .int (0 : Int32), .int (0 : Int32), .int (0 : Int32), .int (-1 : Int32), .int (0 : Int32), .int (-1 : Int32), .int (0 : Int32), .int (0 : Int32), .int (0 : Int32), .null, .null]))) := ⟨_, rfl⟩
  refine pfX3_33 C dX3_init_41 k80_7 (Nat.le_of_ble_eq_true rfl) rfl eu8.symm ?_
  refine x_aload_n C 0 dX3_init_44 rfl rfl ?_
  refine x_iconst (v := (0 : Int32)) C dX3_init_45 (by decide) ?_
  have k80_8 := (congrFun eu8 80).trans (hup_s _ _ _)
  obtain ⟨u9, eu9⟩ : ∃ w : HpT, w = (hup u8 80 (.inr (2, [.int (0 : Int32), .int (0 : Int32), .int (0 : Int32), .int (0 : Int32), .int (-1 : Int32), .int (0 : Int32), .int (-1 : Int32), .int (0 : Int32), .int (0 : Int32), .int (0 : Int32), .null, .null]))) := ⟨_, rfl⟩
  refine pfX3_36 C dX3_init_46 k80_8 (Nat.le_of_ble_eq_true rfl) rfl eu9.symm ?_
  refine x_aload_n C 0 dX3_init_49 rfl rfl ?_
  refine x_iconst (v := (0 : Int32)) C dX3_init_50 (by decide) ?_
  have k80_9 := (congrFun eu9 80).trans (hup_s _ _ _)
  obtain ⟨u10, eu10⟩ : ∃ w : HpT, w = (hup u9 80 (.inr (2, [.int (0 : Int32), .int (0 : Int32), .int (0 : Int32), .int (0 : Int32), .int (-1 : Int32), .int (0 : Int32), .int (-1 : Int32), .int (0 : Int32), .int (0 : Int32), .int (0 : Int32), .null, .null]))) := ⟨_, rfl⟩
  refine pfX3_39 C dX3_init_51 k80_9 (Nat.le_of_ble_eq_true rfl) rfl eu10.symm ?_
  refine x_aload_n C 0 dX3_init_54 rfl rfl ?_
  refine x_bipush (v := (6 : Int32)) C dX3_init_55 (by decide) ?_
  refine x_newI C ka_int 6 (by decide) (by decide) (Nat.le_of_ble_eq_true rfl) (Nat.le_of_ble_eq_true rfl) (Nat.le_of_ble_eq_true rfl) dX3_init_57 ?_
  obtain ⟨u11, eu11⟩ : ∃ w : HpT, w = (hup u10 81 (aI G 6 (fun _ => 0))) := ⟨_, rfl⟩
  refine x_norm (st2 := [.ref (z + 81), .ref (z + 80)]) (kc2 := 1) (ks2 := 6) (n2 := 82) rfl rfl rfl rfl eu11.symm ?_
  have k80_10 := (congrFun eu10 80).trans (hup_s _ _ _)
  have k80_11 := (congrFun eu11 80).trans (hup_n' (by decide) (k80_10))
  obtain ⟨u12, eu12⟩ : ∃ w : HpT, w = (hup u11 80 (.inr (2, [.int (0 : Int32), .int (0 : Int32), .int (0 : Int32), .int (0 : Int32), .int (-1 : Int32), .int (0 : Int32), .int (-1 : Int32), .int (0 : Int32), .int (0 : Int32), .int (0 : Int32), .ref (z + 81), .null]))) := ⟨_, rfl⟩
  refine pfX3_42 C dX3_init_59 hnm k80_11 (Nat.le_of_ble_eq_true rfl) rfl eu12.symm ?_
  refine x_aload_n C 0 dX3_init_62 rfl rfl ?_
  refine x_bipush (v := (6 : Int32)) C dX3_init_63 (by decide) ?_
  refine x_newI C ka_int 6 (by decide) (by decide) (Nat.le_of_ble_eq_true rfl) (Nat.le_of_ble_eq_true rfl) (Nat.le_of_ble_eq_true rfl) dX3_init_65 ?_
  obtain ⟨u13, eu13⟩ : ∃ w : HpT, w = (hup u12 82 (aI G 6 (fun _ => 0))) := ⟨_, rfl⟩
  refine x_norm (st2 := [.ref (z + 82), .ref (z + 80)]) (kc2 := 2) (ks2 := 12) (n2 := 83) rfl rfl rfl rfl eu13.symm ?_
  have k80_12 := (congrFun eu12 80).trans (hup_s _ _ _)
  have k80_13 := (congrFun eu13 80).trans (hup_n' (by decide) (k80_12))
  obtain ⟨u14, eu14⟩ : ∃ w : HpT, w = (hup u13 80 (.inr (2, [.int (0 : Int32), .int (0 : Int32), .int (0 : Int32), .int (0 : Int32), .int (-1 : Int32), .int (0 : Int32), .int (-1 : Int32), .int (0 : Int32), .int (0 : Int32), .int (0 : Int32), .ref (z + 81), .ref (z + 82)]))) := ⟨_, rfl⟩
  refine pfX3_46 C dX3_init_67 hnm k80_13 (Nat.le_of_ble_eq_true rfl) rfl eu14.symm ?_
  exact x_vret C hr hlk (Nat.le_of_ble_eq_true rfl) (Nat.le_of_ble_eq_true rfl) dX3_init_70 rfl (by rw [eu14, eu13, eu12, eu11, eu10, eu9, eu8, eu7, eu6, eu5, eu4, eu3, eu2, eu1]; simp only [hup_hup, hup_sk, ne_eq, Nat.reduceEqDiff, not_false_eq_true]) rfl
set_option maxRecDepth 20000 in
theorem p_X3_init_26 {G : GT} {l : Launch} {z : Nat} (u : HpT) (h83 : u 83 = some (.inr (2, [.int (0 : Int32), .int (0 : Int32), .int (0 : Int32), .int (0 : Int32), .int (0 : Int32), .int (0 : Int32), .int (0 : Int32), .int (0 : Int32), .int (0 : Int32), .int (0 : Int32), .null, .null]))) : Mt G l z yX3_init cX3_init 1 none { frames := 1, cells := 2, slots := 12, locals := 12 } [.ref (z + 83)] u 84 none (hup (hup (hup u 84 (aI G 6 (fun _ => 0))) 85 (aI G 6 (fun _ => 0))) 83 (.inr (2, [.int (0 : Int32), .int (0 : Int32), .int (0 : Int32), .int (0 : Int32), .int (-1 : Int32), .int (0 : Int32), .int (-1 : Int32), .int (0 : Int32), .int (0 : Int32), .int (0 : Int32), .ref (z + 84), .ref (z + 85)]))) 86 := by
  refine mt_of (by decide +kernel) (Nat.le_of_ble_eq_true rfl) ?_
  intro p e s m below meth c C hr hlk hnm
  refine x_aload_n C 0 dX3_init_0 rfl rfl ?_
  refine x_objInit C kmX3_3 kObjI kObjC (Nat.le_of_ble_eq_true rfl) (Nat.le_of_ble_eq_true rfl) dX3_init_1 ?_
  refine x_aload_n C 0 dX3_init_4 rfl rfl ?_
  refine x_iconst (v := (0 : Int32)) C dX3_init_5 (by decide) ?_
  obtain ⟨u1, eu1⟩ : ∃ w : HpT, w = (hup u 83 (.inr (2, [.int (0 : Int32), .int (0 : Int32), .int (0 : Int32), .int (0 : Int32), .int (0 : Int32), .int (0 : Int32), .int (0 : Int32), .int (0 : Int32), .int (0 : Int32), .int (0 : Int32), .null, .null]))) := ⟨_, rfl⟩
  refine pfX3_9 C dX3_init_6 h83 (Nat.le_of_ble_eq_true rfl) rfl eu1.symm ?_
  refine x_aload_n C 0 dX3_init_9 rfl rfl ?_
  refine x_iconst (v := (0 : Int32)) C dX3_init_10 (by decide) ?_
  have k83_1 := (congrFun eu1 83).trans (hup_s _ _ _)
  obtain ⟨u2, eu2⟩ : ∃ w : HpT, w = (hup u1 83 (.inr (2, [.int (0 : Int32), .int (0 : Int32), .int (0 : Int32), .int (0 : Int32), .int (0 : Int32), .int (0 : Int32), .int (0 : Int32), .int (0 : Int32), .int (0 : Int32), .int (0 : Int32), .null, .null]))) := ⟨_, rfl⟩
  refine pfX3_15 C dX3_init_11 k83_1 (Nat.le_of_ble_eq_true rfl) rfl eu2.symm ?_
  refine x_aload_n C 0 dX3_init_14 rfl rfl ?_
  refine x_iconst (v := (0 : Int32)) C dX3_init_15 (by decide) ?_
  have k83_2 := (congrFun eu2 83).trans (hup_s _ _ _)
  obtain ⟨u3, eu3⟩ : ∃ w : HpT, w = (hup u2 83 (.inr (2, [.int (0 : Int32), .int (0 : Int32), .int (0 : Int32), .int (0 : Int32), .int (0 : Int32), .int (0 : Int32), .int (0 : Int32), .int (0 : Int32), .int (0 : Int32), .int (0 : Int32), .null, .null]))) := ⟨_, rfl⟩
  refine pfX3_18 C dX3_init_16 k83_2 (Nat.le_of_ble_eq_true rfl) rfl eu3.symm ?_
  refine x_aload_n C 0 dX3_init_19 rfl rfl ?_
  refine x_iconst (v := (0 : Int32)) C dX3_init_20 (by decide) ?_
  have k83_3 := (congrFun eu3 83).trans (hup_s _ _ _)
  obtain ⟨u4, eu4⟩ : ∃ w : HpT, w = (hup u3 83 (.inr (2, [.int (0 : Int32), .int (0 : Int32), .int (0 : Int32), .int (0 : Int32), .int (0 : Int32), .int (0 : Int32), .int (0 : Int32), .int (0 : Int32), .int (0 : Int32), .int (0 : Int32), .null, .null]))) := ⟨_, rfl⟩
  refine pfX3_21 C dX3_init_21 k83_3 (Nat.le_of_ble_eq_true rfl) rfl eu4.symm ?_
  refine x_aload_n C 0 dX3_init_24 rfl rfl ?_
  refine x_iconst (v := (-1 : Int32)) C dX3_init_25 (by decide) ?_
  have k83_4 := (congrFun eu4 83).trans (hup_s _ _ _)
  obtain ⟨u5, eu5⟩ : ∃ w : HpT, w = (hup u4 83 (.inr (2, [.int (0 : Int32), .int (0 : Int32), .int (0 : Int32), .int (0 : Int32), .int (-1 : Int32), .int (0 : Int32), .int (0 : Int32), .int (0 : Int32), .int (0 : Int32), .int (0 : Int32), .null, .null]))) := ⟨_, rfl⟩
  refine pfX3_24 C dX3_init_26 k83_4 (Nat.le_of_ble_eq_true rfl) rfl eu5.symm ?_
  refine x_aload_n C 0 dX3_init_29 rfl rfl ?_
  refine x_iconst (v := (0 : Int32)) C dX3_init_30 (by decide) ?_
  have k83_5 := (congrFun eu5 83).trans (hup_s _ _ _)
  obtain ⟨u6, eu6⟩ : ∃ w : HpT, w = (hup u5 83 (.inr (2, [.int (0 : Int32), .int (0 : Int32), .int (0 : Int32), .int (0 : Int32), .int (-1 : Int32), .int (0 : Int32), .int (0 : Int32), .int (0 : Int32), .int (0 : Int32), .int (0 : Int32), .null, .null]))) := ⟨_, rfl⟩
  refine pfX3_27 C dX3_init_31 k83_5 (Nat.le_of_ble_eq_true rfl) rfl eu6.symm ?_
  refine x_aload_n C 0 dX3_init_34 rfl rfl ?_
  refine x_iconst (v := (-1 : Int32)) C dX3_init_35 (by decide) ?_
  have k83_6 := (congrFun eu6 83).trans (hup_s _ _ _)
  obtain ⟨u7, eu7⟩ : ∃ w : HpT, w = (hup u6 83 (.inr (2, [.int (0 : Int32), .int (0 : Int32), .int (0 : Int32), .int (0 : Int32), .int (-1 : Int32), .int (0 : Int32), .int (-1 : Int32), .int (0 : Int32), .int (0 : Int32), .int (0 : Int32), .null, .null]))) := ⟨_, rfl⟩
  refine pfX3_30 C dX3_init_36 k83_6 (Nat.le_of_ble_eq_true rfl) rfl eu7.symm ?_
  refine x_aload_n C 0 dX3_init_39 rfl rfl ?_
  refine x_iconst (v := (0 : Int32)) C dX3_init_40 (by decide) ?_
  have k83_7 := (congrFun eu7 83).trans (hup_s _ _ _)
  obtain ⟨u8, eu8⟩ : ∃ w : HpT, w = (hup u7 83 (.inr (2, [.int (0 : Int32), .int (0 : Int32), .int (0 : Int32), .int (0 : Int32), .int (-1 : Int32), .int (0 : Int32), .int (-1 : Int32), .int (0 : Int32), .int (0 : Int32), .int (0 : Int32), .null, .null]))) := ⟨_, rfl⟩
  refine pfX3_33 C dX3_init_41 k83_7 (Nat.le_of_ble_eq_true rfl) rfl eu8.symm ?_
  refine x_aload_n C 0 dX3_init_44 rfl rfl ?_
  refine x_iconst (v := (0 : Int32)) C dX3_init_45 (by decide) ?_
  have k83_8 := (congrFun eu8 83).trans (hup_s _ _ _)
  obtain ⟨u9, eu9⟩ : ∃ w : HpT, w = (hup u8 83 (.inr (2, [.int (0 : Int32), .int (0 : Int32), .int (0 : Int32), .int (0 : Int32), .int (-1 : Int32), .int (0 : Int32), .int (-1 : Int32), .int (0 : Int32), .int (0 : Int32), .int (0 : Int32), .null, .null]))) := ⟨_, rfl⟩
  refine pfX3_36 C dX3_init_46 k83_8 (Nat.le_of_ble_eq_true rfl) rfl eu9.symm ?_
  refine x_aload_n C 0 dX3_init_49 rfl rfl ?_
  refine x_iconst (v := (0 : Int32)) C dX3_init_50 (by decide) ?_
  have k83_9 := (congrFun eu9 83).trans (hup_s _ _ _)
  obtain ⟨u10, eu10⟩ : ∃ w : HpT, w = (hup u9 83 (.inr (2, [.int (0 : Int32), .int (0 : Int32), .int (0 : Int32), .int (0 : Int32), .int (-1 : Int32), .int (0 : Int32), .int (-1 : Int32), .int (0 : Int32), .int (0 : Int32), .int (0 : Int32), .null, .null]))) := ⟨_, rfl⟩
  refine pfX3_39 C dX3_init_51 k83_9 (Nat.le_of_ble_eq_true rfl) rfl eu10.symm ?_
  refine x_aload_n C 0 dX3_init_54 rfl rfl ?_
  refine x_bipush (v := (6 : Int32)) C dX3_init_55 (by decide) ?_
  refine x_newI C ka_int 6 (by decide) (by decide) (Nat.le_of_ble_eq_true rfl) (Nat.le_of_ble_eq_true rfl) (Nat.le_of_ble_eq_true rfl) dX3_init_57 ?_
  obtain ⟨u11, eu11⟩ : ∃ w : HpT, w = (hup u10 84 (aI G 6 (fun _ => 0))) := ⟨_, rfl⟩
  refine x_norm (st2 := [.ref (z + 84), .ref (z + 83)]) (kc2 := 1) (ks2 := 6) (n2 := 85) rfl rfl rfl rfl eu11.symm ?_
  have k83_10 := (congrFun eu10 83).trans (hup_s _ _ _)
  have k83_11 := (congrFun eu11 83).trans (hup_n' (by decide) (k83_10))
  obtain ⟨u12, eu12⟩ : ∃ w : HpT, w = (hup u11 83 (.inr (2, [.int (0 : Int32), .int (0 : Int32), .int (0 : Int32), .int (0 : Int32), .int (-1 : Int32), .int (0 : Int32), .int (-1 : Int32), .int (0 : Int32), .int (0 : Int32), .int (0 : Int32), .ref (z + 84), .null]))) := ⟨_, rfl⟩
  refine pfX3_42 C dX3_init_59 hnm k83_11 (Nat.le_of_ble_eq_true rfl) rfl eu12.symm ?_
  refine x_aload_n C 0 dX3_init_62 rfl rfl ?_
  refine x_bipush (v := (6 : Int32)) C dX3_init_63 (by decide) ?_
  refine x_newI C ka_int 6 (by decide) (by decide) (Nat.le_of_ble_eq_true rfl) (Nat.le_of_ble_eq_true rfl) (Nat.le_of_ble_eq_true rfl) dX3_init_65 ?_
  obtain ⟨u13, eu13⟩ : ∃ w : HpT, w = (hup u12 85 (aI G 6 (fun _ => 0))) := ⟨_, rfl⟩
  refine x_norm (st2 := [.ref (z + 85), .ref (z + 83)]) (kc2 := 2) (ks2 := 12) (n2 := 86) rfl rfl rfl rfl eu13.symm ?_
  have k83_12 := (congrFun eu12 83).trans (hup_s _ _ _)
  have k83_13 := (congrFun eu13 83).trans (hup_n' (by decide) (k83_12))
  obtain ⟨u14, eu14⟩ : ∃ w : HpT, w = (hup u13 83 (.inr (2, [.int (0 : Int32), .int (0 : Int32), .int (0 : Int32), .int (0 : Int32), .int (-1 : Int32), .int (0 : Int32), .int (-1 : Int32), .int (0 : Int32), .int (0 : Int32), .int (0 : Int32), .ref (z + 84), .ref (z + 85)]))) := ⟨_, rfl⟩
  refine pfX3_46 C dX3_init_67 hnm k83_13 (Nat.le_of_ble_eq_true rfl) rfl eu14.symm ?_
  exact x_vret C hr hlk (Nat.le_of_ble_eq_true rfl) (Nat.le_of_ble_eq_true rfl) dX3_init_70 rfl (by rw [eu14, eu13, eu12, eu11, eu10, eu9, eu8, eu7, eu6, eu5, eu4, eu3, eu2, eu1]; simp only [hup_hup, hup_sk, ne_eq, Nat.reduceEqDiff, not_false_eq_true]) rfl
set_option maxRecDepth 20000 in
theorem p_X3_init_27 {G : GT} {l : Launch} {z : Nat} (u : HpT) (h86 : u 86 = some (.inr (2, [.int (0 : Int32), .int (0 : Int32), .int (0 : Int32), .int (0 : Int32), .int (0 : Int32), .int (0 : Int32), .int (0 : Int32), .int (0 : Int32), .int (0 : Int32), .int (0 : Int32), .null, .null]))) : Mt G l z yX3_init cX3_init 1 none { frames := 1, cells := 2, slots := 12, locals := 12 } [.ref (z + 86)] u 87 none (hup (hup (hup u 87 (aI G 6 (fun _ => 0))) 88 (aI G 6 (fun _ => 0))) 86 (.inr (2, [.int (0 : Int32), .int (0 : Int32), .int (0 : Int32), .int (0 : Int32), .int (-1 : Int32), .int (0 : Int32), .int (-1 : Int32), .int (0 : Int32), .int (0 : Int32), .int (0 : Int32), .ref (z + 87), .ref (z + 88)]))) 89 := by
  refine mt_of (by decide +kernel) (Nat.le_of_ble_eq_true rfl) ?_
  intro p e s m below meth c C hr hlk hnm
  refine x_aload_n C 0 dX3_init_0 rfl rfl ?_
  refine x_objInit C kmX3_3 kObjI kObjC (Nat.le_of_ble_eq_true rfl) (Nat.le_of_ble_eq_true rfl) dX3_init_1 ?_
  refine x_aload_n C 0 dX3_init_4 rfl rfl ?_
  refine x_iconst (v := (0 : Int32)) C dX3_init_5 (by decide) ?_
  obtain ⟨u1, eu1⟩ : ∃ w : HpT, w = (hup u 86 (.inr (2, [.int (0 : Int32), .int (0 : Int32), .int (0 : Int32), .int (0 : Int32), .int (0 : Int32), .int (0 : Int32), .int (0 : Int32), .int (0 : Int32), .int (0 : Int32), .int (0 : Int32), .null, .null]))) := ⟨_, rfl⟩
  refine pfX3_9 C dX3_init_6 h86 (Nat.le_of_ble_eq_true rfl) rfl eu1.symm ?_
  refine x_aload_n C 0 dX3_init_9 rfl rfl ?_
  refine x_iconst (v := (0 : Int32)) C dX3_init_10 (by decide) ?_
  have k86_1 := (congrFun eu1 86).trans (hup_s _ _ _)
  obtain ⟨u2, eu2⟩ : ∃ w : HpT, w = (hup u1 86 (.inr (2, [.int (0 : Int32), .int (0 : Int32), .int (0 : Int32), .int (0 : Int32), .int (0 : Int32), .int (0 : Int32), .int (0 : Int32), .int (0 : Int32), .int (0 : Int32), .int (0 : Int32), .null, .null]))) := ⟨_, rfl⟩
  refine pfX3_15 C dX3_init_11 k86_1 (Nat.le_of_ble_eq_true rfl) rfl eu2.symm ?_
  refine x_aload_n C 0 dX3_init_14 rfl rfl ?_
  refine x_iconst (v := (0 : Int32)) C dX3_init_15 (by decide) ?_
  have k86_2 := (congrFun eu2 86).trans (hup_s _ _ _)
  obtain ⟨u3, eu3⟩ : ∃ w : HpT, w = (hup u2 86 (.inr (2, [.int (0 : Int32), .int (0 : Int32), .int (0 : Int32), .int (0 : Int32), .int (0 : Int32), .int (0 : Int32), .int (0 : Int32), .int (0 : Int32), .int (0 : Int32), .int (0 : Int32), .null, .null]))) := ⟨_, rfl⟩
  refine pfX3_18 C dX3_init_16 k86_2 (Nat.le_of_ble_eq_true rfl) rfl eu3.symm ?_
  refine x_aload_n C 0 dX3_init_19 rfl rfl ?_
  refine x_iconst (v := (0 : Int32)) C dX3_init_20 (by decide) ?_
  have k86_3 := (congrFun eu3 86).trans (hup_s _ _ _)
  obtain ⟨u4, eu4⟩ : ∃ w : HpT, w = (hup u3 86 (.inr (2, [.int (0 : Int32), .int (0 : Int32), .int (0 : Int32), .int (0 : Int32), .int (0 : Int32), .int (0 : Int32), .int (0 : Int32), .int (0 : Int32), .int (0 : Int32), .int (0 : Int32), .null, .null]))) := ⟨_, rfl⟩
  refine pfX3_21 C dX3_init_21 k86_3 (Nat.le_of_ble_eq_true rfl) rfl eu4.symm ?_
  refine x_aload_n C 0 dX3_init_24 rfl rfl ?_
  refine x_iconst (v := (-1 : Int32)) C dX3_init_25 (by decide) ?_
  have k86_4 := (congrFun eu4 86).trans (hup_s _ _ _)
  obtain ⟨u5, eu5⟩ : ∃ w : HpT, w = (hup u4 86 (.inr (2, [.int (0 : Int32), .int (0 : Int32), .int (0 : Int32), .int (0 : Int32), .int (-1 : Int32), .int (0 : Int32), .int (0 : Int32), .int (0 : Int32), .int (0 : Int32), .int (0 : Int32), .null, .null]))) := ⟨_, rfl⟩
  refine pfX3_24 C dX3_init_26 k86_4 (Nat.le_of_ble_eq_true rfl) rfl eu5.symm ?_
  refine x_aload_n C 0 dX3_init_29 rfl rfl ?_
  refine x_iconst (v := (0 : Int32)) C dX3_init_30 (by decide) ?_
  have k86_5 := (congrFun eu5 86).trans (hup_s _ _ _)
  obtain ⟨u6, eu6⟩ : ∃ w : HpT, w = (hup u5 86 (.inr (2, [.int (0 : Int32), .int (0 : Int32), .int (0 : Int32), .int (0 : Int32), .int (-1 : Int32), .int (0 : Int32), .int (0 : Int32), .int (0 : Int32), .int (0 : Int32), .int (0 : Int32), .null, .null]))) := ⟨_, rfl⟩
  refine pfX3_27 C dX3_init_31 k86_5 (Nat.le_of_ble_eq_true rfl) rfl eu6.symm ?_
  refine x_aload_n C 0 dX3_init_34 rfl rfl ?_
  refine x_iconst (v := (-1 : Int32)) C dX3_init_35 (by decide) ?_
  have k86_6 := (congrFun eu6 86).trans (hup_s _ _ _)
  obtain ⟨u7, eu7⟩ : ∃ w : HpT, w = (hup u6 86 (.inr (2, [.int (0 : Int32), .int (0 : Int32), .int (0 : Int32), .int (0 : Int32), .int (-1 : Int32), .int (0 : Int32), .int (-1 : Int32), .int (0 : Int32), .int (0 : Int32), .int (0 : Int32), .null, .null]))) := ⟨_, rfl⟩
  refine pfX3_30 C dX3_init_36 k86_6 (Nat.le_of_ble_eq_true rfl) rfl eu7.symm ?_
  refine x_aload_n C 0 dX3_init_39 rfl rfl ?_
  refine x_iconst (v := (0 : Int32)) C dX3_init_40 (by decide) ?_
  have k86_7 := (congrFun eu7 86).trans (hup_s _ _ _)
  obtain ⟨u8, eu8⟩ : ∃ w : HpT, w = (hup u7 86 (.inr (2, [.int (0 : Int32), .int (0 : Int32), .int (0 : Int32), .int (0 : Int32), .int (-1 : Int32), .int (0 : Int32), .int (-1 : Int32), .int (0 : Int32), .int (0 : Int32), .int (0 : Int32), .null, .null]))) := ⟨_, rfl⟩
  refine pfX3_33 C dX3_init_41 k86_7 (Nat.le_of_ble_eq_true rfl) rfl eu8.symm ?_
  refine x_aload_n C 0 dX3_init_44 rfl rfl ?_
  refine x_iconst (v := (0 : Int32)) C dX3_init_45 (by decide) ?_
  have k86_8 := (congrFun eu8 86).trans (hup_s _ _ _)
  obtain ⟨u9, eu9⟩ : ∃ w : HpT, w = (hup u8 86 (.inr (2, [.int (0 : Int32), .int (0 : Int32), .int (0 : Int32), .int (0 : Int32), .int (-1 : Int32), .int (0 : Int32), .int (-1 : Int32), .int (0 : Int32), .int (0 : Int32), .int (0 : Int32), .null, .null]))) := ⟨_, rfl⟩
  refine pfX3_36 C dX3_init_46 k86_8 (Nat.le_of_ble_eq_true rfl) rfl eu9.symm ?_
  refine x_aload_n C 0 dX3_init_49 rfl rfl ?_
  refine x_iconst (v := (0 : Int32)) C dX3_init_50 (by decide) ?_
  have k86_9 := (congrFun eu9 86).trans (hup_s _ _ _)
  obtain ⟨u10, eu10⟩ : ∃ w : HpT, w = (hup u9 86 (.inr (2, [.int (0 : Int32), .int (0 : Int32), .int (0 : Int32), .int (0 : Int32), .int (-1 : Int32), .int (0 : Int32), .int (-1 : Int32), .int (0 : Int32), .int (0 : Int32), .int (0 : Int32), .null, .null]))) := ⟨_, rfl⟩
  refine pfX3_39 C dX3_init_51 k86_9 (Nat.le_of_ble_eq_true rfl) rfl eu10.symm ?_
  refine x_aload_n C 0 dX3_init_54 rfl rfl ?_
  refine x_bipush (v := (6 : Int32)) C dX3_init_55 (by decide) ?_
  refine x_newI C ka_int 6 (by decide) (by decide) (Nat.le_of_ble_eq_true rfl) (Nat.le_of_ble_eq_true rfl) (Nat.le_of_ble_eq_true rfl) dX3_init_57 ?_
  obtain ⟨u11, eu11⟩ : ∃ w : HpT, w = (hup u10 87 (aI G 6 (fun _ => 0))) := ⟨_, rfl⟩
  refine x_norm (st2 := [.ref (z + 87), .ref (z + 86)]) (kc2 := 1) (ks2 := 6) (n2 := 88) rfl rfl rfl rfl eu11.symm ?_
  have k86_10 := (congrFun eu10 86).trans (hup_s _ _ _)
  have k86_11 := (congrFun eu11 86).trans (hup_n' (by decide) (k86_10))
  obtain ⟨u12, eu12⟩ : ∃ w : HpT, w = (hup u11 86 (.inr (2, [.int (0 : Int32), .int (0 : Int32), .int (0 : Int32), .int (0 : Int32), .int (-1 : Int32), .int (0 : Int32), .int (-1 : Int32), .int (0 : Int32), .int (0 : Int32), .int (0 : Int32), .ref (z + 87), .null]))) := ⟨_, rfl⟩
  refine pfX3_42 C dX3_init_59 hnm k86_11 (Nat.le_of_ble_eq_true rfl) rfl eu12.symm ?_
  refine x_aload_n C 0 dX3_init_62 rfl rfl ?_
  refine x_bipush (v := (6 : Int32)) C dX3_init_63 (by decide) ?_
  refine x_newI C ka_int 6 (by decide) (by decide) (Nat.le_of_ble_eq_true rfl) (Nat.le_of_ble_eq_true rfl) (Nat.le_of_ble_eq_true rfl) dX3_init_65 ?_
  obtain ⟨u13, eu13⟩ : ∃ w : HpT, w = (hup u12 88 (aI G 6 (fun _ => 0))) := ⟨_, rfl⟩
  refine x_norm (st2 := [.ref (z + 88), .ref (z + 86)]) (kc2 := 2) (ks2 := 12) (n2 := 89) rfl rfl rfl rfl eu13.symm ?_
  have k86_12 := (congrFun eu12 86).trans (hup_s _ _ _)
  have k86_13 := (congrFun eu13 86).trans (hup_n' (by decide) (k86_12))
  obtain ⟨u14, eu14⟩ : ∃ w : HpT, w = (hup u13 86 (.inr (2, [.int (0 : Int32), .int (0 : Int32), .int (0 : Int32), .int (0 : Int32), .int (-1 : Int32), .int (0 : Int32), .int (-1 : Int32), .int (0 : Int32), .int (0 : Int32), .int (0 : Int32), .ref (z + 87), .ref (z + 88)]))) := ⟨_, rfl⟩
  refine pfX3_46 C dX3_init_67 hnm k86_13 (Nat.le_of_ble_eq_true rfl) rfl eu14.symm ?_
  exact x_vret C hr hlk (Nat.le_of_ble_eq_true rfl) (Nat.le_of_ble_eq_true rfl) dX3_init_70 rfl (by rw [eu14, eu13, eu12, eu11, eu10, eu9, eu8, eu7, eu6, eu5, eu4, eu3, eu2, eu1]; simp only [hup_hup, hup_sk, ne_eq, Nat.reduceEqDiff, not_false_eq_true]) rfl
set_option maxRecDepth 20000 in
theorem p_X3_init_28 {G : GT} {l : Launch} {z : Nat} (u : HpT) (h89 : u 89 = some (.inr (2, [.int (0 : Int32), .int (0 : Int32), .int (0 : Int32), .int (0 : Int32), .int (0 : Int32), .int (0 : Int32), .int (0 : Int32), .int (0 : Int32), .int (0 : Int32), .int (0 : Int32), .null, .null]))) : Mt G l z yX3_init cX3_init 1 none { frames := 1, cells := 2, slots := 12, locals := 12 } [.ref (z + 89)] u 90 none (hup (hup (hup u 90 (aI G 6 (fun _ => 0))) 91 (aI G 6 (fun _ => 0))) 89 (.inr (2, [.int (0 : Int32), .int (0 : Int32), .int (0 : Int32), .int (0 : Int32), .int (-1 : Int32), .int (0 : Int32), .int (-1 : Int32), .int (0 : Int32), .int (0 : Int32), .int (0 : Int32), .ref (z + 90), .ref (z + 91)]))) 92 := by
  refine mt_of (by decide +kernel) (Nat.le_of_ble_eq_true rfl) ?_
  intro p e s m below meth c C hr hlk hnm
  refine x_aload_n C 0 dX3_init_0 rfl rfl ?_
  refine x_objInit C kmX3_3 kObjI kObjC (Nat.le_of_ble_eq_true rfl) (Nat.le_of_ble_eq_true rfl) dX3_init_1 ?_
  refine x_aload_n C 0 dX3_init_4 rfl rfl ?_
  refine x_iconst (v := (0 : Int32)) C dX3_init_5 (by decide) ?_
  obtain ⟨u1, eu1⟩ : ∃ w : HpT, w = (hup u 89 (.inr (2, [.int (0 : Int32), .int (0 : Int32), .int (0 : Int32), .int (0 : Int32), .int (0 : Int32), .int (0 : Int32), .int (0 : Int32), .int (0 : Int32), .int (0 : Int32), .int (0 : Int32), .null, .null]))) := ⟨_, rfl⟩
  refine pfX3_9 C dX3_init_6 h89 (Nat.le_of_ble_eq_true rfl) rfl eu1.symm ?_
  refine x_aload_n C 0 dX3_init_9 rfl rfl ?_
  refine x_iconst (v := (0 : Int32)) C dX3_init_10 (by decide) ?_
  have k89_1 := (congrFun eu1 89).trans (hup_s _ _ _)
  obtain ⟨u2, eu2⟩ : ∃ w : HpT, w = (hup u1 89 (.inr (2, [.int (0 : Int32), .int (0 : Int32), .int (0 : Int32), .int (0 : Int32), .int (0 : Int32), .int (0 : Int32), .int (0 : Int32), .int (0 : Int32), .int (0 : Int32), .int (0 : Int32), .null, .null]))) := ⟨_, rfl⟩
  refine pfX3_15 C dX3_init_11 k89_1 (Nat.le_of_ble_eq_true rfl) rfl eu2.symm ?_
  refine x_aload_n C 0 dX3_init_14 rfl rfl ?_
  refine x_iconst (v := (0 : Int32)) C dX3_init_15 (by decide) ?_
  have k89_2 := (congrFun eu2 89).trans (hup_s _ _ _)
  obtain ⟨u3, eu3⟩ : ∃ w : HpT, w = (hup u2 89 (.inr (2, [.int (0 : Int32), .int (0 : Int32), .int (0 : Int32), .int (0 : Int32), .int (0 : Int32), .int (0 : Int32), .int (0 : Int32), .int (0 : Int32), .int (0 : Int32), .int (0 : Int32), .null, .null]))) := ⟨_, rfl⟩
  refine pfX3_18 C dX3_init_16 k89_2 (Nat.le_of_ble_eq_true rfl) rfl eu3.symm ?_
  refine x_aload_n C 0 dX3_init_19 rfl rfl ?_
  refine x_iconst (v := (0 : Int32)) C dX3_init_20 (by decide) ?_
  have k89_3 := (congrFun eu3 89).trans (hup_s _ _ _)
  obtain ⟨u4, eu4⟩ : ∃ w : HpT, w = (hup u3 89 (.inr (2, [.int (0 : Int32), .int (0 : Int32), .int (0 : Int32), .int (0 : Int32), .int (0 : Int32), .int (0 : Int32), .int (0 : Int32), .int (0 : Int32), .int (0 : Int32), .int (0 : Int32), .null, .null]))) := ⟨_, rfl⟩
  refine pfX3_21 C dX3_init_21 k89_3 (Nat.le_of_ble_eq_true rfl) rfl eu4.symm ?_
  refine x_aload_n C 0 dX3_init_24 rfl rfl ?_
  refine x_iconst (v := (-1 : Int32)) C dX3_init_25 (by decide) ?_
  have k89_4 := (congrFun eu4 89).trans (hup_s _ _ _)
  obtain ⟨u5, eu5⟩ : ∃ w : HpT, w = (hup u4 89 (.inr (2, [.int (0 : Int32), .int (0 : Int32), .int (0 : Int32), .int (0 : Int32), .int (-1 : Int32), .int (0 : Int32), .int (0 : Int32), .int (0 : Int32), .int (0 : Int32), .int (0 : Int32), .null, .null]))) := ⟨_, rfl⟩
  refine pfX3_24 C dX3_init_26 k89_4 (Nat.le_of_ble_eq_true rfl) rfl eu5.symm ?_
  refine x_aload_n C 0 dX3_init_29 rfl rfl ?_
  refine x_iconst (v := (0 : Int32)) C dX3_init_30 (by decide) ?_
  have k89_5 := (congrFun eu5 89).trans (hup_s _ _ _)
  obtain ⟨u6, eu6⟩ : ∃ w : HpT, w = (hup u5 89 (.inr (2, [.int (0 : Int32), .int (0 : Int32), .int (0 : Int32), .int (0 : Int32), .int (-1 : Int32), .int (0 : Int32), .int (0 : Int32), .int (0 : Int32), .int (0 : Int32), .int (0 : Int32), .null, .null]))) := ⟨_, rfl⟩
  refine pfX3_27 C dX3_init_31 k89_5 (Nat.le_of_ble_eq_true rfl) rfl eu6.symm ?_
  refine x_aload_n C 0 dX3_init_34 rfl rfl ?_
  refine x_iconst (v := (-1 : Int32)) C dX3_init_35 (by decide) ?_
  have k89_6 := (congrFun eu6 89).trans (hup_s _ _ _)
  obtain ⟨u7, eu7⟩ : ∃ w : HpT, w = (hup u6 89 (.inr (2, [.int (0 : Int32), .int (0 : Int32), .int (0 : Int32), .int (0 : Int32), .int (-1 : Int32), .int (0 : Int32), .int (-1 : Int32), .int (0 : Int32), .int (0 : Int32), .int (0 : Int32), .null, .null]))) := ⟨_, rfl⟩
  refine pfX3_30 C dX3_init_36 k89_6 (Nat.le_of_ble_eq_true rfl) rfl eu7.symm ?_
  refine x_aload_n C 0 dX3_init_39 rfl rfl ?_
  refine x_iconst (v := (0 : Int32)) C dX3_init_40 (by decide) ?_
  have k89_7 := (congrFun eu7 89).trans (hup_s _ _ _)
  obtain ⟨u8, eu8⟩ : ∃ w : HpT, w = (hup u7 89 (.inr (2, [.int (0 : Int32), .int (0 : Int32), .int (0 : Int32), .int (0 : Int32), .int (-1 : Int32), .int (0 : Int32), .int (-1 : Int32), .int (0 : Int32), .int (0 : Int32), .int (0 : Int32), .null, .null]))) := ⟨_, rfl⟩
  refine pfX3_33 C dX3_init_41 k89_7 (Nat.le_of_ble_eq_true rfl) rfl eu8.symm ?_
  refine x_aload_n C 0 dX3_init_44 rfl rfl ?_
  refine x_iconst (v := (0 : Int32)) C dX3_init_45 (by decide) ?_
  have k89_8 := (congrFun eu8 89).trans (hup_s _ _ _)
  obtain ⟨u9, eu9⟩ : ∃ w : HpT, w = (hup u8 89 (.inr (2, [.int (0 : Int32), .int (0 : Int32), .int (0 : Int32), .int (0 : Int32), .int (-1 : Int32), .int (0 : Int32), .int (-1 : Int32), .int (0 : Int32), .int (0 : Int32), .int (0 : Int32), .null, .null]))) := ⟨_, rfl⟩
  refine pfX3_36 C dX3_init_46 k89_8 (Nat.le_of_ble_eq_true rfl) rfl eu9.symm ?_
  refine x_aload_n C 0 dX3_init_49 rfl rfl ?_
  refine x_iconst (v := (0 : Int32)) C dX3_init_50 (by decide) ?_
  have k89_9 := (congrFun eu9 89).trans (hup_s _ _ _)
  obtain ⟨u10, eu10⟩ : ∃ w : HpT, w = (hup u9 89 (.inr (2, [.int (0 : Int32), .int (0 : Int32), .int (0 : Int32), .int (0 : Int32), .int (-1 : Int32), .int (0 : Int32), .int (-1 : Int32), .int (0 : Int32), .int (0 : Int32), .int (0 : Int32), .null, .null]))) := ⟨_, rfl⟩
  refine pfX3_39 C dX3_init_51 k89_9 (Nat.le_of_ble_eq_true rfl) rfl eu10.symm ?_
  refine x_aload_n C 0 dX3_init_54 rfl rfl ?_
  refine x_bipush (v := (6 : Int32)) C dX3_init_55 (by decide) ?_
  refine x_newI C ka_int 6 (by decide) (by decide) (Nat.le_of_ble_eq_true rfl) (Nat.le_of_ble_eq_true rfl) (Nat.le_of_ble_eq_true rfl) dX3_init_57 ?_
  obtain ⟨u11, eu11⟩ : ∃ w : HpT, w = (hup u10 90 (aI G 6 (fun _ => 0))) := ⟨_, rfl⟩
  refine x_norm (st2 := [.ref (z + 90), .ref (z + 89)]) (kc2 := 1) (ks2 := 6) (n2 := 91) rfl rfl rfl rfl eu11.symm ?_
  have k89_10 := (congrFun eu10 89).trans (hup_s _ _ _)
  have k89_11 := (congrFun eu11 89).trans (hup_n' (by decide) (k89_10))
  obtain ⟨u12, eu12⟩ : ∃ w : HpT, w = (hup u11 89 (.inr (2, [.int (0 : Int32), .int (0 : Int32), .int (0 : Int32), .int (0 : Int32), .int (-1 : Int32), .int (0 : Int32), .int (-1 : Int32), .int (0 : Int32), .int (0 : Int32), .int (0 : Int32), .ref (z + 90), .null]))) := ⟨_, rfl⟩
  refine pfX3_42 C dX3_init_59 hnm k89_11 (Nat.le_of_ble_eq_true rfl) rfl eu12.symm ?_
  refine x_aload_n C 0 dX3_init_62 rfl rfl ?_
  refine x_bipush (v := (6 : Int32)) C dX3_init_63 (by decide) ?_
  refine x_newI C ka_int 6 (by decide) (by decide) (Nat.le_of_ble_eq_true rfl) (Nat.le_of_ble_eq_true rfl) (Nat.le_of_ble_eq_true rfl) dX3_init_65 ?_
  obtain ⟨u13, eu13⟩ : ∃ w : HpT, w = (hup u12 91 (aI G 6 (fun _ => 0))) := ⟨_, rfl⟩
  refine x_norm (st2 := [.ref (z + 91), .ref (z + 89)]) (kc2 := 2) (ks2 := 12) (n2 := 92) rfl rfl rfl rfl eu13.symm ?_
  have k89_12 := (congrFun eu12 89).trans (hup_s _ _ _)
  have k89_13 := (congrFun eu13 89).trans (hup_n' (by decide) (k89_12))
  obtain ⟨u14, eu14⟩ : ∃ w : HpT, w = (hup u13 89 (.inr (2, [.int (0 : Int32), .int (0 : Int32), .int (0 : Int32), .int (0 : Int32), .int (-1 : Int32), .int (0 : Int32), .int (-1 : Int32), .int (0 : Int32), .int (0 : Int32), .int (0 : Int32), .ref (z + 90), .ref (z + 91)]))) := ⟨_, rfl⟩
  refine pfX3_46 C dX3_init_67 hnm k89_13 (Nat.le_of_ble_eq_true rfl) rfl eu14.symm ?_
  exact x_vret C hr hlk (Nat.le_of_ble_eq_true rfl) (Nat.le_of_ble_eq_true rfl) dX3_init_70 rfl (by rw [eu14, eu13, eu12, eu11, eu10, eu9, eu8, eu7, eu6, eu5, eu4, eu3, eu2, eu1]; simp only [hup_hup, hup_sk, ne_eq, Nat.reduceEqDiff, not_false_eq_true]) rfl
set_option maxRecDepth 20000 in
theorem p_X3_init_29 {G : GT} {l : Launch} {z : Nat} (u : HpT) (h92 : u 92 = some (.inr (2, [.int (0 : Int32), .int (0 : Int32), .int (0 : Int32), .int (0 : Int32), .int (0 : Int32), .int (0 : Int32), .int (0 : Int32), .int (0 : Int32), .int (0 : Int32), .int (0 : Int32), .null, .null]))) : Mt G l z yX3_init cX3_init 1 none { frames := 1, cells := 2, slots := 12, locals := 12 } [.ref (z + 92)] u 93 none (hup (hup (hup u 93 (aI G 6 (fun _ => 0))) 94 (aI G 6 (fun _ => 0))) 92 (.inr (2, [.int (0 : Int32), .int (0 : Int32), .int (0 : Int32), .int (0 : Int32), .int (-1 : Int32), .int (0 : Int32), .int (-1 : Int32), .int (0 : Int32), .int (0 : Int32), .int (0 : Int32), .ref (z + 93), .ref (z + 94)]))) 95 := by
  refine mt_of (by decide +kernel) (Nat.le_of_ble_eq_true rfl) ?_
  intro p e s m below meth c C hr hlk hnm
  refine x_aload_n C 0 dX3_init_0 rfl rfl ?_
  refine x_objInit C kmX3_3 kObjI kObjC (Nat.le_of_ble_eq_true rfl) (Nat.le_of_ble_eq_true rfl) dX3_init_1 ?_
  refine x_aload_n C 0 dX3_init_4 rfl rfl ?_
  refine x_iconst (v := (0 : Int32)) C dX3_init_5 (by decide) ?_
  obtain ⟨u1, eu1⟩ : ∃ w : HpT, w = (hup u 92 (.inr (2, [.int (0 : Int32), .int (0 : Int32), .int (0 : Int32), .int (0 : Int32), .int (0 : Int32), .int (0 : Int32), .int (0 : Int32), .int (0 : Int32), .int (0 : Int32), .int (0 : Int32), .null, .null]))) := ⟨_, rfl⟩
  refine pfX3_9 C dX3_init_6 h92 (Nat.le_of_ble_eq_true rfl) rfl eu1.symm ?_
  refine x_aload_n C 0 dX3_init_9 rfl rfl ?_
  refine x_iconst (v := (0 : Int32)) C dX3_init_10 (by decide) ?_
  have k92_1 := (congrFun eu1 92).trans (hup_s _ _ _)
  obtain ⟨u2, eu2⟩ : ∃ w : HpT, w = (hup u1 92 (.inr (2, [.int (0 : Int32), .int (0 : Int32), .int (0 : Int32), .int (0 : Int32), .int (0 : Int32), .int (0 : Int32), .int (0 : Int32), .int (0 : Int32), .int (0 : Int32), .int (0 : Int32), .null, .null]))) := ⟨_, rfl⟩
  refine pfX3_15 C dX3_init_11 k92_1 (Nat.le_of_ble_eq_true rfl) rfl eu2.symm ?_
  refine x_aload_n C 0 dX3_init_14 rfl rfl ?_
  refine x_iconst (v := (0 : Int32)) C dX3_init_15 (by decide) ?_
  have k92_2 := (congrFun eu2 92).trans (hup_s _ _ _)
  obtain ⟨u3, eu3⟩ : ∃ w : HpT, w = (hup u2 92 (.inr (2, [.int (0 : Int32), .int (0 : Int32), .int (0 : Int32), .int (0 : Int32), .int (0 : Int32), .int (0 : Int32), .int (0 : Int32), .int (0 : Int32), .int (0 : Int32), .int (0 : Int32), .null, .null]))) := ⟨_, rfl⟩
  refine pfX3_18 C dX3_init_16 k92_2 (Nat.le_of_ble_eq_true rfl) rfl eu3.symm ?_
  refine x_aload_n C 0 dX3_init_19 rfl rfl ?_
  refine x_iconst (v := (0 : Int32)) C dX3_init_20 (by decide) ?_
  have k92_3 := (congrFun eu3 92).trans (hup_s _ _ _)
  obtain ⟨u4, eu4⟩ : ∃ w : HpT, w = (hup u3 92 (.inr (2, [.int (0 : Int32), .int (0 : Int32), .int (0 : Int32), .int (0 : Int32), .int (0 : Int32), .int (0 : Int32), .int (0 : Int32), .int (0 : Int32), .int (0 : Int32), .int (0 : Int32), .null, .null]))) := ⟨_, rfl⟩
  refine pfX3_21 C dX3_init_21 k92_3 (Nat.le_of_ble_eq_true rfl) rfl eu4.symm ?_
  refine x_aload_n C 0 dX3_init_24 rfl rfl ?_
  refine x_iconst (v := (-1 : Int32)) C dX3_init_25 (by decide) ?_
  have k92_4 := (congrFun eu4 92).trans (hup_s _ _ _)
  obtain ⟨u5, eu5⟩ : ∃ w : HpT, w = (hup u4 92 (.inr (2, [.int (0 : Int32), .int (0 : Int32), .int (0 : Int32), .int (0 : Int32), .int (-1 : Int32), .int (0 : Int32), .int (0 : Int32), .int (0 : Int32), .int (0 : Int32), .int (0 : Int32), .null, .null]))) := ⟨_, rfl⟩
  refine pfX3_24 C dX3_init_26 k92_4 (Nat.le_of_ble_eq_true rfl) rfl eu5.symm ?_
  refine x_aload_n C 0 dX3_init_29 rfl rfl ?_
  refine x_iconst (v := (0 : Int32)) C dX3_init_30 (by decide) ?_
  have k92_5 := (congrFun eu5 92).trans (hup_s _ _ _)
  obtain ⟨u6, eu6⟩ : ∃ w : HpT, w = (hup u5 92 (.inr (2, [.int (0 : Int32), .int (0 : Int32), .int (0 : Int32), .int (0 : Int32), .int (-1 : Int32), .int (0 : Int32), .int (0 : Int32), .int (0 : Int32), .int (0 : Int32), .int (0 : Int32), .null, .null]))) := ⟨_, rfl⟩
  refine pfX3_27 C dX3_init_31 k92_5 (Nat.le_of_ble_eq_true rfl) rfl eu6.symm ?_
  refine x_aload_n C 0 dX3_init_34 rfl rfl ?_
  refine x_iconst (v := (-1 : Int32)) C dX3_init_35 (by decide) ?_
  have k92_6 := (congrFun eu6 92).trans (hup_s _ _ _)
  obtain ⟨u7, eu7⟩ : ∃ w : HpT, w = (hup u6 92 (.inr (2, [.int (0 : Int32), .int (0 : Int32), .int (0 : Int32), .int (0 : Int32), .int (-1 : Int32), .int (0 : Int32), .int (-1 : Int32), .int (0 : Int32), .int (0 : Int32), .int (0 : Int32), .null, .null]))) := ⟨_, rfl⟩
  refine pfX3_30 C dX3_init_36 k92_6 (Nat.le_of_ble_eq_true rfl) rfl eu7.symm ?_
  refine x_aload_n C 0 dX3_init_39 rfl rfl ?_
  refine x_iconst (v := (0 : Int32)) C dX3_init_40 (by decide) ?_
  have k92_7 := (congrFun eu7 92).trans (hup_s _ _ _)
  obtain ⟨u8, eu8⟩ : ∃ w : HpT, w = (hup u7 92 (.inr (2, [.int (0 : Int32), .int (0 : Int32), .int (0 : Int32), .int (0 : Int32), .int (-1 : Int32), .int (0 : Int32), .int (-1 : Int32), .int (0 : Int32), .int (0 : Int32), .int (0 : Int32), .null, .null]))) := ⟨_, rfl⟩
  refine pfX3_33 C dX3_init_41 k92_7 (Nat.le_of_ble_eq_true rfl) rfl eu8.symm ?_
  refine x_aload_n C 0 dX3_init_44 rfl rfl ?_
  refine x_iconst (v := (0 : Int32)) C dX3_init_45 (by decide) ?_
  have k92_8 := (congrFun eu8 92).trans (hup_s _ _ _)
  obtain ⟨u9, eu9⟩ : ∃ w : HpT, w = (hup u8 92 (.inr (2, [.int (0 : Int32), .int (0 : Int32), .int (0 : Int32), .int (0 : Int32), .int (-1 : Int32), .int (0 : Int32), .int (-1 : Int32), .int (0 : Int32), .int (0 : Int32), .int (0 : Int32), .null, .null]))) := ⟨_, rfl⟩
  refine pfX3_36 C dX3_init_46 k92_8 (Nat.le_of_ble_eq_true rfl) rfl eu9.symm ?_
  refine x_aload_n C 0 dX3_init_49 rfl rfl ?_
  refine x_iconst (v := (0 : Int32)) C dX3_init_50 (by decide) ?_
  have k92_9 := (congrFun eu9 92).trans (hup_s _ _ _)
  obtain ⟨u10, eu10⟩ : ∃ w : HpT, w = (hup u9 92 (.inr (2, [.int (0 : Int32), .int (0 : Int32), .int (0 : Int32), .int (0 : Int32), .int (-1 : Int32), .int (0 : Int32), .int (-1 : Int32), .int (0 : Int32), .int (0 : Int32), .int (0 : Int32), .null, .null]))) := ⟨_, rfl⟩
  refine pfX3_39 C dX3_init_51 k92_9 (Nat.le_of_ble_eq_true rfl) rfl eu10.symm ?_
  refine x_aload_n C 0 dX3_init_54 rfl rfl ?_
  refine x_bipush (v := (6 : Int32)) C dX3_init_55 (by decide) ?_
  refine x_newI C ka_int 6 (by decide) (by decide) (Nat.le_of_ble_eq_true rfl) (Nat.le_of_ble_eq_true rfl) (Nat.le_of_ble_eq_true rfl) dX3_init_57 ?_
  obtain ⟨u11, eu11⟩ : ∃ w : HpT, w = (hup u10 93 (aI G 6 (fun _ => 0))) := ⟨_, rfl⟩
  refine x_norm (st2 := [.ref (z + 93), .ref (z + 92)]) (kc2 := 1) (ks2 := 6) (n2 := 94) rfl rfl rfl rfl eu11.symm ?_
  have k92_10 := (congrFun eu10 92).trans (hup_s _ _ _)
  have k92_11 := (congrFun eu11 92).trans (hup_n' (by decide) (k92_10))
  obtain ⟨u12, eu12⟩ : ∃ w : HpT, w = (hup u11 92 (.inr (2, [.int (0 : Int32), .int (0 : Int32), .int (0 : Int32), .int (0 : Int32), .int (-1 : Int32), .int (0 : Int32), .int (-1 : Int32), .int (0 : Int32), .int (0 : Int32), .int (0 : Int32), .ref (z + 93), .null]))) := ⟨_, rfl⟩
  refine pfX3_42 C dX3_init_59 hnm k92_11 (Nat.le_of_ble_eq_true rfl) rfl eu12.symm ?_
  refine x_aload_n C 0 dX3_init_62 rfl rfl ?_
  refine x_bipush (v := (6 : Int32)) C dX3_init_63 (by decide) ?_
  refine x_newI C ka_int 6 (by decide) (by decide) (Nat.le_of_ble_eq_true rfl) (Nat.le_of_ble_eq_true rfl) (Nat.le_of_ble_eq_true rfl) dX3_init_65 ?_
  obtain ⟨u13, eu13⟩ : ∃ w : HpT, w = (hup u12 94 (aI G 6 (fun _ => 0))) := ⟨_, rfl⟩
  refine x_norm (st2 := [.ref (z + 94), .ref (z + 92)]) (kc2 := 2) (ks2 := 12) (n2 := 95) rfl rfl rfl rfl eu13.symm ?_
  have k92_12 := (congrFun eu12 92).trans (hup_s _ _ _)
  have k92_13 := (congrFun eu13 92).trans (hup_n' (by decide) (k92_12))
  obtain ⟨u14, eu14⟩ : ∃ w : HpT, w = (hup u13 92 (.inr (2, [.int (0 : Int32), .int (0 : Int32), .int (0 : Int32), .int (0 : Int32), .int (-1 : Int32), .int (0 : Int32), .int (-1 : Int32), .int (0 : Int32), .int (0 : Int32), .int (0 : Int32), .ref (z + 93), .ref (z + 94)]))) := ⟨_, rfl⟩
  refine pfX3_46 C dX3_init_67 hnm k92_13 (Nat.le_of_ble_eq_true rfl) rfl eu14.symm ?_
  exact x_vret C hr hlk (Nat.le_of_ble_eq_true rfl) (Nat.le_of_ble_eq_true rfl) dX3_init_70 rfl (by rw [eu14, eu13, eu12, eu11, eu10, eu9, eu8, eu7, eu6, eu5, eu4, eu3, eu2, eu1]; simp only [hup_hup, hup_sk, ne_eq, Nat.reduceEqDiff, not_false_eq_true]) rfl
set_option maxRecDepth 20000 in
theorem p_X3_init_30 {G : GT} {l : Launch} {z : Nat} (u : HpT) (h95 : u 95 = some (.inr (2, [.int (0 : Int32), .int (0 : Int32), .int (0 : Int32), .int (0 : Int32), .int (0 : Int32), .int (0 : Int32), .int (0 : Int32), .int (0 : Int32), .int (0 : Int32), .int (0 : Int32), .null, .null]))) : Mt G l z yX3_init cX3_init 1 none { frames := 1, cells := 2, slots := 12, locals := 12 } [.ref (z + 95)] u 96 none (hup (hup (hup u 96 (aI G 6 (fun _ => 0))) 97 (aI G 6 (fun _ => 0))) 95 (.inr (2, [.int (0 : Int32), .int (0 : Int32), .int (0 : Int32), .int (0 : Int32), .int (-1 : Int32), .int (0 : Int32), .int (-1 : Int32), .int (0 : Int32), .int (0 : Int32), .int (0 : Int32), .ref (z + 96), .ref (z + 97)]))) 98 := by
  refine mt_of (by decide +kernel) (Nat.le_of_ble_eq_true rfl) ?_
  intro p e s m below meth c C hr hlk hnm
  refine x_aload_n C 0 dX3_init_0 rfl rfl ?_
  refine x_objInit C kmX3_3 kObjI kObjC (Nat.le_of_ble_eq_true rfl) (Nat.le_of_ble_eq_true rfl) dX3_init_1 ?_
  refine x_aload_n C 0 dX3_init_4 rfl rfl ?_
  refine x_iconst (v := (0 : Int32)) C dX3_init_5 (by decide) ?_
  obtain ⟨u1, eu1⟩ : ∃ w : HpT, w = (hup u 95 (.inr (2, [.int (0 : Int32), .int (0 : Int32), .int (0 : Int32), .int (0 : Int32), .int (0 : Int32), .int (0 : Int32), .int (0 : Int32), .int (0 : Int32), .int (0 : Int32), .int (0 : Int32), .null, .null]))) := ⟨_, rfl⟩
  refine pfX3_9 C dX3_init_6 h95 (Nat.le_of_ble_eq_true rfl) rfl eu1.symm ?_
  refine x_aload_n C 0 dX3_init_9 rfl rfl ?_
  refine x_iconst (v := (0 : Int32)) C dX3_init_10 (by decide) ?_
  have k95_1 := (congrFun eu1 95).trans (hup_s _ _ _)
  obtain ⟨u2, eu2⟩ : ∃ w : HpT, w = (hup u1 95 (.inr (2, [.int (0 : Int32), .int (0 : Int32), .int (0 : Int32), .int (0 : Int32), .int (0 : Int32), .int (0 : Int32), .int (0 : Int32), .int (0 : Int32), .int (0 : Int32), .int (0 : Int32), .null, .null]))) := ⟨_, rfl⟩
  refine pfX3_15 C dX3_init_11 k95_1 (Nat.le_of_ble_eq_true rfl) rfl eu2.symm ?_
  refine x_aload_n C 0 dX3_init_14 rfl rfl ?_
  refine x_iconst (v := (0 : Int32)) C dX3_init_15 (by decide) ?_
  have k95_2 := (congrFun eu2 95).trans (hup_s _ _ _)
  obtain ⟨u3, eu3⟩ : ∃ w : HpT, w = (hup u2 95 (.inr (2, [.int (0 : Int32), .int (0 : Int32), .int (0 : Int32), .int (0 : Int32), .int (0 : Int32), .int (0 : Int32), .int (0 : Int32), .int (0 : Int32), .int (0 : Int32), .int (0 : Int32), .null, .null]))) := ⟨_, rfl⟩
  refine pfX3_18 C dX3_init_16 k95_2 (Nat.le_of_ble_eq_true rfl) rfl eu3.symm ?_
  refine x_aload_n C 0 dX3_init_19 rfl rfl ?_
  refine x_iconst (v := (0 : Int32)) C dX3_init_20 (by decide) ?_
  have k95_3 := (congrFun eu3 95).trans (hup_s _ _ _)
  obtain ⟨u4, eu4⟩ : ∃ w : HpT, w = (hup u3 95 (.inr (2, [.int (0 : Int32), .int (0 : Int32), .int (0 : Int32), .int (0 : Int32), .int (0 : Int32), .int (0 : Int32), .int (0 : Int32), .int (0 : Int32), .int (0 : Int32), .int (0 : Int32), .null, .null]))) := ⟨_, rfl⟩
  refine pfX3_21 C dX3_init_21 k95_3 (Nat.le_of_ble_eq_true rfl) rfl eu4.symm ?_
  refine x_aload_n C 0 dX3_init_24 rfl rfl ?_
  refine x_iconst (v := (-1 : Int32)) C dX3_init_25 (by decide) ?_
  have k95_4 := (congrFun eu4 95).trans (hup_s _ _ _)
  obtain ⟨u5, eu5⟩ : ∃ w : HpT, w = (hup u4 95 (.inr (2, [.int (0 : Int32), .int (0 : Int32), .int (0 : Int32), .int (0 : Int32), .int (-1 : Int32), .int (0 : Int32), .int (0 : Int32), .int (0 : Int32), .int (0 : Int32), .int (0 : Int32), .null, .null]))) := ⟨_, rfl⟩
  refine pfX3_24 C dX3_init_26 k95_4 (Nat.le_of_ble_eq_true rfl) rfl eu5.symm ?_
  refine x_aload_n C 0 dX3_init_29 rfl rfl ?_
  refine x_iconst (v := (0 : Int32)) C dX3_init_30 (by decide) ?_
  have k95_5 := (congrFun eu5 95).trans (hup_s _ _ _)
  obtain ⟨u6, eu6⟩ : ∃ w : HpT, w = (hup u5 95 (.inr (2, [.int (0 : Int32), .int (0 : Int32), .int (0 : Int32), .int (0 : Int32), .int (-1 : Int32), .int (0 : Int32), .int (0 : Int32), .int (0 : Int32), .int (0 : Int32), .int (0 : Int32), .null, .null]))) := ⟨_, rfl⟩
  refine pfX3_27 C dX3_init_31 k95_5 (Nat.le_of_ble_eq_true rfl) rfl eu6.symm ?_
  refine x_aload_n C 0 dX3_init_34 rfl rfl ?_
  refine x_iconst (v := (-1 : Int32)) C dX3_init_35 (by decide) ?_
  have k95_6 := (congrFun eu6 95).trans (hup_s _ _ _)
  obtain ⟨u7, eu7⟩ : ∃ w : HpT, w = (hup u6 95 (.inr (2, [.int (0 : Int32), .int (0 : Int32), .int (0 : Int32), .int (0 : Int32), .int (-1 : Int32), .int (0 : Int32), .int (-1 : Int32), .int (0 : Int32), .int (0 : Int32), .int (0 : Int32), .null, .null]))) := ⟨_, rfl⟩
  refine pfX3_30 C dX3_init_36 k95_6 (Nat.le_of_ble_eq_true rfl) rfl eu7.symm ?_
  refine x_aload_n C 0 dX3_init_39 rfl rfl ?_
  refine x_iconst (v := (0 : Int32)) C dX3_init_40 (by decide) ?_
  have k95_7 := (congrFun eu7 95).trans (hup_s _ _ _)
  obtain ⟨u8, eu8⟩ : ∃ w : HpT, w = (hup u7 95 (.inr (2, [.int (0 : Int32), .int (0 : Int32), .int (0 : Int32), .int (0 : Int32), .int (-1 : Int32), .int (0 : Int32), .int (-1 : Int32), .int (0 : Int32), .int (0 : Int32), .int (0 : Int32), .null, .null]))) := ⟨_, rfl⟩
  refine pfX3_33 C dX3_init_41 k95_7 (Nat.le_of_ble_eq_true rfl) rfl eu8.symm ?_
  refine x_aload_n C 0 dX3_init_44 rfl rfl ?_
  refine x_iconst (v := (0 : Int32)) C dX3_init_45 (by decide) ?_
  have k95_8 := (congrFun eu8 95).trans (hup_s _ _ _)
  obtain ⟨u9, eu9⟩ : ∃ w : HpT, w = (hup u8 95 (.inr (2, [.int (0 : Int32), .int (0 : Int32), .int (0 : Int32), .int (0 : Int32), .int (-1 : Int32), .int (0 : Int32), .int (-1 : Int32), .int (0 : Int32), .int (0 : Int32), .int (0 : Int32), .null, .null]))) := ⟨_, rfl⟩
  refine pfX3_36 C dX3_init_46 k95_8 (Nat.le_of_ble_eq_true rfl) rfl eu9.symm ?_
  refine x_aload_n C 0 dX3_init_49 rfl rfl ?_
  refine x_iconst (v := (0 : Int32)) C dX3_init_50 (by decide) ?_
  have k95_9 := (congrFun eu9 95).trans (hup_s _ _ _)
  obtain ⟨u10, eu10⟩ : ∃ w : HpT, w = (hup u9 95 (.inr (2, [.int (0 : Int32), .int (0 : Int32), .int (0 : Int32), .int (0 : Int32), .int (-1 : Int32), .int (0 : Int32), .int (-1 : Int32), .int (0 : Int32), .int (0 : Int32), .int (0 : Int32), .null, .null]))) := ⟨_, rfl⟩
  refine pfX3_39 C dX3_init_51 k95_9 (Nat.le_of_ble_eq_true rfl) rfl eu10.symm ?_
  refine x_aload_n C 0 dX3_init_54 rfl rfl ?_
  refine x_bipush (v := (6 : Int32)) C dX3_init_55 (by decide) ?_
  refine x_newI C ka_int 6 (by decide) (by decide) (Nat.le_of_ble_eq_true rfl) (Nat.le_of_ble_eq_true rfl) (Nat.le_of_ble_eq_true rfl) dX3_init_57 ?_
  obtain ⟨u11, eu11⟩ : ∃ w : HpT, w = (hup u10 96 (aI G 6 (fun _ => 0))) := ⟨_, rfl⟩
  refine x_norm (st2 := [.ref (z + 96), .ref (z + 95)]) (kc2 := 1) (ks2 := 6) (n2 := 97) rfl rfl rfl rfl eu11.symm ?_
  have k95_10 := (congrFun eu10 95).trans (hup_s _ _ _)
  have k95_11 := (congrFun eu11 95).trans (hup_n' (by decide) (k95_10))
  obtain ⟨u12, eu12⟩ : ∃ w : HpT, w = (hup u11 95 (.inr (2, [.int (0 : Int32), .int (0 : Int32), .int (0 : Int32), .int (0 : Int32), .int (-1 : Int32), .int (0 : Int32), .int (-1 : Int32), .int (0 : Int32), .int (0 : Int32), .int (0 : Int32), .ref (z + 96), .null]))) := ⟨_, rfl⟩
  refine pfX3_42 C dX3_init_59 hnm k95_11 (Nat.le_of_ble_eq_true rfl) rfl eu12.symm ?_
  refine x_aload_n C 0 dX3_init_62 rfl rfl ?_
  refine x_bipush (v := (6 : Int32)) C dX3_init_63 (by decide) ?_
  refine x_newI C ka_int 6 (by decide) (by decide) (Nat.le_of_ble_eq_true rfl) (Nat.le_of_ble_eq_true rfl) (Nat.le_of_ble_eq_true rfl) dX3_init_65 ?_
  obtain ⟨u13, eu13⟩ : ∃ w : HpT, w = (hup u12 97 (aI G 6 (fun _ => 0))) := ⟨_, rfl⟩
  refine x_norm (st2 := [.ref (z + 97), .ref (z + 95)]) (kc2 := 2) (ks2 := 12) (n2 := 98) rfl rfl rfl rfl eu13.symm ?_
  have k95_12 := (congrFun eu12 95).trans (hup_s _ _ _)
  have k95_13 := (congrFun eu13 95).trans (hup_n' (by decide) (k95_12))
  obtain ⟨u14, eu14⟩ : ∃ w : HpT, w = (hup u13 95 (.inr (2, [.int (0 : Int32), .int (0 : Int32), .int (0 : Int32), .int (0 : Int32), .int (-1 : Int32), .int (0 : Int32), .int (-1 : Int32), .int (0 : Int32), .int (0 : Int32), .int (0 : Int32), .ref (z + 96), .ref (z + 97)]))) := ⟨_, rfl⟩
  refine pfX3_46 C dX3_init_67 hnm k95_13 (Nat.le_of_ble_eq_true rfl) rfl eu14.symm ?_
  exact x_vret C hr hlk (Nat.le_of_ble_eq_true rfl) (Nat.le_of_ble_eq_true rfl) dX3_init_70 rfl (by rw [eu14, eu13, eu12, eu11, eu10, eu9, eu8, eu7, eu6, eu5, eu4, eu3, eu2, eu1]; simp only [hup_hup, hup_sk, ne_eq, Nat.reduceEqDiff, not_false_eq_true]) rfl
