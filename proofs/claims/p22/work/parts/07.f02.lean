def f_X1_stepsRound (b0 : Nat) (a1 : Int32) (w : Mem) : Option (Int32) :=
  (f_X1_hasMatter b0 a1 w).bind fun r1 => ((if r1 = 0 then some ((0 : Int32)) else rd 8 (w (b0 + 2)) a1 fun x5 => some (x5)) : Option Int32).bind fun v2 => lp (S := (Int32 × Int32)) (T := Int32) (fun s21 => (if (w b0 2) < s21.2 then some (Sum.inr ((-1 : Int32))) else (f_X9_holds s21.1 a1).bind fun r3 => (if r3 = 0 then (f_X1_oneStepFrom b0 s21.1 w).bind fun r4 => some (Sum.inl (r4, (s21.2 + (1 : Int32)))) else some (Sum.inr (s21.2))))) 5000000000 (v2, (1 : Int32))
set_option maxRecDepth 20000 in
set_option maxHeartbeats 4000000 in
theorem tf_X1_stepsRound {G : GT} {l : Launch} {z n : Nat} (b0 : Nat) (hb0 : BrO b0) (a1 : Int32) (w : Mem) (q : Int32) (hq : f_X1_stepsRound b0 a1 w = some q) : Mt G l z yX1_stepsRound cX1_stepsRound 4 (some .int) { frames := 2, cells := 0, slots := 0, locals := 44 } [.ref (z + b0), .int a1] (hp G z w) n (some (.int q)) (hp G z w) n := by
  refine mt_of (by decide +kernel) (Nat.le_of_ble_eq_true rfl) ?_
  intro p e s m below meth c C hr hlk hnm
  refine (?_ : DX p l e _ s m _ below meth c G z 4 n _ (fun v => v = q) 0 [(0, .ref (z + b0)), (1, .int a1)] [] w (f_X1_stepsRound b0 a1 w)) q hq rfl
  unfold f_X1_stepsRound
  refine dx_aload_n C 0 dX1_stepsRound_0 rfl rfl ?_
  refine dx_iload_n C 1 dX1_stepsRound_1 rfl rfl ?_
  refine dx_callV1 C cl_X1_hasMatter kmX1_58 (ci := 0) (b := b0) (As := [.int a1]) (rest := []) rfl (hp_of (lyBr0 hb0)) (tf_X1_hasMatter b0 hb0 a1 w) rfl rfl (Nat.le_of_ble_eq_true rfl) ⟨Nat.le_of_ble_eq_true rfl, Nat.le_of_ble_eq_true rfl⟩ dX1_stepsRound_2 (fun r1 => ?_)
  refine dx_bind 18 (fun v2 => [(0, .ref (z + b0)), (1, .int a1)]) (fun v2 => [.int v2]) (fun v2 => w) (fun v2 => (?_ : DX p l e _ s m _ below meth c G z 4 n _ _ 18 [(0, .ref (z + b0)), (1, .int a1)] [.int v2] w _)) ?_
  · refine dx_istore_n C [(2, .int v2), (0, .ref (z + b0)), (1, .int a1)] dX1_stepsRound_18 rfl (by decide) rfl ?_
    refine dx_iconst (v := (1 : Int32)) C dX1_stepsRound_19 (by decide) ?_
    refine dx_istore_n C [(3, .int (1 : Int32)), (2, .int v2), (0, .ref (z + b0)), (1, .int a1)] dX1_stepsRound_20 rfl (by decide) rfl ?_
    refine dx_mv (lo2 := [(0, .ref (z + b0)), (1, .int a1), (2, .int v2), (3, .int (1 : Int32))]) [2, 3, 1, 0] rfl ?_
    refine dx_lp (fun s21 => [(0, .ref (z + b0)), (1, .int a1), (2, .int s21.1), (3, .int s21.2)]) [] (fun s21 => w) (fun s21 => (?_ : DX p l e _ s m _ below meth c G z 4 n _ _ 21 [(0, .ref (z + b0)), (1, .int a1), (2, .int s21.1), (3, .int s21.2)] [] w _)) 5000000000 (v2, (1 : Int32))
    refine dx_iload_n C 3 dX1_stepsRound_21 rfl rfl ?_
    refine dx_aload_n C 0 dX1_stepsRound_22 rfl rfl ?_
    refine dgX1_18 C hb0 dX1_stepsRound_23 ?_
    refine dx_icmp_gt C 51 dX1_stepsRound_26 (by decide) ?_ ?_
    · refine dx_iconst (v := (-1 : Int32)) C dX1_stepsRound_51 (by decide) ?_
      exact dx_iret1 C hr hlk dX1_stepsRound_52 (fun h => h)
    · refine dx_iload_n C 2 dX1_stepsRound_29 rfl rfl ?_
      refine dx_iload_n C 1 dX1_stepsRound_30 rfl rfl ?_
      refine dx_callSN1 C cl_X9_holds knX1_50 (As := [.int s21.1, .int a1]) (rest := []) (tf_X9_holds s21.1 a1 w) rfl rfl (Nat.le_of_ble_eq_true rfl) ⟨Nat.le_of_ble_eq_true rfl, Nat.le_of_ble_eq_true rfl⟩ dX1_stepsRound_31 (fun r3 => ?_)
      refine dx_if_eq C 39 dX1_stepsRound_34 (by decide) ?_ ?_
      · refine dx_aload_n C 0 dX1_stepsRound_39 rfl rfl ?_
        refine dx_iload_n C 2 dX1_stepsRound_40 rfl rfl ?_
        refine dx_callV1 C cl_X1_oneStepFrom kmX1_72 (ci := 0) (b := b0) (As := [.int s21.1]) (rest := []) rfl (hp_of (lyBr0 hb0)) (tf_X1_oneStepFrom b0 hb0 s21.1 w) rfl rfl (Nat.le_of_ble_eq_true rfl) ⟨Nat.le_of_ble_eq_true rfl, Nat.le_of_ble_eq_true rfl⟩ dX1_stepsRound_41 (fun r4 => ?_)
        refine dx_istore_n C [(2, .int r4), (0, .ref (z + b0)), (1, .int a1), (3, .int s21.2)] dX1_stepsRound_44 rfl (by decide) rfl ?_
        refine dx_iinc (v := (s21.2 + (1 : Int32))) C 3 [(3, .int (s21.2 + (1 : Int32))), (2, .int r4), (0, .ref (z + b0)), (1, .int a1)] dX1_stepsRound_45 rfl rfl (by decide) rfl ?_
        refine dx_goto C 21 dX1_stepsRound_48 (by decide) ?_
        refine dx_mv (lo2 := [(0, .ref (z + b0)), (1, .int a1), (2, .int r4), (3, .int (s21.2 + (1 : Int32)))]) [2, 3, 1, 0] rfl ?_
        exact dx_end (fun h => h)
      · refine dx_iload_n C 3 dX1_stepsRound_37 rfl rfl ?_
        exact dx_iret1 C hr hlk dX1_stepsRound_38 (fun h => h)
  · refine dx_if_eq C 17 dX1_stepsRound_5 (by decide) ?_ ?_
    · refine dx_iconst (v := (0 : Int32)) C dX1_stepsRound_17 (by decide) ?_
      exact dx_end (fun h => h)
    · refine dx_aload_n C 0 dX1_stepsRound_8 rfl rfl ?_
      refine dgX1_28 C hb0 dX1_stepsRound_9 ?_
      refine dx_iload_n C 1 dX1_stepsRound_12 rfl rfl ?_
      refine dx_rd C (lyBr2 hb0) dX1_stepsRound_13 (fun x5 => ?_)
      refine dx_goto C 18 dX1_stepsRound_14 (by decide) ?_
      exact dx_end (fun h => h)
def f_X9_matter (a1 : Int32) (a2 : Int32) (w : Mem) : Option (Int32) :=
  (f_X1_hasMatter (brp (w 0 8)) a1 w).bind fun r1 => (if r1 = 0 then some ((-1000000001 : Int32)) else (if a2 = (0 : Int32) then rd 8 (w ((brp (w 0 8)) + 1)) a1 fun x2 => some (x2) else (if a2 = (1 : Int32) then rd 8 (w ((brp (w 0 8)) + 2)) a1 fun x4 => some (x4) else (if a2 = (2 : Int32) then (f_X1_leadsFrom (brp (w 0 8)) a1 w).bind fun r6 => some (r6) else (if a2 = (3 : Int32) then (f_X1_stepsRound (brp (w 0 8)) a1 w).bind fun r8 => some (r8) else some ((-1000000002 : Int32)))))))
set_option maxRecDepth 20000 in
set_option maxHeartbeats 4000000 in
theorem tf_X9_matter {G : GT} {l : Launch} {z n : Nat} (a1 : Int32) (a2 : Int32) (w : Mem) (q : Int32) (hq : f_X9_matter a1 a2 w = some q) : Mt G l z yX9_matter cX9_matter 3 (some .int) { frames := 3, cells := 0, slots := 0, locals := 67 } [.ref (z + 0), .int a1, .int a2] (hp G z w) n (some (.int q)) (hp G z w) n := by
  refine mt_of (by decide +kernel) (Nat.le_of_ble_eq_true rfl) ?_
  intro p e s m below meth c C hr hlk hnm
  refine (?_ : DX p l e _ s m _ below meth c G z 3 n _ (fun v => v = q) 0 [(0, .ref (z + 0)), (1, .int a1), (2, .int a2)] [] w (f_X9_matter a1 a2 w)) q hq rfl
  unfold f_X9_matter
  refine dx_aload_n C 0 dX9_matter_0 rfl rfl ?_
  refine dgX9_65 C dX9_matter_1 ?_
  refine dx_iload_n C 1 dX9_matter_4 rfl rfl ?_
  refine dx_callV1 C cl_X1_hasMatter kmX9_176 (ci := 0) (b := (brp (w 0 8))) (As := [.int a1]) (rest := []) rfl (hp_of (lyBr0 (brp_ok (w 0 8)))) (tf_X1_hasMatter (brp (w 0 8)) (brp_ok (w 0 8)) a1 w) rfl rfl (Nat.le_of_ble_eq_true rfl) ⟨Nat.le_of_ble_eq_true rfl, Nat.le_of_ble_eq_true rfl⟩ dX9_matter_5 (fun r1 => ?_)
  refine dx_if_ne C 14 dX9_matter_8 (by decide) ?_ ?_
  · refine dx_iload_n C 2 dX9_matter_14 rfl rfl ?_
    refine dx_ite (fun hs3 => ?_) (fun hs3 => ?_)
    · refine dx_tableIn C 44 dX9_matter_15 (by rw [hs3]; decide) (by rw [hs3]; decide) (by rw [hs3]; rfl) (by decide) ?_
      refine dx_aload_n C 0 dX9_matter_44 rfl rfl ?_
      refine dgX9_65 C dX9_matter_45 ?_
      refine dgX9_180 C (brp_ok (w 0 8)) dX9_matter_48 ?_
      refine dx_iload_n C 1 dX9_matter_51 rfl rfl ?_
      refine dx_rd C (lyBr1 (brp_ok (w 0 8))) dX9_matter_52 (fun x2 => ?_)
      exact dx_iret1 C hr hlk dX9_matter_53 (fun h => h)
    · refine dx_ite (fun hs5 => ?_) (fun hs5 => ?_)
      · refine dx_tableIn C 54 dX9_matter_15 (by rw [hs5]; decide) (by rw [hs5]; decide) (by rw [hs5]; rfl) (by decide) ?_
        refine dx_aload_n C 0 dX9_matter_54 rfl rfl ?_
        refine dgX9_65 C dX9_matter_55 ?_
        refine dgX9_184 C (brp_ok (w 0 8)) dX9_matter_58 ?_
        refine dx_iload_n C 1 dX9_matter_61 rfl rfl ?_
        refine dx_rd C (lyBr2 (brp_ok (w 0 8))) dX9_matter_62 (fun x4 => ?_)
        exact dx_iret1 C hr hlk dX9_matter_63 (fun h => h)
      · refine dx_ite (fun hs7 => ?_) (fun hs7 => ?_)
        · refine dx_tableIn C 64 dX9_matter_15 (by rw [hs7]; decide) (by rw [hs7]; decide) (by rw [hs7]; rfl) (by decide) ?_
          refine dx_aload_n C 0 dX9_matter_64 rfl rfl ?_
          refine dgX9_65 C dX9_matter_65 ?_
          refine dx_iload_n C 1 dX9_matter_68 rfl rfl ?_
          refine dx_callV1 C cl_X1_leadsFrom kmX9_187 (ci := 0) (b := (brp (w 0 8))) (As := [.int a1]) (rest := []) rfl (hp_of (lyBr0 (brp_ok (w 0 8)))) (tf_X1_leadsFrom (brp (w 0 8)) (brp_ok (w 0 8)) a1 w) rfl rfl (Nat.le_of_ble_eq_true rfl) ⟨Nat.le_of_ble_eq_true rfl, Nat.le_of_ble_eq_true rfl⟩ dX9_matter_69 (fun r6 => ?_)
          exact dx_iret1 C hr hlk dX9_matter_72 (fun h => h)
        · refine dx_ite (fun hs9 => ?_) (fun hs9 => ?_)
          · refine dx_tableIn C 73 dX9_matter_15 (by rw [hs9]; decide) (by rw [hs9]; decide) (by rw [hs9]; rfl) (by decide) ?_
            refine dx_aload_n C 0 dX9_matter_73 rfl rfl ?_
            refine dgX9_65 C dX9_matter_74 ?_
            refine dx_iload_n C 1 dX9_matter_77 rfl rfl ?_
            refine dx_callV1 C cl_X1_stepsRound kmX9_190 (ci := 0) (b := (brp (w 0 8))) (As := [.int a1]) (rest := []) rfl (hp_of (lyBr0 (brp_ok (w 0 8)))) (tf_X1_stepsRound (brp (w 0 8)) (brp_ok (w 0 8)) a1 w) rfl rfl (Nat.le_of_ble_eq_true rfl) ⟨Nat.le_of_ble_eq_true rfl, Nat.le_of_ble_eq_true rfl⟩ dX9_matter_78 (fun r8 => ?_)
            exact dx_iret1 C hr hlk dX9_matter_81 (fun h => h)
          · have ehs3 : (a2).toInt ≠ 0 := fun q => hs3 ((i_eq_iff _ _).mpr (q.trans (by decide)))
            have ehs5 : (a2).toInt ≠ 1 := fun q => hs5 ((i_eq_iff _ _).mpr (q.trans (by decide)))
            have ehs7 : (a2).toInt ≠ 2 := fun q => hs7 ((i_eq_iff _ _).mpr (q.trans (by decide)))
            have ehs9 : (a2).toInt ≠ 3 := fun q => hs9 ((i_eq_iff _ _).mpr (q.trans (by decide)))
            refine dx_tableOut C 82 dX9_matter_15 (by omega) (by decide) ?_
            refine dx_ldc C kcX9_80 dX9_matter_82 ?_
            exact dx_iret1 C hr hlk dX9_matter_84 (fun h => h)
  · refine dx_ldc C kcX9_179 dX9_matter_11 ?_
    exact dx_iret1 C hr hlk dX9_matter_13 (fun h => h)
def f_X1_mostWaiting (b0 : Nat) (a1 : Int32) (w : Mem) : Option (Int32) :=
  (f_X1_hasTraveller b0 a1 w).bind fun r1 => (if r1 = 0 then some ((0 : Int32)) else rd 6 (w (b0 + 4)) a1 fun x2 => some (((60 : Int32) - ((5 : Int32) * x2))))
set_option maxRecDepth 20000 in
set_option maxHeartbeats 4000000 in
theorem tf_X1_mostWaiting {G : GT} {l : Launch} {z n : Nat} (b0 : Nat) (hb0 : BrO b0) (a1 : Int32) (w : Mem) (q : Int32) (hq : f_X1_mostWaiting b0 a1 w = some q) : Mt G l z yX1_mostWaiting cX1_mostWaiting 2 (some .int) { frames := 1, cells := 0, slots := 0, locals := 21 } [.ref (z + b0), .int a1] (hp G z w) n (some (.int q)) (hp G z w) n := by
  refine mt_of (by decide +kernel) (Nat.le_of_ble_eq_true rfl) ?_
  intro p e s m below meth c C hr hlk hnm
  refine (?_ : DX p l e _ s m _ below meth c G z 2 n _ (fun v => v = q) 0 [(0, .ref (z + b0)), (1, .int a1)] [] w (f_X1_mostWaiting b0 a1 w)) q hq rfl
  unfold f_X1_mostWaiting
  refine dx_aload_n C 0 dX1_mostWaiting_0 rfl rfl ?_
  refine dx_iload_n C 1 dX1_mostWaiting_1 rfl rfl ?_
  refine dx_callV1 C cl_X1_hasTraveller kmX1_54 (ci := 0) (b := b0) (As := [.int a1]) (rest := []) rfl (hp_of (lyBr0 hb0)) (tf_X1_hasTraveller b0 hb0 a1 w) rfl rfl (Nat.le_of_ble_eq_true rfl) ⟨Nat.le_of_ble_eq_true rfl, Nat.le_of_ble_eq_true rfl⟩ dX1_mostWaiting_2 (fun r1 => ?_)
  refine dx_if_eq C 22 dX1_mostWaiting_5 (by decide) ?_ ?_
  · refine dx_iconst (v := (0 : Int32)) C dX1_mostWaiting_22 (by decide) ?_
    exact dx_iret1 C hr hlk dX1_mostWaiting_23 (fun h => h)
  · refine dx_bipush (v := (60 : Int32)) C dX1_mostWaiting_8 (by decide) ?_
    refine dx_iconst (v := (5 : Int32)) C dX1_mostWaiting_10 (by decide) ?_
    refine dx_aload_n C 0 dX1_mostWaiting_11 rfl rfl ?_
    refine dgX1_34 C hb0 dX1_mostWaiting_12 ?_
    refine dx_iload_n C 1 dX1_mostWaiting_15 rfl rfl ?_
    refine dx_rd C (lyBr4 hb0) dX1_mostWaiting_16 (fun x2 => ?_)
    refine dx_imul C dX1_mostWaiting_17 ?_
    refine dx_isub C dX1_mostWaiting_18 ?_
    refine dx_goto C 23 dX1_mostWaiting_19 (by decide) ?_
    exact dx_iret1 C hr hlk dX1_mostWaiting_23 (fun h => h)
def f_X3_patienceOf (b1 : Nat) (a2 : Int32) (w : Mem) : Option (Int32) :=
  (f_X1_hasTraveller b1 a2 w).bind fun r1 => (if r1 = 0 then some ((0 : Int32)) else (f_X9_holds (w 3 7) a2).bind fun r2 => (if r2 = 0 then some ((0 : Int32)) else (f_X1_mostWaiting b1 a2 w).bind fun r3 => rd 6 (w 4) a2 fun x4 => some ((r3 - x4))))
set_option maxRecDepth 20000 in
set_option maxHeartbeats 4000000 in
theorem tf_X3_patienceOf {G : GT} {l : Launch} {z n : Nat} (b1 : Nat) (hb1 : BrO b1) (a2 : Int32) (w : Mem) (q : Int32) (hq : f_X3_patienceOf b1 a2 w = some q) : Mt G l z yX3_patienceOf cX3_patienceOf 3 (some .int) { frames := 2, cells := 0, slots := 0, locals := 42 } [.ref (z + 3), .ref (z + b1), .int a2] (hp G z w) n (some (.int q)) (hp G z w) n := by
  refine mt_of (by decide +kernel) (Nat.le_of_ble_eq_true rfl) ?_
  intro p e s m below meth c C hr hlk hnm
  refine (?_ : DX p l e _ s m _ below meth c G z 3 n _ (fun v => v = q) 0 [(0, .ref (z + 3)), (1, .ref (z + b1)), (2, .int a2)] [] w (f_X3_patienceOf b1 a2 w)) q hq rfl
  unfold f_X3_patienceOf
  refine dx_aload_n C 1 dX3_patienceOf_0 rfl rfl ?_
  refine dx_iload_n C 2 dX3_patienceOf_1 rfl rfl ?_
  refine dx_callV1 C cl_X1_hasTraveller kmX3_72 (ci := 0) (b := b1) (As := [.int a2]) (rest := []) rfl (hp_of (lyBr0 hb1)) (tf_X1_hasTraveller b1 hb1 a2 w) rfl rfl (Nat.le_of_ble_eq_true rfl) ⟨Nat.le_of_ble_eq_true rfl, Nat.le_of_ble_eq_true rfl⟩ dX3_patienceOf_2 (fun r1 => ?_)
  refine dx_if_eq C 34 dX3_patienceOf_5 (by decide) ?_ ?_
  · refine dx_iconst (v := (0 : Int32)) C dX3_patienceOf_34 (by decide) ?_
    exact dx_iret1 C hr hlk dX3_patienceOf_35 (fun h => h)
  · refine dx_aload_n C 0 dX3_patienceOf_8 rfl rfl ?_
    refine dgX3_33 C (Or.inl rfl) dX3_patienceOf_9 ?_
    refine dx_iload_n C 2 dX3_patienceOf_12 rfl rfl ?_
    refine dx_callSN1 C cl_X9_holds knX3_68 (As := [.int (w 3 7), .int a2]) (rest := []) (tf_X9_holds (w 3 7) a2 w) rfl rfl (Nat.le_of_ble_eq_true rfl) ⟨Nat.le_of_ble_eq_true rfl, Nat.le_of_ble_eq_true rfl⟩ dX3_patienceOf_13 (fun r2 => ?_)
    refine dx_if_eq C 34 dX3_patienceOf_16 (by decide) ?_ ?_
    · refine dx_iconst (v := (0 : Int32)) C dX3_patienceOf_34 (by decide) ?_
      exact dx_iret1 C hr hlk dX3_patienceOf_35 (fun h => h)
    · refine dx_aload_n C 1 dX3_patienceOf_19 rfl rfl ?_
      refine dx_iload_n C 2 dX3_patienceOf_20 rfl rfl ?_
      refine dx_callV1 C cl_X1_mostWaiting kmX3_117 (ci := 0) (b := b1) (As := [.int a2]) (rest := []) rfl (hp_of (lyBr0 hb1)) (tf_X1_mostWaiting b1 hb1 a2 w) rfl rfl (Nat.le_of_ble_eq_true rfl) ⟨Nat.le_of_ble_eq_true rfl, Nat.le_of_ble_eq_true rfl⟩ dX3_patienceOf_21 (fun r3 => ?_)
      refine dx_aload_n C 0 dX3_patienceOf_24 rfl rfl ?_
      refine dgX3_42 C (Or.inl rfl) dX3_patienceOf_25 ?_
      refine dx_iload_n C 2 dX3_patienceOf_28 rfl rfl ?_
      refine dx_rd C ly_4 dX3_patienceOf_29 (fun x4 => ?_)
      refine dx_isub C dX3_patienceOf_30 ?_
      refine dx_goto C 35 dX3_patienceOf_31 (by decide) ?_
      exact dx_iret1 C hr hlk dX3_patienceOf_35 (fun h => h)
def f_X1_favouriteOf (b0 : Nat) (a1 : Int32) (w : Mem) : Option (Int32) :=
  (lp (S := (Int32 × Int32 × Int32)) (T := Int32) (fun s7 => (if s7.2.2 < (w b0 2) then (f_X1_stayOf b0 a1 s7.2.2 w).bind fun r1 => ((if s7.2.1 < r1 then some ((s7.2.2, r1)) else some ((s7.1, s7.2.1))) : Option (Int32 × Int32)).bind fun v2 => some (Sum.inl (v2.1, v2.2, (s7.2.2 + (1 : Int32)))) else some (Sum.inr s7.1))) 5000000000 ((-1 : Int32), (0 : Int32), (0 : Int32))).bind fun v3 => some (v3)
set_option maxRecDepth 20000 in
set_option maxHeartbeats 4000000 in
theorem tf_X1_favouriteOf {G : GT} {l : Launch} {z n : Nat} (b0 : Nat) (hb0 : BrO b0) (a1 : Int32) (w : Mem) (q : Int32) (hq : f_X1_favouriteOf b0 a1 w = some q) : Mt G l z yX1_favouriteOf cX1_favouriteOf 6 (some .int) { frames := 2, cells := 0, slots := 0, locals := 43 } [.ref (z + b0), .int a1] (hp G z w) n (some (.int q)) (hp G z w) n := by
  refine mt_of (by decide +kernel) (Nat.le_of_ble_eq_true rfl) ?_
  intro p e s m below meth c C hr hlk hnm
  refine (?_ : DX p l e _ s m _ below meth c G z 6 n _ (fun v => v = q) 0 [(0, .ref (z + b0)), (1, .int a1)] [] w (f_X1_favouriteOf b0 a1 w)) q hq rfl
  unfold f_X1_favouriteOf
  refine dx_iconst (v := (-1 : Int32)) C dX1_favouriteOf_0 (by decide) ?_
  refine dx_istore_n C [(2, .int (-1 : Int32)), (0, .ref (z + b0)), (1, .int a1)] dX1_favouriteOf_1 rfl (by decide) rfl ?_
  refine dx_iconst (v := (0 : Int32)) C dX1_favouriteOf_2 (by decide) ?_
  refine dx_istore_n C [(3, .int (0 : Int32)), (2, .int (-1 : Int32)), (0, .ref (z + b0)), (1, .int a1)] dX1_favouriteOf_3 rfl (by decide) rfl ?_
  refine dx_iconst (v := (0 : Int32)) C dX1_favouriteOf_4 (by decide) ?_
  refine dx_istore C [(4, .int (0 : Int32)), (3, .int (0 : Int32)), (2, .int (-1 : Int32)), (0, .ref (z + b0)), (1, .int a1)] dX1_favouriteOf_5 (by decide) rfl ?_
  refine dx_mv (lo2 := [(0, .ref (z + b0)), (1, .int a1), (2, .int (-1 : Int32)), (3, .int (0 : Int32)), (4, .int (0 : Int32))]) [3, 4, 2, 1, 0] rfl ?_
  refine dx_bind 43 (fun v3 => [(2, .int v3)]) (fun v3 => []) (fun v3 => w) (fun v3 => (?_ : DX p l e _ s m _ below meth c G z 6 n _ _ 43 [(2, .int v3)] [] w _)) ?_
  · refine dx_iload_n C 0 dX1_favouriteOf_43 rfl rfl ?_
    exact dx_iret1 C hr hlk dX1_favouriteOf_44 (fun h => h)
  · refine dx_lp (fun s7 => [(0, .ref (z + b0)), (1, .int a1), (2, .int s7.1), (3, .int s7.2.1), (4, .int s7.2.2)]) [] (fun s7 => w) (fun s7 => (?_ : DX p l e _ s m _ below meth c G z 6 n _ _ 7 [(0, .ref (z + b0)), (1, .int a1), (2, .int s7.1), (3, .int s7.2.1), (4, .int s7.2.2)] [] w _)) 5000000000 ((-1 : Int32), (0 : Int32), (0 : Int32))
    refine dx_iload C 4 dX1_favouriteOf_7 rfl ?_
    refine dx_aload_n C 0 dX1_favouriteOf_9 rfl rfl ?_
    refine dgX1_18 C hb0 dX1_favouriteOf_10 ?_
    refine dx_icmp_ge C 43 dX1_favouriteOf_13 (by decide) ?_ ?_
    · refine dx_mv (lo2 := [(2, .int s7.1)]) [2] rfl ?_
      exact dx_end (fun h => h)
    · refine dx_aload_n C 0 dX1_favouriteOf_16 rfl rfl ?_
      refine dx_iload_n C 1 dX1_favouriteOf_17 rfl rfl ?_
      refine dx_iload C 4 dX1_favouriteOf_18 rfl ?_
      refine dx_callV1 C cl_X1_stayOf kmX1_75 (ci := 0) (b := b0) (As := [.int a1, .int s7.2.2]) (rest := []) rfl (hp_of (lyBr0 hb0)) (tf_X1_stayOf b0 hb0 a1 s7.2.2 w) rfl rfl (Nat.le_of_ble_eq_true rfl) ⟨Nat.le_of_ble_eq_true rfl, Nat.le_of_ble_eq_true rfl⟩ dX1_favouriteOf_20 (fun r1 => ?_)
      refine dx_istore C [(5, .int r1), (0, .ref (z + b0)), (1, .int a1), (2, .int s7.1), (3, .int s7.2.1), (4, .int s7.2.2)] dX1_favouriteOf_23 (by decide) rfl ?_
      refine dx_iload C 0 dX1_favouriteOf_25 rfl ?_
      refine dx_iload_n C 4 dX1_favouriteOf_27 rfl rfl ?_
      refine dx_bind 37 (fun v2 => [(0, .ref (z + b0)), (1, .int a1), (2, .int v2.1), (3, .int v2.2), (4, .int s7.2.2)]) (fun v2 => []) (fun v2 => w) (fun v2 => (?_ : DX p l e _ s m _ below meth c G z 6 n _ _ 37 [(0, .ref (z + b0)), (1, .int a1), (2, .int v2.1), (3, .int v2.2), (4, .int s7.2.2)] [] w _)) ?_
      · refine dx_iinc (v := (s7.2.2 + (1 : Int32))) C 4 [(4, .int (s7.2.2 + (1 : Int32))), (0, .ref (z + b0)), (1, .int a1), (2, .int v2.1), (3, .int v2.2)] dX1_favouriteOf_37 rfl rfl (by decide) rfl ?_
        refine dx_goto C 7 dX1_favouriteOf_40 (by decide) ?_
        refine dx_mv (lo2 := [(0, .ref (z + b0)), (1, .int a1), (2, .int v2.1), (3, .int v2.2), (4, .int (s7.2.2 + (1 : Int32)))]) [1, 2, 3, 4, 0] rfl ?_
        exact dx_end (fun h => h)
      · refine dx_icmp_le C 37 dX1_favouriteOf_28 (by decide) ?_ ?_
        · refine dx_mv (lo2 := [(0, .ref (z + b0)), (1, .int a1), (2, .int s7.1), (3, .int s7.2.1), (4, .int s7.2.2)]) [1, 2, 3, 4, 5] rfl ?_
          exact dx_end (fun h => h)
        · refine dx_iload C 0 dX1_favouriteOf_31 rfl ?_
          refine dx_istore_n C [(3, .int r1), (5, .int r1), (0, .ref (z + b0)), (1, .int a1), (2, .int s7.1), (4, .int s7.2.2)] dX1_favouriteOf_33 rfl (by decide) rfl ?_
          refine dx_iload C 5 dX1_favouriteOf_34 rfl ?_
          refine dx_istore_n C [(2, .int s7.2.2), (3, .int r1), (5, .int r1), (0, .ref (z + b0)), (1, .int a1), (4, .int s7.2.2)] dX1_favouriteOf_36 rfl (by decide) rfl ?_
          refine dx_mv (lo2 := [(0, .ref (z + b0)), (1, .int a1), (2, .int s7.2.2), (3, .int r1), (4, .int s7.2.2)]) [3, 4, 0, 1, 5] rfl ?_
          exact dx_end (fun h => h)
def f_X9_traveller (a1 : Int32) (a2 : Int32) (w : Mem) : Option (Int32) :=
  (f_X1_hasTraveller (brp (w 0 8)) a1 w).bind fun r1 => (if r1 = 0 then some ((-1000000001 : Int32)) else (if a2 = (0 : Int32) then rd 6 (w ((brp (w 0 8)) + 3)) a1 fun x2 => some (x2) else (if a2 = (1 : Int32) then rd 6 (w ((brp (w 0 8)) + 4)) a1 fun x4 => some (x4) else (if a2 = (2 : Int32) then rd 6 (w ((brp (w 0 8)) + 5)) a1 fun x6 => some (x6) else (if a2 = (3 : Int32) then rd 6 (w 5) a1 fun x8 => some (x8) else (if a2 = (4 : Int32) then rd 6 (w 4) a1 fun x10 => some (x10) else (if a2 = (5 : Int32) then (f_X3_patienceOf (brp (w 0 8)) a1 w).bind fun r12 => some (r12) else (if a2 = (6 : Int32) then (f_X1_favouriteOf (brp (w 0 8)) a1 w).bind fun r14 => some (r14) else some ((-1000000002 : Int32))))))))))
set_option maxRecDepth 20000 in
set_option maxHeartbeats 4000000 in
theorem tf_X9_traveller {G : GT} {l : Launch} {z n : Nat} (a1 : Int32) (a2 : Int32) (w : Mem) (q : Int32) (hq : f_X9_traveller a1 a2 w = some q) : Mt G l z yX9_traveller cX9_traveller 3 (some .int) { frames := 3, cells := 0, slots := 0, locals := 68 } [.ref (z + 0), .int a1, .int a2] (hp G z w) n (some (.int q)) (hp G z w) n := by
  refine mt_of (by decide +kernel) (Nat.le_of_ble_eq_true rfl) ?_
  intro p e s m below meth c C hr hlk hnm
  refine (?_ : DX p l e _ s m _ below meth c G z 3 n _ (fun v => v = q) 0 [(0, .ref (z + 0)), (1, .int a1), (2, .int a2)] [] w (f_X9_traveller a1 a2 w)) q hq rfl
  unfold f_X9_traveller
  refine dx_aload_n C 0 dX9_traveller_0 rfl rfl ?_
  refine dgX9_65 C dX9_traveller_1 ?_
  refine dx_iload_n C 1 dX9_traveller_4 rfl rfl ?_
  refine dx_callV1 C cl_X1_hasTraveller kmX9_193 (ci := 0) (b := (brp (w 0 8))) (As := [.int a1]) (rest := []) rfl (hp_of (lyBr0 (brp_ok (w 0 8)))) (tf_X1_hasTraveller (brp (w 0 8)) (brp_ok (w 0 8)) a1 w) rfl rfl (Nat.le_of_ble_eq_true rfl) ⟨Nat.le_of_ble_eq_true rfl, Nat.le_of_ble_eq_true rfl⟩ dX9_traveller_5 (fun r1 => ?_)
  refine dx_if_ne C 14 dX9_traveller_8 (by decide) ?_ ?_
  · refine dx_iload_n C 2 dX9_traveller_14 rfl rfl ?_
    refine dx_ite (fun hs3 => ?_) (fun hs3 => ?_)
    · refine dx_tableIn C 56 dX9_traveller_15 (by rw [hs3]; decide) (by rw [hs3]; decide) (by rw [hs3]; rfl) (by decide) ?_
      refine dx_aload_n C 0 dX9_traveller_56 rfl rfl ?_
      refine dgX9_65 C dX9_traveller_57 ?_
      refine dgX9_196 C (brp_ok (w 0 8)) dX9_traveller_60 ?_
      refine dx_iload_n C 1 dX9_traveller_63 rfl rfl ?_
      refine dx_rd C (lyBr3 (brp_ok (w 0 8))) dX9_traveller_64 (fun x2 => ?_)
      exact dx_iret1 C hr hlk dX9_traveller_65 (fun h => h)
    · refine dx_ite (fun hs5 => ?_) (fun hs5 => ?_)
      · refine dx_tableIn C 66 dX9_traveller_15 (by rw [hs5]; decide) (by rw [hs5]; decide) (by rw [hs5]; rfl) (by decide) ?_
        refine dx_aload_n C 0 dX9_traveller_66 rfl rfl ?_
        refine dgX9_65 C dX9_traveller_67 ?_
        refine dgX9_199 C (brp_ok (w 0 8)) dX9_traveller_70 ?_
        refine dx_iload_n C 1 dX9_traveller_73 rfl rfl ?_
        refine dx_rd C (lyBr4 (brp_ok (w 0 8))) dX9_traveller_74 (fun x4 => ?_)
        exact dx_iret1 C hr hlk dX9_traveller_75 (fun h => h)
      · refine dx_ite (fun hs7 => ?_) (fun hs7 => ?_)
        · refine dx_tableIn C 76 dX9_traveller_15 (by rw [hs7]; decide) (by rw [hs7]; decide) (by rw [hs7]; rfl) (by decide) ?_
          refine dx_aload_n C 0 dX9_traveller_76 rfl rfl ?_
          refine dgX9_65 C dX9_traveller_77 ?_
          refine dgX9_202 C (brp_ok (w 0 8)) dX9_traveller_80 ?_
          refine dx_iload_n C 1 dX9_traveller_83 rfl rfl ?_
          refine dx_rd C (lyBr5 (brp_ok (w 0 8))) dX9_traveller_84 (fun x6 => ?_)
          exact dx_iret1 C hr hlk dX9_traveller_85 (fun h => h)
        · refine dx_ite (fun hs9 => ?_) (fun hs9 => ?_)
          · refine dx_tableIn C 86 dX9_traveller_15 (by rw [hs9]; decide) (by rw [hs9]; decide) (by rw [hs9]; rfl) (by decide) ?_
            refine dx_aload_n C 0 dX9_traveller_86 rfl rfl ?_
            refine dgX9_19 C dX9_traveller_87 ?_
            refine dgX9_205 C (Or.inl rfl) dX9_traveller_90 ?_
            refine dx_iload_n C 1 dX9_traveller_93 rfl rfl ?_
            refine dx_rd C ly_5 dX9_traveller_94 (fun x8 => ?_)
            exact dx_iret1 C hr hlk dX9_traveller_95 (fun h => h)
          · refine dx_ite (fun hs11 => ?_) (fun hs11 => ?_)
            · refine dx_tableIn C 96 dX9_traveller_15 (by rw [hs11]; decide) (by rw [hs11]; decide) (by rw [hs11]; rfl) (by decide) ?_
              refine dx_aload_n C 0 dX9_traveller_96 rfl rfl ?_
              refine dgX9_19 C dX9_traveller_97 ?_
              refine dgX9_208 C (Or.inl rfl) dX9_traveller_100 ?_
              refine dx_iload_n C 1 dX9_traveller_103 rfl rfl ?_
              refine dx_rd C ly_4 dX9_traveller_104 (fun x10 => ?_)
              exact dx_iret1 C hr hlk dX9_traveller_105 (fun h => h)
            · refine dx_ite (fun hs13 => ?_) (fun hs13 => ?_)
              · refine dx_tableIn C 106 dX9_traveller_15 (by rw [hs13]; decide) (by rw [hs13]; decide) (by rw [hs13]; rfl) (by decide) ?_
                refine dx_aload_n C 0 dX9_traveller_106 rfl rfl ?_
                refine dgX9_19 C dX9_traveller_107 ?_
                refine dx_aload_n C 0 dX9_traveller_110 rfl rfl ?_
                refine dgX9_65 C dX9_traveller_111 ?_
                refine dx_iload_n C 1 dX9_traveller_114 rfl rfl ?_
                refine dx_callV1 C cl_X3_patienceOf kmX9_211 (ci := 2) (b := 3) (As := [.ref (z + (brp (w 0 8))), .int a1]) (rest := []) rfl (hp_of ly_3) (tf_X3_patienceOf (brp (w 0 8)) (brp_ok (w 0 8)) a1 w) rfl rfl (Nat.le_of_ble_eq_true rfl) ⟨Nat.le_of_ble_eq_true rfl, Nat.le_of_ble_eq_true rfl⟩ dX9_traveller_115 (fun r12 => ?_)
                exact dx_iret1 C hr hlk dX9_traveller_118 (fun h => h)
              · refine dx_ite (fun hs15 => ?_) (fun hs15 => ?_)
                · refine dx_tableIn C 119 dX9_traveller_15 (by rw [hs15]; decide) (by rw [hs15]; decide) (by rw [hs15]; rfl) (by decide) ?_
                  refine dx_aload_n C 0 dX9_traveller_119 rfl rfl ?_
                  refine dgX9_65 C dX9_traveller_120 ?_
                  refine dx_iload_n C 1 dX9_traveller_123 rfl rfl ?_
                  refine dx_callV1 C cl_X1_favouriteOf kmX9_214 (ci := 0) (b := (brp (w 0 8))) (As := [.int a1]) (rest := []) rfl (hp_of (lyBr0 (brp_ok (w 0 8)))) (tf_X1_favouriteOf (brp (w 0 8)) (brp_ok (w 0 8)) a1 w) rfl rfl (Nat.le_of_ble_eq_true rfl) ⟨Nat.le_of_ble_eq_true rfl, Nat.le_of_ble_eq_true rfl⟩ dX9_traveller_124 (fun r14 => ?_)
                  exact dx_iret1 C hr hlk dX9_traveller_127 (fun h => h)
                · have ehs3 : (a2).toInt ≠ 0 := fun q => hs3 ((i_eq_iff _ _).mpr (q.trans (by decide)))
                  have ehs5 : (a2).toInt ≠ 1 := fun q => hs5 ((i_eq_iff _ _).mpr (q.trans (by decide)))
                  have ehs7 : (a2).toInt ≠ 2 := fun q => hs7 ((i_eq_iff _ _).mpr (q.trans (by decide)))
                  have ehs9 : (a2).toInt ≠ 3 := fun q => hs9 ((i_eq_iff _ _).mpr (q.trans (by decide)))
                  have ehs11 : (a2).toInt ≠ 4 := fun q => hs11 ((i_eq_iff _ _).mpr (q.trans (by decide)))
                  have ehs13 : (a2).toInt ≠ 5 := fun q => hs13 ((i_eq_iff _ _).mpr (q.trans (by decide)))
                  have ehs15 : (a2).toInt ≠ 6 := fun q => hs15 ((i_eq_iff _ _).mpr (q.trans (by decide)))
                  refine dx_tableOut C 128 dX9_traveller_15 (by omega) (by decide) ?_
                  refine dx_ldc C kcX9_80 dX9_traveller_128 ?_
                  exact dx_iret1 C hr hlk dX9_traveller_130 (fun h => h)
  · refine dx_ldc C kcX9_179 dX9_traveller_11 ?_
    exact dx_iret1 C hr hlk dX9_traveller_13 (fun h => h)
def f_X3_copyFrom (b0 : Nat) (b1 : Nat) (w : Mem) : Option (Mem) :=
  pw b0 0 (w b1 0) w fun w1 => pw b0 1 (w1 b1 1) w1 fun w2 => pw b0 2 (w2 b1 2) w2 fun w3 => pw b0 3 (w3 b1 3) w3 fun w4 => pw b0 4 (w4 b1 4) w4 fun w5 => pw b0 5 (w5 b1 5) w5 fun w6 => pw b0 6 (w6 b1 6) w6 fun w7 => pw b0 7 (w7 b1 7) w7 fun w8 => pw b0 8 (w8 b1 8) w8 fun w9 => pw b0 9 (w9 b1 9) w9 fun w10 => (lp (S := (Int32 × Mem)) (T := Mem) (fun s82 => (if s82.1 < (6 : Int32) then rd 6 (s82.2 (b1 + 1)) s82.1 fun x11 => wr 6 (b0 + 1) s82.1 x11 s82.2 fun w12 => rd 6 (w12 (b1 + 2)) s82.1 fun x13 => wr 6 (b0 + 2) s82.1 x13 w12 fun w14 => some (Sum.inl ((s82.1 + (1 : Int32)), w14)) else some (Sum.inr s82.2))) 5000000000 ((0 : Int32), w10)).bind fun v15 => some (v15)
set_option maxRecDepth 20000 in
set_option maxHeartbeats 4000000 in
theorem tf_X3_copyFrom {G : GT} {l : Launch} {z n : Nat} (b0 : Nat) (hb0 : EvO b0) (b1 : Nat) (hb1 : EvO b1) (w : Mem) (q : Mem) (hq : f_X3_copyFrom b0 b1 w = some q) : Mt G l z yX3_copyFrom cX3_copyFrom 3 none { frames := 0, cells := 0, slots := 0, locals := 0 } [.ref (z + b0), .ref (z + b1)] (hp G z w) n none (hp G z q) n := by
  refine mt_of (by decide +kernel) (Nat.le_of_ble_eq_true rfl) ?_
  intro p e s m below meth c C hr hlk hnm
  refine (?_ : DX p l e _ s m _ below meth c G z 3 n _ (fun v => v = q) 0 [(0, .ref (z + b0)), (1, .ref (z + b1))] [] w (f_X3_copyFrom b0 b1 w)) q hq rfl
  unfold f_X3_copyFrom
  refine dx_aload_n C 0 dX3_copyFrom_0 rfl rfl ?_
  refine dx_aload_n C 1 dX3_copyFrom_1 rfl rfl ?_
  refine dgX3_9 C hb1 dX3_copyFrom_2 ?_
  refine dpX3_9 C hb0 dX3_copyFrom_5 (fun w1 => ?_)
  refine dx_aload_n C 0 dX3_copyFrom_8 rfl rfl ?_
  refine dx_aload_n C 1 dX3_copyFrom_9 rfl rfl ?_
  refine dgX3_15 C hb1 dX3_copyFrom_10 ?_
  refine dpX3_15 C hb0 dX3_copyFrom_13 (fun w2 => ?_)
  refine dx_aload_n C 0 dX3_copyFrom_16 rfl rfl ?_
  refine dx_aload_n C 1 dX3_copyFrom_17 rfl rfl ?_
  refine dgX3_18 C hb1 dX3_copyFrom_18 ?_
  refine dpX3_18 C hb0 dX3_copyFrom_21 (fun w3 => ?_)
  refine dx_aload_n C 0 dX3_copyFrom_24 rfl rfl ?_
  refine dx_aload_n C 1 dX3_copyFrom_25 rfl rfl ?_
  refine dgX3_21 C hb1 dX3_copyFrom_26 ?_
  refine dpX3_21 C hb0 dX3_copyFrom_29 (fun w4 => ?_)
  refine dx_aload_n C 0 dX3_copyFrom_32 rfl rfl ?_
  refine dx_aload_n C 1 dX3_copyFrom_33 rfl rfl ?_
  refine dgX3_24 C hb1 dX3_copyFrom_34 ?_
  refine dpX3_24 C hb0 dX3_copyFrom_37 (fun w5 => ?_)
  refine dx_aload_n C 0 dX3_copyFrom_40 rfl rfl ?_
  refine dx_aload_n C 1 dX3_copyFrom_41 rfl rfl ?_
  refine dgX3_27 C hb1 dX3_copyFrom_42 ?_
  refine dpX3_27 C hb0 dX3_copyFrom_45 (fun w6 => ?_)
  refine dx_aload_n C 0 dX3_copyFrom_48 rfl rfl ?_
  refine dx_aload_n C 1 dX3_copyFrom_49 rfl rfl ?_
  refine dgX3_30 C hb1 dX3_copyFrom_50 ?_
  refine dpX3_30 C hb0 dX3_copyFrom_53 (fun w7 => ?_)
  refine dx_aload_n C 0 dX3_copyFrom_56 rfl rfl ?_
  refine dx_aload_n C 1 dX3_copyFrom_57 rfl rfl ?_
  refine dgX3_33 C hb1 dX3_copyFrom_58 ?_
  refine dpX3_33 C hb0 dX3_copyFrom_61 (fun w8 => ?_)
  refine dx_aload_n C 0 dX3_copyFrom_64 rfl rfl ?_
  refine dx_aload_n C 1 dX3_copyFrom_65 rfl rfl ?_
  refine dgX3_36 C hb1 dX3_copyFrom_66 ?_
  refine dpX3_36 C hb0 dX3_copyFrom_69 (fun w9 => ?_)
  refine dx_aload_n C 0 dX3_copyFrom_72 rfl rfl ?_
  refine dx_aload_n C 1 dX3_copyFrom_73 rfl rfl ?_
  refine dgX3_39 C hb1 dX3_copyFrom_74 ?_
  refine dpX3_39 C hb0 dX3_copyFrom_77 (fun w10 => ?_)
  refine dx_iconst (v := (0 : Int32)) C dX3_copyFrom_80 (by decide) ?_
  refine dx_istore_n C [(2, .int (0 : Int32)), (0, .ref (z + b0)), (1, .ref (z + b1))] dX3_copyFrom_81 rfl (by decide) rfl ?_
  refine dx_mv (lo2 := [(0, .ref (z + b0)), (1, .ref (z + b1)), (2, .int (0 : Int32))]) [1, 2, 0] rfl ?_
  refine dx_bind 118 (fun v15 => []) (fun v15 => []) (fun v15 => v15) (fun v15 => (?_ : DX p l e _ s m _ below meth c G z 3 n _ _ 118 [] [] v15 _)) ?_
  · exact dx_vret C hr hlk dX3_copyFrom_118 (fun h => h)
  · refine dx_lp (fun s82 => [(0, .ref (z + b0)), (1, .ref (z + b1)), (2, .int s82.1)]) [] (fun s82 => s82.2) (fun s82 => (?_ : DX p l e _ s m _ below meth c G z 3 n _ _ 82 [(0, .ref (z + b0)), (1, .ref (z + b1)), (2, .int s82.1)] [] s82.2 _)) 5000000000 ((0 : Int32), w10)
    refine dx_iload_n C 2 dX3_copyFrom_82 rfl rfl ?_
    refine dx_bipush (v := (6 : Int32)) C dX3_copyFrom_83 (by decide) ?_
    refine dx_icmp_ge C 118 dX3_copyFrom_85 (by decide) ?_ ?_
    · refine dx_mv (lo2 := []) [] rfl ?_
      exact dx_end (fun h => h)
    · refine dx_aload_n C 0 dX3_copyFrom_88 rfl rfl ?_
      refine dgX3_42 C hb0 dX3_copyFrom_89 ?_
      refine dx_iload_n C 2 dX3_copyFrom_92 rfl rfl ?_
      refine dx_aload_n C 1 dX3_copyFrom_93 rfl rfl ?_
      refine dgX3_42 C hb1 dX3_copyFrom_94 ?_
      refine dx_iload_n C 2 dX3_copyFrom_97 rfl rfl ?_
      refine dx_rd C (lyEv1 hb1) dX3_copyFrom_98 (fun x11 => ?_)
      refine dx_wr C (lyEv1 hb0) dX3_copyFrom_99 (fun w12 => ?_)
      refine dx_aload_n C 0 dX3_copyFrom_100 rfl rfl ?_
      refine dgX3_46 C hb0 dX3_copyFrom_101 ?_
      refine dx_iload_n C 2 dX3_copyFrom_104 rfl rfl ?_
      refine dx_aload_n C 1 dX3_copyFrom_105 rfl rfl ?_
      refine dgX3_46 C hb1 dX3_copyFrom_106 ?_
      refine dx_iload_n C 2 dX3_copyFrom_109 rfl rfl ?_
      refine dx_rd C (lyEv2 hb1) dX3_copyFrom_110 (fun x13 => ?_)
      refine dx_wr C (lyEv2 hb0) dX3_copyFrom_111 (fun w14 => ?_)
      refine dx_iinc (v := (s82.1 + (1 : Int32))) C 2 [(2, .int (s82.1 + (1 : Int32))), (0, .ref (z + b0)), (1, .ref (z + b1))] dX3_copyFrom_112 rfl rfl (by decide) rfl ?_
      refine dx_goto C 82 dX3_copyFrom_115 (by decide) ?_
      refine dx_mv (lo2 := [(0, .ref (z + b0)), (1, .ref (z + b1)), (2, .int (s82.1 + (1 : Int32)))]) [1, 2, 0] rfl ?_
      exact dx_end (fun h => h)
def f_X6_remember (w : Mem) : Option (Mem) :=
  rg (w 6 2) fun o1 => (f_X3_copyFrom o1 3 w).bind fun w2 => pw 6 2 (((w2 6 2) + (1 : Int32)) - ((w2 6 2) + (1 : Int32)) / (30 : Int32) * (30 : Int32)) w2 fun w3 => pw 6 1 (if (30 : Int32) < ((w3 6 1) + (1 : Int32)) then (30 : Int32) else ((w3 6 1) + (1 : Int32))) w3 fun w4 => some (w4)
set_option maxRecDepth 20000 in
set_option maxHeartbeats 4000000 in
theorem tf_X6_remember {G : GT} {l : Launch} {z n : Nat} (w : Mem) (q : Mem) (hq : f_X6_remember w = some q) : Mt G l z yX6_remember cX6_remember 2 none { frames := 1, cells := 0, slots := 0, locals := 22 } [.ref (z + 6), .ref (z + 3)] (hp G z w) n none (hp G z q) n := by
  refine mt_of (by decide +kernel) (Nat.le_of_ble_eq_true rfl) ?_
  intro p e s m below meth c C hr hlk hnm
  refine (?_ : DX p l e _ s m _ below meth c G z 2 n _ (fun v => v = q) 0 [(0, .ref (z + 6)), (1, .ref (z + 3))] [] w (f_X6_remember w)) q hq rfl
  unfold f_X6_remember
  refine dx_aload_n C 0 dX6_remember_0 rfl rfl ?_
  refine dgX6_11 C dX6_remember_1 ?_
  refine dx_aload_n C 0 dX6_remember_4 rfl rfl ?_
  refine dgX6_21 C dX6_remember_5 ?_
  refine dx_ring C dX6_remember_8 (fun o1 ho1 => ?_)
  refine dx_aload_n C 1 dX6_remember_9 rfl rfl ?_
  refine dx_callV3 C cl_X3_copyFrom kmX6_25 (ci := 2) (b := o1) (As := [.ref (z + 3)]) (rest := []) rfl (hp_of (lyEv0 ho1)) (tf_X3_copyFrom o1 ho1 3 (Or.inl rfl) w) rfl rfl (Nat.le_of_ble_eq_true rfl) ⟨Nat.le_of_ble_eq_true rfl, Nat.le_of_ble_eq_true rfl⟩ dX6_remember_10 (fun w2 => ?_)
  refine dx_aload_n C 0 dX6_remember_13 rfl rfl ?_
  refine dx_aload_n C 0 dX6_remember_14 rfl rfl ?_
  refine dgX6_21 C dX6_remember_15 ?_
  refine dx_iconst (v := (1 : Int32)) C dX6_remember_18 (by decide) ?_
  refine dx_iadd C dX6_remember_19 ?_
  refine dx_bipush (v := (30 : Int32)) C dX6_remember_20 (by decide) ?_
  refine dx_irem C dX6_remember_22 (by decide) ?_
  refine dpX6_21 C dX6_remember_23 (fun w3 => ?_)
  refine dx_aload_n C 0 dX6_remember_26 rfl rfl ?_
  refine dx_aload_n C 0 dX6_remember_27 rfl rfl ?_
  refine dgX6_17 C dX6_remember_28 ?_
  refine dx_iconst (v := (1 : Int32)) C dX6_remember_31 (by decide) ?_
  refine dx_iadd C dX6_remember_32 ?_
  refine dx_bipush (v := (30 : Int32)) C dX6_remember_33 (by decide) ?_
  refine dx_min C kmX6_29 kMs_min kzMath kMc_min (Nat.le_of_ble_eq_true rfl) (Nat.le_of_ble_eq_true rfl) dX6_remember_35 ?_
  refine dpX6_17 C dX6_remember_38 (fun w4 => ?_)
  exact dx_vret C hr hlk dX6_remember_41 (fun h => h)
def f_X3_takeSeat (a1 : Int32) (w : Mem) : Option (Mem) :=
  pw 3 7 ((w 3 7) &&& (((1 : Int32) <<< (a1 &&& 31)) ^^^ (-1 : Int32))) w fun w1 => pw 3 4 a1 w1 fun w2 => some (w2)
set_option maxRecDepth 20000 in
set_option maxHeartbeats 4000000 in
theorem tf_X3_takeSeat {G : GT} {l : Launch} {z n : Nat} (a1 : Int32) (w : Mem) (q : Mem) (hq : f_X3_takeSeat a1 w = some q) : Mt G l z yX3_takeSeat cX3_takeSeat 2 none { frames := 0, cells := 0, slots := 0, locals := 0 } [.ref (z + 3), .int a1] (hp G z w) n none (hp G z q) n := by
  refine mt_of (by decide +kernel) (Nat.le_of_ble_eq_true rfl) ?_
  intro p e s m below meth c C hr hlk hnm
  refine (?_ : DX p l e _ s m _ below meth c G z 2 n _ (fun v => v = q) 0 [(0, .ref (z + 3)), (1, .int a1)] [] w (f_X3_takeSeat a1 w)) q hq rfl
  unfold f_X3_takeSeat
  refine dx_aload_n C 0 dX3_takeSeat_0 rfl rfl ?_
  refine dx_dup C dX3_takeSeat_1 rfl ?_
  refine dgX3_33 C (Or.inl rfl) dX3_takeSeat_2 ?_
  refine dx_iconst (v := (1 : Int32)) C dX3_takeSeat_5 (by decide) ?_
  refine dx_iload_n C 1 dX3_takeSeat_6 rfl rfl ?_
  refine dx_ishl C dX3_takeSeat_7 ?_
  refine dx_iconst (v := (-1 : Int32)) C dX3_takeSeat_8 (by decide) ?_
  refine dx_ixor C dX3_takeSeat_9 ?_
  refine dx_iand C dX3_takeSeat_10 ?_
  refine dpX3_33 C (Or.inl rfl) dX3_takeSeat_11 (fun w1 => ?_)
  refine dx_aload_n C 0 dX3_takeSeat_14 rfl rfl ?_
  refine dx_iload_n C 1 dX3_takeSeat_15 rfl rfl ?_
  refine dpX3_24 C (Or.inl rfl) dX3_takeSeat_16 (fun w2 => ?_)
  exact dx_vret C hr hlk dX3_takeSeat_19 (fun h => h)
def f_X9_seat (a1 : Int32) (w : Mem) : Option (Int32 × Mem) :=
  (f_X1_hasTraveller (brp (w 0 8)) a1 w).bind fun r1 => (if r1 = 0 then some (((-1000000001 : Int32), w)) else (if (w 3 4) = (-1 : Int32) then (f_X9_holds (w 3 7) a1).bind fun r2 => (if r2 = 0 then some (((-1000000003 : Int32), w)) else (f_X6_remember w).bind fun w3 => (f_X3_takeSeat a1 w3).bind fun w4 => rd 6 (w4 4) a1 fun x5 => some ((x5, w4))) else some (((-1000000003 : Int32), w))))
set_option maxRecDepth 20000 in
set_option maxHeartbeats 4000000 in
theorem tf_X9_seat {G : GT} {l : Launch} {z n : Nat} (a1 : Int32) (w : Mem) (q : Int32 × Mem) (hq : f_X9_seat a1 w = some q) : Mt G l z yX9_seat cX9_seat 2 (some .int) { frames := 2, cells := 0, slots := 0, locals := 43 } [.ref (z + 0), .int a1] (hp G z w) n (some (.int q.1)) (hp G z q.2) n := by
  refine mt_of (by decide +kernel) (Nat.le_of_ble_eq_true rfl) ?_
  intro p e s m below meth c C hr hlk hnm
  refine (?_ : DX p l e _ s m _ below meth c G z 2 n _ (fun v => v = q) 0 [(0, .ref (z + 0)), (1, .int a1)] [] w (f_X9_seat a1 w)) q hq rfl
  unfold f_X9_seat
  refine dx_aload_n C 0 dX9_seat_0 rfl rfl ?_
  refine dgX9_65 C dX9_seat_1 ?_
  refine dx_iload_n C 1 dX9_seat_4 rfl rfl ?_
  refine dx_callV1 C cl_X1_hasTraveller kmX9_193 (ci := 0) (b := (brp (w 0 8))) (As := [.int a1]) (rest := []) rfl (hp_of (lyBr0 (brp_ok (w 0 8)))) (tf_X1_hasTraveller (brp (w 0 8)) (brp_ok (w 0 8)) a1 w) rfl rfl (Nat.le_of_ble_eq_true rfl) ⟨Nat.le_of_ble_eq_true rfl, Nat.le_of_ble_eq_true rfl⟩ dX9_seat_5 (fun r1 => ?_)
  refine dx_if_ne C 14 dX9_seat_8 (by decide) ?_ ?_
  · refine dx_aload_n C 0 dX9_seat_14 rfl rfl ?_
    refine dgX9_19 C dX9_seat_15 ?_
    refine dgX9_158 C (Or.inl rfl) dX9_seat_18 ?_
    refine dx_iconst (v := (-1 : Int32)) C dX9_seat_21 (by decide) ?_
    refine dx_icmp_ne C 39 dX9_seat_22 (by decide) ?_ ?_
    · refine dx_ldc C kcX9_221 dX9_seat_39 ?_
      exact dx_iret2 C hr hlk dX9_seat_41 (fun h => h)
    · refine dx_aload_n C 0 dX9_seat_25 rfl rfl ?_
      refine dgX9_19 C dX9_seat_26 ?_
      refine dgX9_167 C (Or.inl rfl) dX9_seat_29 ?_
      refine dx_iload_n C 1 dX9_seat_32 rfl rfl ?_
      refine dx_callS1 C cl_X9_holds kmX9_217 (As := [.int (w 3 7), .int a1]) (rest := []) (tf_X9_holds (w 3 7) a1 w) rfl rfl (Nat.le_of_ble_eq_true rfl) ⟨Nat.le_of_ble_eq_true rfl, Nat.le_of_ble_eq_true rfl⟩ dX9_seat_33 (fun r2 => ?_)
      refine dx_if_ne C 42 dX9_seat_36 (by decide) ?_ ?_
      · refine dx_aload_n C 0 dX9_seat_42 rfl rfl ?_
        refine dgX9_26 C dX9_seat_43 ?_
        refine dx_aload_n C 0 dX9_seat_46 rfl rfl ?_
        refine dgX9_19 C dX9_seat_47 ?_
        refine dx_callV3 C cl_X6_remember kmX9_222 (ci := 5) (b := 6) (As := [.ref (z + 3)]) (rest := []) rfl (hp_of ly_6) (tf_X6_remember w) rfl rfl (Nat.le_of_ble_eq_true rfl) ⟨Nat.le_of_ble_eq_true rfl, Nat.le_of_ble_eq_true rfl⟩ dX9_seat_50 (fun w3 => ?_)
        refine dx_aload_n C 0 dX9_seat_53 rfl rfl ?_
        refine dgX9_19 C dX9_seat_54 ?_
        refine dx_iload_n C 1 dX9_seat_57 rfl rfl ?_
        refine dx_callV3 C cl_X3_takeSeat kmX9_226 (ci := 2) (b := 3) (As := [.int a1]) (rest := []) rfl (hp_of ly_3) (tf_X3_takeSeat a1 w3) rfl rfl (Nat.le_of_ble_eq_true rfl) ⟨Nat.le_of_ble_eq_true rfl, Nat.le_of_ble_eq_true rfl⟩ dX9_seat_58 (fun w4 => ?_)
        refine dx_aload_n C 0 dX9_seat_61 rfl rfl ?_
        refine dgX9_19 C dX9_seat_62 ?_
        refine dgX9_208 C (Or.inl rfl) dX9_seat_65 ?_
        refine dx_iload_n C 1 dX9_seat_68 rfl rfl ?_
        refine dx_rd C ly_4 dX9_seat_69 (fun x5 => ?_)
        exact dx_iret2 C hr hlk dX9_seat_70 (fun h => h)
      · refine dx_ldc C kcX9_221 dX9_seat_39 ?_
        exact dx_iret2 C hr hlk dX9_seat_41 (fun h => h)
  · refine dx_ldc C kcX9_179 dX9_seat_11 ?_
    exact dx_iret2 C hr hlk dX9_seat_13 (fun h => h)
def f_X3_canHear (a1 : Int32) (w : Mem) : Option (Int32) :=
  (if (w 3 4) = (-1 : Int32) then some ((0 : Int32)) else (f_X9_holds (w 3 3) a1).bind fun r1 => (if r1 = 0 then some ((0 : Int32)) else (f_X9_holds (w 3 5) a1).bind fun r2 => (if r2 = 0 then some ((1 : Int32)) else some ((0 : Int32)))))
set_option maxRecDepth 20000 in
set_option maxHeartbeats 4000000 in
theorem tf_X3_canHear {G : GT} {l : Launch} {z n : Nat} (a1 : Int32) (w : Mem) (q : Int32) (hq : f_X3_canHear a1 w = some q) : Mt G l z yX3_canHear cX3_canHear 2 (some .boolean) { frames := 1, cells := 0, slots := 0, locals := 21 } [.ref (z + 3), .int a1] (hp G z w) n (some (.int q)) (hp G z w) n := by
  refine mt_of (by decide +kernel) (Nat.le_of_ble_eq_true rfl) ?_
  intro p e s m below meth c C hr hlk hnm
  refine (?_ : DX p l e _ s m _ below meth c G z 2 n _ (fun v => v = q) 0 [(0, .ref (z + 3)), (1, .int a1)] [] w (f_X3_canHear a1 w)) q hq rfl
  unfold f_X3_canHear
  refine dx_aload_n C 0 dX3_canHear_0 rfl rfl ?_
  refine dgX3_24 C (Or.inl rfl) dX3_canHear_1 ?_
  refine dx_iconst (v := (-1 : Int32)) C dX3_canHear_4 (by decide) ?_
  refine dx_icmp_eq C 34 dX3_canHear_5 (by decide) ?_ ?_
  · refine dx_iconst (v := (0 : Int32)) C dX3_canHear_34 (by decide) ?_
    exact dx_zret1 C hr hlk (by decide) dX3_canHear_35 (fun h => h)
  · refine dx_aload_n C 0 dX3_canHear_8 rfl rfl ?_
    refine dgX3_21 C (Or.inl rfl) dX3_canHear_9 ?_
    refine dx_iload_n C 1 dX3_canHear_12 rfl rfl ?_
    refine dx_callSN1 C cl_X9_holds knX3_68 (As := [.int (w 3 3), .int a1]) (rest := []) (tf_X9_holds (w 3 3) a1 w) rfl rfl (Nat.le_of_ble_eq_true rfl) ⟨Nat.le_of_ble_eq_true rfl, Nat.le_of_ble_eq_true rfl⟩ dX3_canHear_13 (fun r1 => ?_)
    refine dx_if_eq C 34 dX3_canHear_16 (by decide) ?_ ?_
    · refine dx_iconst (v := (0 : Int32)) C dX3_canHear_34 (by decide) ?_
      exact dx_zret1 C hr hlk (by decide) dX3_canHear_35 (fun h => h)
    · refine dx_aload_n C 0 dX3_canHear_19 rfl rfl ?_
      refine dgX3_27 C (Or.inl rfl) dX3_canHear_20 ?_
      refine dx_iload_n C 1 dX3_canHear_23 rfl rfl ?_
      refine dx_callSN1 C cl_X9_holds knX3_68 (As := [.int (w 3 5), .int a1]) (rest := []) (tf_X9_holds (w 3 5) a1 w) rfl rfl (Nat.le_of_ble_eq_true rfl) ⟨Nat.le_of_ble_eq_true rfl, Nat.le_of_ble_eq_true rfl⟩ dX3_canHear_24 (fun r2 => ?_)
      refine dx_if_ne C 34 dX3_canHear_27 (by decide) ?_ ?_
      · refine dx_iconst (v := (0 : Int32)) C dX3_canHear_34 (by decide) ?_
        exact dx_zret1 C hr hlk (by decide) dX3_canHear_35 (fun h => h)
      · refine dx_iconst (v := (1 : Int32)) C dX3_canHear_30 (by decide) ?_
        refine dx_goto C 35 dX3_canHear_31 (by decide) ?_
        exact dx_zret1 C hr hlk (by decide) dX3_canHear_35 (fun h => h)
def f_X1_isProfessor (b0 : Nat) (a1 : Int32) (w : Mem) : Option (Int32) :=
  (f_X1_hasTraveller b0 a1 w).bind fun r1 => (if r1 = 0 then some ((0 : Int32)) else rd 6 (w (b0 + 3)) a1 fun x2 => (if x2 = (3 : Int32) then some ((1 : Int32)) else some ((0 : Int32))))
set_option maxRecDepth 20000 in
set_option maxHeartbeats 4000000 in
theorem tf_X1_isProfessor {G : GT} {l : Launch} {z n : Nat} (b0 : Nat) (hb0 : BrO b0) (a1 : Int32) (w : Mem) (q : Int32) (hq : f_X1_isProfessor b0 a1 w = some q) : Mt G l z yX1_isProfessor cX1_isProfessor 2 (some .boolean) { frames := 1, cells := 0, slots := 0, locals := 21 } [.ref (z + b0), .int a1] (hp G z w) n (some (.int q)) (hp G z w) n := by
  refine mt_of (by decide +kernel) (Nat.le_of_ble_eq_true rfl) ?_
  intro p e s m below meth c C hr hlk hnm
  refine (?_ : DX p l e _ s m _ below meth c G z 2 n _ (fun v => v = q) 0 [(0, .ref (z + b0)), (1, .int a1)] [] w (f_X1_isProfessor b0 a1 w)) q hq rfl
  unfold f_X1_isProfessor
  refine dx_aload_n C 0 dX1_isProfessor_0 rfl rfl ?_
  refine dx_iload_n C 1 dX1_isProfessor_1 rfl rfl ?_
  refine dx_callV1 C cl_X1_hasTraveller kmX1_54 (ci := 0) (b := b0) (As := [.int a1]) (rest := []) rfl (hp_of (lyBr0 hb0)) (tf_X1_hasTraveller b0 hb0 a1 w) rfl rfl (Nat.le_of_ble_eq_true rfl) ⟨Nat.le_of_ble_eq_true rfl, Nat.le_of_ble_eq_true rfl⟩ dX1_isProfessor_2 (fun r1 => ?_)
  refine dx_if_eq C 22 dX1_isProfessor_5 (by decide) ?_ ?_
  · refine dx_iconst (v := (0 : Int32)) C dX1_isProfessor_22 (by decide) ?_
    exact dx_zret1 C hr hlk (by decide) dX1_isProfessor_23 (fun h => h)
  · refine dx_aload_n C 0 dX1_isProfessor_8 rfl rfl ?_
    refine dgX1_31 C hb0 dX1_isProfessor_9 ?_
    refine dx_iload_n C 1 dX1_isProfessor_12 rfl rfl ?_
    refine dx_rd C (lyBr3 hb0) dX1_isProfessor_13 (fun x2 => ?_)
    refine dx_iconst (v := (3 : Int32)) C dX1_isProfessor_14 (by decide) ?_
    refine dx_icmp_ne C 22 dX1_isProfessor_15 (by decide) ?_ ?_
    · refine dx_iconst (v := (0 : Int32)) C dX1_isProfessor_22 (by decide) ?_
      exact dx_zret1 C hr hlk (by decide) dX1_isProfessor_23 (fun h => h)
    · refine dx_iconst (v := (1 : Int32)) C dX1_isProfessor_18 (by decide) ?_
      refine dx_goto C 23 dX1_isProfessor_19 (by decide) ?_
      exact dx_zret1 C hr hlk (by decide) dX1_isProfessor_23 (fun h => h)
def f_X3_takeUp (a1 : Int32) (w : Mem) : Option (Mem) :=
  lt ((a1 &&& ((w 3 3) ^^^ (-1 : Int32)))) fun t1 => pw 3 3 ((w 3 3) ||| (t1 &&& (-t1))) w fun w2 => some (w2)
set_option maxRecDepth 20000 in
set_option maxHeartbeats 4000000 in
theorem tf_X3_takeUp {G : GT} {l : Launch} {z n : Nat} (a1 : Int32) (w : Mem) (q : Mem) (hq : f_X3_takeUp a1 w = some q) : Mt G l z yX3_takeUp cX3_takeUp 3 none { frames := 0, cells := 0, slots := 0, locals := 0 } [.ref (z + 3), .int a1] (hp G z w) n none (hp G z q) n := by
  refine mt_of (by decide +kernel) (Nat.le_of_ble_eq_true rfl) ?_
  intro p e s m below meth c C hr hlk hnm
  refine (?_ : DX p l e _ s m _ below meth c G z 3 n _ (fun v => v = q) 0 [(0, .ref (z + 3)), (1, .int a1)] [] w (f_X3_takeUp a1 w)) q hq rfl
  unfold f_X3_takeUp
  refine dx_iload_n C 1 dX3_takeUp_0 rfl rfl ?_
  refine dx_aload_n C 0 dX3_takeUp_1 rfl rfl ?_
  refine dgX3_21 C (Or.inl rfl) dX3_takeUp_2 ?_
  refine dx_iconst (v := (-1 : Int32)) C dX3_takeUp_5 (by decide) ?_
  refine dx_ixor C dX3_takeUp_6 ?_
  refine dx_iand C dX3_takeUp_7 ?_
  refine dx_lt (fun t1 => ?_)
  refine dx_istore_n C [(2, .int t1), (0, .ref (z + 3)), (1, .int a1)] dX3_takeUp_8 rfl (by decide) rfl ?_
  refine dx_aload_n C 1 dX3_takeUp_9 rfl rfl ?_
  refine dx_dup C dX3_takeUp_10 rfl ?_
  refine dgX3_21 C (Or.inl rfl) dX3_takeUp_11 ?_
  refine dx_iload_n C 0 dX3_takeUp_14 rfl rfl ?_
  refine dx_iload_n C 0 dX3_takeUp_15 rfl rfl ?_
  refine dx_ineg C dX3_takeUp_16 ?_
  refine dx_iand C dX3_takeUp_17 ?_
  refine dx_ior C dX3_takeUp_18 ?_
  refine dpX3_21 C (Or.inl rfl) dX3_takeUp_19 (fun w2 => ?_)
  exact dx_vret C hr hlk dX3_takeUp_22 (fun h => h)
def f_X3_leaveSeat (b1 : Nat) (w : Mem) : Option (Int32 × Mem) :=
  (f_X3_emptySeat w).bind fun w1 => (f_X1_hasTraveller b1 (w 3 4) w1).bind fun r2 => (if r2 = 0 then some (((0 : Int32), w1)) else pw 3 8 ((w1 3 8) ||| ((1 : Int32) <<< ((w 3 4) &&& 31))) w1 fun w3 => rd 6 (w3 5) (w 3 4) fun x4 => (f_X1_payFor b1 x4 w3).bind fun r5 => lt ((if ((999999 : Int32) - (w3 3 2)) < r5 then ((999999 : Int32) - (w3 3 2)) else r5)) fun t6 => pw 3 2 ((w3 3 2) + t6) w3 fun w7 => (f_X1_isProfessor b1 (w 3 4) w7).bind fun r8 => ((if r8 = 0 then some (w7) else rd 6 (w7 (b1 + 5)) (w 3 4) fun x10 => (f_X3_takeUp x10 w7).bind fun w11 => some (w11)) : Option Mem).bind fun v9 => some ((t6, v9)))
set_option maxRecDepth 20000 in
set_option maxHeartbeats 4000000 in
theorem tf_X3_leaveSeat {G : GT} {l : Launch} {z n : Nat} (b1 : Nat) (hb1 : BrO b1) (w : Mem) (q : Int32 × Mem) (hq : f_X3_leaveSeat b1 w = some q) : Mt G l z yX3_leaveSeat cX3_leaveSeat 4 (some .int) { frames := 2, cells := 0, slots := 0, locals := 42 } [.ref (z + 3), .ref (z + b1)] (hp G z w) n (some (.int q.1)) (hp G z q.2) n := by
  refine mt_of (by decide +kernel) (Nat.le_of_ble_eq_true rfl) ?_
  intro p e s m below meth c C hr hlk hnm
  refine (?_ : DX p l e _ s m _ below meth c G z 4 n _ (fun v => v = q) 0 [(0, .ref (z + 3)), (1, .ref (z + b1))] [] w (f_X3_leaveSeat b1 w)) q hq rfl
  unfold f_X3_leaveSeat
  refine dx_aload_n C 0 dX3_leaveSeat_0 rfl rfl ?_
  refine dgX3_24 C (Or.inl rfl) dX3_leaveSeat_1 ?_
  refine dx_istore_n C [(2, .int (w 3 4)), (0, .ref (z + 3)), (1, .ref (z + b1))] dX3_leaveSeat_4 rfl (by decide) rfl ?_
  refine dx_aload_n C 1 dX3_leaveSeat_5 rfl rfl ?_
  refine dx_callV3 C cl_X3_emptySeat kmX3_58 (ci := 2) (b := 3) (As := []) (rest := []) rfl (hp_of ly_3) (tf_X3_emptySeat w) rfl rfl (Nat.le_of_ble_eq_true rfl) ⟨Nat.le_of_ble_eq_true rfl, Nat.le_of_ble_eq_true rfl⟩ dX3_leaveSeat_6 (fun w1 => ?_)
  refine dx_aload_n C 2 dX3_leaveSeat_9 rfl rfl ?_
  refine dx_iload_n C 0 dX3_leaveSeat_10 rfl rfl ?_
  refine dx_callV1 C cl_X1_hasTraveller kmX3_72 (ci := 0) (b := b1) (As := [.int (w 3 4)]) (rest := []) rfl (hp_of (lyBr0 hb1)) (tf_X1_hasTraveller b1 hb1 (w 3 4) w1) rfl rfl (Nat.le_of_ble_eq_true rfl) ⟨Nat.le_of_ble_eq_true rfl, Nat.le_of_ble_eq_true rfl⟩ dX3_leaveSeat_11 (fun r2 => ?_)
  refine dx_if_ne C 19 dX3_leaveSeat_14 (by decide) ?_ ?_
  · refine dx_aload_n C 1 dX3_leaveSeat_19 rfl rfl ?_
    refine dx_dup C dX3_leaveSeat_20 rfl ?_
    refine dgX3_36 C (Or.inl rfl) dX3_leaveSeat_21 ?_
    refine dx_iconst (v := (1 : Int32)) C dX3_leaveSeat_24 (by decide) ?_
    refine dx_iload_n C 0 dX3_leaveSeat_25 rfl rfl ?_
    refine dx_ishl C dX3_leaveSeat_26 ?_
    refine dx_ior C dX3_leaveSeat_27 ?_
    refine dpX3_36 C (Or.inl rfl) dX3_leaveSeat_28 (fun w3 => ?_)
    refine dx_aload_n C 2 dX3_leaveSeat_31 rfl rfl ?_
    refine dx_aload_n C 1 dX3_leaveSeat_32 rfl rfl ?_
    refine dgX3_46 C (Or.inl rfl) dX3_leaveSeat_33 ?_
    refine dx_iload_n C 0 dX3_leaveSeat_36 rfl rfl ?_
    refine dx_rd C ly_5 dX3_leaveSeat_37 (fun x4 => ?_)
    refine dx_callV1 C cl_X1_payFor kmX3_98 (ci := 0) (b := b1) (As := [.int x4]) (rest := []) rfl (hp_of (lyBr0 hb1)) (tf_X1_payFor b1 hb1 x4 w3) rfl rfl (Nat.le_of_ble_eq_true rfl) ⟨Nat.le_of_ble_eq_true rfl, Nat.le_of_ble_eq_true rfl⟩ dX3_leaveSeat_38 (fun r5 => ?_)
    refine dx_ldc C kcX3_101 dX3_leaveSeat_41 ?_
    refine dx_aload_n C 1 dX3_leaveSeat_43 rfl rfl ?_
    refine dgX3_18 C (Or.inl rfl) dX3_leaveSeat_44 ?_
    refine dx_isub C dX3_leaveSeat_47 ?_
    refine dx_min C kmX3_102 kMs_min kzMath kMc_min (Nat.le_of_ble_eq_true rfl) (Nat.le_of_ble_eq_true rfl) dX3_leaveSeat_48 ?_
    refine dx_lt (fun t6 => ?_)
    refine dx_istore_n C [(3, .int t6), (2, .int (w 3 4)), (0, .ref (z + 3)), (1, .ref (z + b1))] dX3_leaveSeat_51 rfl (by decide) rfl ?_
    refine dx_aload_n C 2 dX3_leaveSeat_52 rfl rfl ?_
    refine dx_dup C dX3_leaveSeat_53 rfl ?_
    refine dgX3_18 C (Or.inl rfl) dX3_leaveSeat_54 ?_
    refine dx_iload_n C 0 dX3_leaveSeat_57 rfl rfl ?_
    refine dx_iadd C dX3_leaveSeat_58 ?_
    refine dpX3_18 C (Or.inl rfl) dX3_leaveSeat_59 (fun w7 => ?_)
    refine dx_aload_n C 3 dX3_leaveSeat_62 rfl rfl ?_
    refine dx_iload_n C 1 dX3_leaveSeat_63 rfl rfl ?_
    refine dx_callV1 C cl_X1_isProfessor kmX3_107 (ci := 0) (b := b1) (As := [.int (w 3 4)]) (rest := []) rfl (hp_of (lyBr0 hb1)) (tf_X1_isProfessor b1 hb1 (w 3 4) w7) rfl rfl (Nat.le_of_ble_eq_true rfl) ⟨Nat.le_of_ble_eq_true rfl, Nat.le_of_ble_eq_true rfl⟩ dX3_leaveSeat_64 (fun r8 => ?_)
    refine dx_bind 80 (fun v9 => [(3, .int t6)]) (fun v9 => []) (fun v9 => v9) (fun v9 => (?_ : DX p l e _ s m _ below meth c G z 4 n _ _ 80 [(3, .int t6)] [] v9 _)) ?_
    · refine dx_iload_n C 0 dX3_leaveSeat_80 rfl rfl ?_
      exact dx_iret2 C hr hlk dX3_leaveSeat_81 (fun h => h)
    · refine dx_if_eq C 80 dX3_leaveSeat_67 (by decide) ?_ ?_
      · refine dx_mv (lo2 := [(3, .int t6)]) [0] rfl ?_
        exact dx_end (fun h => h)
      · refine dx_aload_n C 2 dX3_leaveSeat_70 rfl rfl ?_
        refine dx_aload_n C 3 dX3_leaveSeat_71 rfl rfl ?_
        refine dgX3_110 C hb1 dX3_leaveSeat_72 ?_
        refine dx_iload_n C 1 dX3_leaveSeat_75 rfl rfl ?_
        refine dx_rd C (lyBr5 hb1) dX3_leaveSeat_76 (fun x10 => ?_)
        refine dx_callV3 C cl_X3_takeUp kmX3_113 (ci := 2) (b := 3) (As := [.int x10]) (rest := []) rfl (hp_of ly_3) (tf_X3_takeUp x10 w7) rfl rfl (Nat.le_of_ble_eq_true rfl) ⟨Nat.le_of_ble_eq_true rfl, Nat.le_of_ble_eq_true rfl⟩ dX3_leaveSeat_77 (fun w11 => ?_)
        refine dx_mv (lo2 := [(3, .int t6)]) [0] rfl ?_
        exact dx_end (fun h => h)
  · refine dx_iconst (v := (0 : Int32)) C dX3_leaveSeat_17 (by decide) ?_
    exact dx_iret2 C hr hlk dX3_leaveSeat_18 (fun h => h)
def f_X3_follows (b1 : Nat) (a2 : Int32) (w : Mem) : Option (Int32) :=
  (f_X1_hasMatter b1 (w 3 6) w).bind fun r1 => (if r1 = 0 then some ((1 : Int32)) else rd 8 (w (b1 + 2)) (w 3 6) fun x2 => (f_X9_holds x2 a2).bind fun r3 => (if r3 = 0 then some ((0 : Int32)) else some ((1 : Int32))))
set_option maxRecDepth 20000 in
set_option maxHeartbeats 4000000 in
theorem tf_X3_follows {G : GT} {l : Launch} {z n : Nat} (b1 : Nat) (hb1 : BrO b1) (a2 : Int32) (w : Mem) (q : Int32) (hq : f_X3_follows b1 a2 w = some q) : Mt G l z yX3_follows cX3_follows 3 (some .boolean) { frames := 1, cells := 0, slots := 0, locals := 21 } [.ref (z + 3), .ref (z + b1), .int a2] (hp G z w) n (some (.int q)) (hp G z w) n := by
  refine mt_of (by decide +kernel) (Nat.le_of_ble_eq_true rfl) ?_
  intro p e s m below meth c C hr hlk hnm
  refine (?_ : DX p l e _ s m _ below meth c G z 3 n _ (fun v => v = q) 0 [(0, .ref (z + 3)), (1, .ref (z + b1)), (2, .int a2)] [] w (f_X3_follows b1 a2 w)) q hq rfl
  unfold f_X3_follows
  refine dx_aload_n C 1 dX3_follows_0 rfl rfl ?_
  refine dx_aload_n C 0 dX3_follows_1 rfl rfl ?_
  refine dgX3_30 C (Or.inl rfl) dX3_follows_2 ?_
  refine dx_callV1 C cl_X1_hasMatter kmX3_92 (ci := 0) (b := b1) (As := [.int (w 3 6)]) (rest := []) rfl (hp_of (lyBr0 hb1)) (tf_X1_hasMatter b1 hb1 (w 3 6) w) rfl rfl (Nat.le_of_ble_eq_true rfl) ⟨Nat.le_of_ble_eq_true rfl, Nat.le_of_ble_eq_true rfl⟩ dX3_follows_5 (fun r1 => ?_)
  refine dx_if_eq C 27 dX3_follows_8 (by decide) ?_ ?_
  · refine dx_iconst (v := (1 : Int32)) C dX3_follows_27 (by decide) ?_
    refine dx_goto C 32 dX3_follows_28 (by decide) ?_
    exact dx_zret1 C hr hlk (by decide) dX3_follows_32 (fun h => h)
  · refine dx_aload_n C 1 dX3_follows_11 rfl rfl ?_
    refine dgX3_95 C hb1 dX3_follows_12 ?_
    refine dx_aload_n C 0 dX3_follows_15 rfl rfl ?_
    refine dgX3_30 C (Or.inl rfl) dX3_follows_16 ?_
    refine dx_rd C (lyBr2 hb1) dX3_follows_19 (fun x2 => ?_)
    refine dx_iload_n C 2 dX3_follows_20 rfl rfl ?_
    refine dx_callSN1 C cl_X9_holds knX3_68 (As := [.int x2, .int a2]) (rest := []) (tf_X9_holds x2 a2 w) rfl rfl (Nat.le_of_ble_eq_true rfl) ⟨Nat.le_of_ble_eq_true rfl, Nat.le_of_ble_eq_true rfl⟩ dX3_follows_21 (fun r3 => ?_)
    refine dx_if_eq C 31 dX3_follows_24 (by decide) ?_ ?_
    · refine dx_iconst (v := (0 : Int32)) C dX3_follows_31 (by decide) ?_
      exact dx_zret1 C hr hlk (by decide) dX3_follows_32 (fun h => h)
    · refine dx_iconst (v := (1 : Int32)) C dX3_follows_27 (by decide) ?_
      refine dx_goto C 32 dX3_follows_28 (by decide) ?_
      exact dx_zret1 C hr hlk (by decide) dX3_follows_32 (fun h => h)
def f_X3_passMinutes (b1 : Nat) (a2 : Int32) (w : Mem) : Option (Mem) :=
  pw 3 0 ((w 3 0) + a2) w fun w1 => (lp (S := (Int32 × Mem)) (T := Mem) (fun s12 => (if s12.1 < (s12.2 b1 3) then (f_X9_holds (s12.2 3 7) s12.1).bind fun r2 => ((if r2 = 0 then some (s12.2) else (f_X1_mostWaiting b1 s12.1 s12.2).bind fun r4 => rd 6 (s12.2 4) s12.1 fun x5 => wr 6 4 s12.1 (if (r4 + (1 : Int32)) < (x5 + a2) then (r4 + (1 : Int32)) else (x5 + a2)) s12.2 fun w6 => rd 6 (w6 4) s12.1 fun x7 => (if x7 < (r4 + (1 : Int32)) then some (w6) else pw 3 7 ((w6 3 7) &&& (((1 : Int32) <<< (s12.1 &&& 31)) ^^^ (-1 : Int32))) w6 fun w8 => pw 3 9 ((w8 3 9) ||| ((1 : Int32) <<< (s12.1 &&& 31))) w8 fun w9 => some (w9))) : Option Mem).bind fun v3 => some (Sum.inl ((s12.1 + (1 : Int32)), v3)) else some (Sum.inr s12.2))) 5000000000 ((0 : Int32), w1)).bind fun v10 => some (v10)
set_option maxRecDepth 20000 in
set_option maxHeartbeats 4000000 in
theorem tf_X3_passMinutes {G : GT} {l : Launch} {z n : Nat} (b1 : Nat) (hb1 : BrO b1) (a2 : Int32) (w : Mem) (q : Mem) (hq : f_X3_passMinutes b1 a2 w = some q) : Mt G l z yX3_passMinutes cX3_passMinutes 5 none { frames := 2, cells := 0, slots := 0, locals := 42 } [.ref (z + 3), .ref (z + b1), .int a2] (hp G z w) n none (hp G z q) n := by
  refine mt_of (by decide +kernel) (Nat.le_of_ble_eq_true rfl) ?_
  intro p e s m below meth c C hr hlk hnm
  refine (?_ : DX p l e _ s m _ below meth c G z 5 n _ (fun v => v = q) 0 [(0, .ref (z + 3)), (1, .ref (z + b1)), (2, .int a2)] [] w (f_X3_passMinutes b1 a2 w)) q hq rfl
  unfold f_X3_passMinutes
  refine dx_aload_n C 0 dX3_passMinutes_0 rfl rfl ?_
  refine dx_dup C dX3_passMinutes_1 rfl ?_
  refine dgX3_9 C (Or.inl rfl) dX3_passMinutes_2 ?_
  refine dx_iload_n C 2 dX3_passMinutes_5 rfl rfl ?_
  refine dx_iadd C dX3_passMinutes_6 ?_
  refine dpX3_9 C (Or.inl rfl) dX3_passMinutes_7 (fun w1 => ?_)
  refine dx_iconst (v := (0 : Int32)) C dX3_passMinutes_10 (by decide) ?_
  refine dx_istore_n C [(3, .int (0 : Int32)), (0, .ref (z + 3)), (1, .ref (z + b1)), (2, .int a2)] dX3_passMinutes_11 rfl (by decide) rfl ?_
  refine dx_mv (lo2 := [(0, .ref (z + 3)), (1, .ref (z + b1)), (2, .int a2), (3, .int (0 : Int32))]) [1, 2, 3, 0] rfl ?_
  refine dx_bind 102 (fun v10 => []) (fun v10 => []) (fun v10 => v10) (fun v10 => (?_ : DX p l e _ s m _ below meth c G z 5 n _ _ 102 [] [] v10 _)) ?_
  · exact dx_vret C hr hlk dX3_passMinutes_102 (fun h => h)
  · refine dx_lp (fun s12 => [(0, .ref (z + 3)), (1, .ref (z + b1)), (2, .int a2), (3, .int s12.1)]) [] (fun s12 => s12.2) (fun s12 => (?_ : DX p l e _ s m _ below meth c G z 5 n _ _ 12 [(0, .ref (z + 3)), (1, .ref (z + b1)), (2, .int a2), (3, .int s12.1)] [] s12.2 _)) 5000000000 ((0 : Int32), w1)
    refine dx_iload_n C 3 dX3_passMinutes_12 rfl rfl ?_
    refine dx_aload_n C 1 dX3_passMinutes_13 rfl rfl ?_
    refine dgX3_61 C hb1 dX3_passMinutes_14 ?_
    refine dx_icmp_ge C 102 dX3_passMinutes_17 (by decide) ?_ ?_
    · refine dx_mv (lo2 := []) [] rfl ?_
      exact dx_end (fun h => h)
    · refine dx_aload_n C 0 dX3_passMinutes_20 rfl rfl ?_
      refine dgX3_33 C (Or.inl rfl) dX3_passMinutes_21 ?_
      refine dx_iload_n C 3 dX3_passMinutes_24 rfl rfl ?_
      refine dx_callSN1 C cl_X9_holds knX3_68 (As := [.int (s12.2 3 7), .int s12.1]) (rest := []) (tf_X9_holds (s12.2 3 7) s12.1 s12.2) rfl rfl (Nat.le_of_ble_eq_true rfl) ⟨Nat.le_of_ble_eq_true rfl, Nat.le_of_ble_eq_true rfl⟩ dX3_passMinutes_25 (fun r2 => ?_)
      refine dx_bind 96 (fun v3 => [(0, .ref (z + 3)), (1, .ref (z + b1)), (2, .int a2), (3, .int s12.1)]) (fun v3 => []) (fun v3 => v3) (fun v3 => (?_ : DX p l e _ s m _ below meth c G z 5 n _ _ 96 [(0, .ref (z + 3)), (1, .ref (z + b1)), (2, .int a2), (3, .int s12.1)] [] v3 _)) ?_
      · refine dx_iinc (v := (s12.1 + (1 : Int32))) C 3 [(3, .int (s12.1 + (1 : Int32))), (0, .ref (z + 3)), (1, .ref (z + b1)), (2, .int a2)] dX3_passMinutes_96 rfl rfl (by decide) rfl ?_
        refine dx_goto C 12 dX3_passMinutes_99 (by decide) ?_
        refine dx_mv (lo2 := [(0, .ref (z + 3)), (1, .ref (z + b1)), (2, .int a2), (3, .int (s12.1 + (1 : Int32)))]) [1, 2, 3, 0] rfl ?_
        exact dx_end (fun h => h)
      · refine dx_if_eq C 96 dX3_passMinutes_28 (by decide) ?_ ?_
        · exact dx_end (fun h => h)
        · refine dx_aload_n C 1 dX3_passMinutes_31 rfl rfl ?_
          refine dx_iload_n C 3 dX3_passMinutes_32 rfl rfl ?_
          refine dx_callV1 C cl_X1_mostWaiting kmX3_117 (ci := 0) (b := b1) (As := [.int s12.1]) (rest := []) rfl (hp_of (lyBr0 hb1)) (tf_X1_mostWaiting b1 hb1 s12.1 s12.2) rfl rfl (Nat.le_of_ble_eq_true rfl) ⟨Nat.le_of_ble_eq_true rfl, Nat.le_of_ble_eq_true rfl⟩ dX3_passMinutes_33 (fun r4 => ?_)
          refine dx_iconst (v := (1 : Int32)) C dX3_passMinutes_36 (by decide) ?_
          refine dx_iadd C dX3_passMinutes_37 ?_
          refine dx_istore C [(4, .int (r4 + (1 : Int32))), (0, .ref (z + 3)), (1, .ref (z + b1)), (2, .int a2), (3, .int s12.1)] dX3_passMinutes_38 (by decide) rfl ?_
          refine dx_aload_n C 1 dX3_passMinutes_40 rfl rfl ?_
          refine dgX3_42 C (Or.inl rfl) dX3_passMinutes_41 ?_
          refine dx_iload_n C 4 dX3_passMinutes_44 rfl rfl ?_
          refine dx_aload_n C 1 dX3_passMinutes_45 rfl rfl ?_
          refine dgX3_42 C (Or.inl rfl) dX3_passMinutes_46 ?_
          refine dx_iload_n C 4 dX3_passMinutes_49 rfl rfl ?_
          refine dx_rd C ly_4 dX3_passMinutes_50 (fun x5 => ?_)
          refine dx_iload_n C 3 dX3_passMinutes_51 rfl rfl ?_
          refine dx_iadd C dX3_passMinutes_52 ?_
          refine dx_iload C 0 dX3_passMinutes_53 rfl ?_
          refine dx_min C kmX3_102 kMs_min kzMath kMc_min (Nat.le_of_ble_eq_true rfl) (Nat.le_of_ble_eq_true rfl) dX3_passMinutes_55 ?_
          refine dx_wr C ly_4 dX3_passMinutes_58 (fun w6 => ?_)
          refine dx_aload_n C 1 dX3_passMinutes_59 rfl rfl ?_
          refine dgX3_42 C (Or.inl rfl) dX3_passMinutes_60 ?_
          refine dx_iload_n C 4 dX3_passMinutes_63 rfl rfl ?_
          refine dx_rd C ly_4 dX3_passMinutes_64 (fun x7 => ?_)
          refine dx_iload C 0 dX3_passMinutes_65 rfl ?_
          refine dx_icmp_lt C 96 dX3_passMinutes_67 (by decide) ?_ ?_
          · refine dx_mv (lo2 := [(0, .ref (z + 3)), (1, .ref (z + b1)), (2, .int a2), (3, .int s12.1)]) [1, 2, 3, 4] rfl ?_
            exact dx_end (fun h => h)
          · refine dx_aload_n C 1 dX3_passMinutes_70 rfl rfl ?_
            refine dx_dup C dX3_passMinutes_71 rfl ?_
            refine dgX3_33 C (Or.inl rfl) dX3_passMinutes_72 ?_
            refine dx_iconst (v := (1 : Int32)) C dX3_passMinutes_75 (by decide) ?_
            refine dx_iload_n C 4 dX3_passMinutes_76 rfl rfl ?_
            refine dx_ishl C dX3_passMinutes_77 ?_
            refine dx_iconst (v := (-1 : Int32)) C dX3_passMinutes_78 (by decide) ?_
            refine dx_ixor C dX3_passMinutes_79 ?_
            refine dx_iand C dX3_passMinutes_80 ?_
            refine dpX3_33 C (Or.inl rfl) dX3_passMinutes_81 (fun w8 => ?_)
            refine dx_aload_n C 1 dX3_passMinutes_84 rfl rfl ?_
            refine dx_dup C dX3_passMinutes_85 rfl ?_
            refine dgX3_39 C (Or.inl rfl) dX3_passMinutes_86 ?_
            refine dx_iconst (v := (1 : Int32)) C dX3_passMinutes_89 (by decide) ?_
            refine dx_iload_n C 4 dX3_passMinutes_90 rfl rfl ?_
            refine dx_ishl C dX3_passMinutes_91 ?_
            refine dx_ior C dX3_passMinutes_92 ?_
            refine dpX3_39 C (Or.inl rfl) dX3_passMinutes_93 (fun w9 => ?_)
            refine dx_mv (lo2 := [(0, .ref (z + 3)), (1, .ref (z + b1)), (2, .int a2), (3, .int s12.1)]) [1, 2, 3, 4] rfl ?_
            exact dx_end (fun h => h)
def f_X3_hear (b1 : Nat) (a2 : Int32) (w : Mem) : Option (Int32 × Mem) :=
  (f_X1_hasTraveller b1 (w 3 4) w).bind fun r1 => (if r1 = 0 then (f_X3_leaveSeat b1 w).bind fun q2 => some (((-1 : Int32), q2.2)) else (f_X3_follows b1 a2 w).bind fun r3 => (if r3 = 0 then (f_X3_leaveSeat b1 w).bind fun q10 => some (((-1 : Int32), q10.2)) else (f_X1_stayOf b1 (w 3 4) a2 w).bind fun r4 => pw 3 5 ((w 3 5) ||| ((1 : Int32) <<< (a2 &&& 31))) w fun w5 => pw 3 6 a2 w5 fun w6 => rd 6 (w6 5) (w6 3 4) fun x7 => wr 6 5 (w6 3 4) (x7 + r4) w6 fun w8 => (f_X3_passMinutes b1 r4 w8).bind fun w9 => some ((r4, w9))))
set_option maxRecDepth 20000 in
set_option maxHeartbeats 4000000 in
theorem tf_X3_hear {G : GT} {l : Launch} {z n : Nat} (b1 : Nat) (hb1 : BrO b1) (a2 : Int32) (w : Mem) (q : Int32 × Mem) (hq : f_X3_hear b1 a2 w = some q) : Mt G l z yX3_hear cX3_hear 4 (some .int) { frames := 3, cells := 0, slots := 0, locals := 66 } [.ref (z + 3), .ref (z + b1), .int a2] (hp G z w) n (some (.int q.1)) (hp G z q.2) n := by
  refine mt_of (by decide +kernel) (Nat.le_of_ble_eq_true rfl) ?_
  intro p e s m below meth c C hr hlk hnm
  refine (?_ : DX p l e _ s m _ below meth c G z 4 n _ (fun v => v = q) 0 [(0, .ref (z + 3)), (1, .ref (z + b1)), (2, .int a2)] [] w (f_X3_hear b1 a2 w)) q hq rfl
  unfold f_X3_hear
  refine dx_aload_n C 1 dX3_hear_0 rfl rfl ?_
  refine dx_aload_n C 0 dX3_hear_1 rfl rfl ?_
  refine dgX3_24 C (Or.inl rfl) dX3_hear_2 ?_
  refine dx_callV1 C cl_X1_hasTraveller kmX3_72 (ci := 0) (b := b1) (As := [.int (w 3 4)]) (rest := []) rfl (hp_of (lyBr0 hb1)) (tf_X1_hasTraveller b1 hb1 (w 3 4) w) rfl rfl (Nat.le_of_ble_eq_true rfl) ⟨Nat.le_of_ble_eq_true rfl, Nat.le_of_ble_eq_true rfl⟩ dX3_hear_5 (fun r1 => ?_)
  refine dx_if_eq C 20 dX3_hear_8 (by decide) ?_ ?_
  · refine dx_aload_n C 0 dX3_hear_20 rfl rfl ?_
    refine dx_aload_n C 1 dX3_hear_21 rfl rfl ?_
    refine dx_callV2 C cl_X3_leaveSeat kmX3_80 (ci := 2) (b := 3) (As := [.ref (z + b1)]) (rest := []) rfl (hp_of ly_3) (tf_X3_leaveSeat b1 hb1 w) rfl rfl (Nat.le_of_ble_eq_true rfl) ⟨Nat.le_of_ble_eq_true rfl, Nat.le_of_ble_eq_true rfl⟩ dX3_hear_22 (fun q2 => ?_)
    refine dx_pop C dX3_hear_25 rfl ?_
    refine dx_iconst (v := (-1 : Int32)) C dX3_hear_26 (by decide) ?_
    exact dx_iret2 C hr hlk dX3_hear_27 (fun h => h)
  · refine dx_aload_n C 0 dX3_hear_11 rfl rfl ?_
    refine dx_aload_n C 1 dX3_hear_12 rfl rfl ?_
    refine dx_iload_n C 2 dX3_hear_13 rfl rfl ?_
    refine dx_callV1 C cl_X3_follows kmX3_76 (ci := 2) (b := 3) (As := [.ref (z + b1), .int a2]) (rest := []) rfl (hp_of ly_3) (tf_X3_follows b1 hb1 a2 w) rfl rfl (Nat.le_of_ble_eq_true rfl) ⟨Nat.le_of_ble_eq_true rfl, Nat.le_of_ble_eq_true rfl⟩ dX3_hear_14 (fun r3 => ?_)
    refine dx_if_ne C 28 dX3_hear_17 (by decide) ?_ ?_
    · refine dx_aload_n C 1 dX3_hear_28 rfl rfl ?_
      refine dx_aload_n C 0 dX3_hear_29 rfl rfl ?_
      refine dgX3_24 C (Or.inl rfl) dX3_hear_30 ?_
      refine dx_iload_n C 2 dX3_hear_33 rfl rfl ?_
      refine dx_callV1 C cl_X1_stayOf kmX3_84 (ci := 0) (b := b1) (As := [.int (w 3 4), .int a2]) (rest := []) rfl (hp_of (lyBr0 hb1)) (tf_X1_stayOf b1 hb1 (w 3 4) a2 w) rfl rfl (Nat.le_of_ble_eq_true rfl) ⟨Nat.le_of_ble_eq_true rfl, Nat.le_of_ble_eq_true rfl⟩ dX3_hear_34 (fun r4 => ?_)
      refine dx_istore_n C [(3, .int r4), (0, .ref (z + 3)), (1, .ref (z + b1)), (2, .int a2)] dX3_hear_37 rfl (by decide) rfl ?_
      refine dx_aload_n C 1 dX3_hear_38 rfl rfl ?_
      refine dx_dup C dX3_hear_39 rfl ?_
      refine dgX3_27 C (Or.inl rfl) dX3_hear_40 ?_
      refine dx_iconst (v := (1 : Int32)) C dX3_hear_43 (by decide) ?_
      refine dx_iload_n C 3 dX3_hear_44 rfl rfl ?_
      refine dx_ishl C dX3_hear_45 ?_
      refine dx_ior C dX3_hear_46 ?_
      refine dpX3_27 C (Or.inl rfl) dX3_hear_47 (fun w5 => ?_)
      refine dx_aload_n C 1 dX3_hear_50 rfl rfl ?_
      refine dx_iload_n C 3 dX3_hear_51 rfl rfl ?_
      refine dpX3_30 C (Or.inl rfl) dX3_hear_52 (fun w6 => ?_)
      refine dx_aload_n C 1 dX3_hear_55 rfl rfl ?_
      refine dgX3_46 C (Or.inl rfl) dX3_hear_56 ?_
      refine dx_aload_n C 1 dX3_hear_59 rfl rfl ?_
      refine dgX3_24 C (Or.inl rfl) dX3_hear_60 ?_
      refine dx_dup2 C dX3_hear_63 rfl rfl ?_
      refine dx_rd C ly_5 dX3_hear_64 (fun x7 => ?_)
      refine dx_iload_n C 0 dX3_hear_65 rfl rfl ?_
      refine dx_iadd C dX3_hear_66 ?_
      refine dx_wr C ly_5 dX3_hear_67 (fun w8 => ?_)
      refine dx_aload_n C 1 dX3_hear_68 rfl rfl ?_
      refine dx_aload_n C 2 dX3_hear_69 rfl rfl ?_
      refine dx_iload_n C 0 dX3_hear_70 rfl rfl ?_
      refine dx_callV3 C cl_X3_passMinutes kmX3_88 (ci := 2) (b := 3) (As := [.ref (z + b1), .int r4]) (rest := []) rfl (hp_of ly_3) (tf_X3_passMinutes b1 hb1 r4 w8) rfl rfl (Nat.le_of_ble_eq_true rfl) ⟨Nat.le_of_ble_eq_true rfl, Nat.le_of_ble_eq_true rfl⟩ dX3_hear_71 (fun w9 => ?_)
      refine dx_iload_n C 0 dX3_hear_74 rfl rfl ?_
      exact dx_iret2 C hr hlk dX3_hear_75 (fun h => h)
    · refine dx_aload_n C 0 dX3_hear_20 rfl rfl ?_
      refine dx_aload_n C 1 dX3_hear_21 rfl rfl ?_
      refine dx_callV2 C cl_X3_leaveSeat kmX3_80 (ci := 2) (b := 3) (As := [.ref (z + b1)]) (rest := []) rfl (hp_of ly_3) (tf_X3_leaveSeat b1 hb1 w) rfl rfl (Nat.le_of_ble_eq_true rfl) ⟨Nat.le_of_ble_eq_true rfl, Nat.le_of_ble_eq_true rfl⟩ dX3_hear_22 (fun q10 => ?_)
      refine dx_pop C dX3_hear_25 rfl ?_
      refine dx_iconst (v := (-1 : Int32)) C dX3_hear_26 (by decide) ?_
      exact dx_iret2 C hr hlk dX3_hear_27 (fun h => h)
def f_X9_tell (a1 : Int32) (w : Mem) : Option (Int32 × Mem) :=
  (f_X1_hasMatter (brp (w 0 8)) a1 w).bind fun r1 => (if r1 = 0 then some (((-1000000001 : Int32), w)) else (f_X3_canHear a1 w).bind fun r2 => (if r2 = 0 then some (((-1000000003 : Int32), w)) else (f_X6_remember w).bind fun w3 => (f_X3_hear (brp (w3 0 8)) a1 w3).bind fun q4 => some ((q4.1, q4.2))))
set_option maxRecDepth 20000 in
set_option maxHeartbeats 4000000 in
theorem tf_X9_tell {G : GT} {l : Launch} {z n : Nat} (a1 : Int32) (w : Mem) (q : Int32 × Mem) (hq : f_X9_tell a1 w = some q) : Mt G l z yX9_tell cX9_tell 2 (some .int) { frames := 4, cells := 0, slots := 0, locals := 89 } [.ref (z + 0), .int a1] (hp G z w) n (some (.int q.1)) (hp G z q.2) n := by
  refine mt_of (by decide +kernel) (Nat.le_of_ble_eq_true rfl) ?_
  intro p e s m below meth c C hr hlk hnm
  refine (?_ : DX p l e _ s m _ below meth c G z 2 n _ (fun v => v = q) 0 [(0, .ref (z + 0)), (1, .int a1)] [] w (f_X9_tell a1 w)) q hq rfl
  unfold f_X9_tell
  refine dx_aload_n C 0 dX9_tell_0 rfl rfl ?_
  refine dgX9_65 C dX9_tell_1 ?_
  refine dx_iload_n C 1 dX9_tell_4 rfl rfl ?_
  refine dx_callV1 C cl_X1_hasMatter kmX9_176 (ci := 0) (b := (brp (w 0 8))) (As := [.int a1]) (rest := []) rfl (hp_of (lyBr0 (brp_ok (w 0 8)))) (tf_X1_hasMatter (brp (w 0 8)) (brp_ok (w 0 8)) a1 w) rfl rfl (Nat.le_of_ble_eq_true rfl) ⟨Nat.le_of_ble_eq_true rfl, Nat.le_of_ble_eq_true rfl⟩ dX9_tell_5 (fun r1 => ?_)
  refine dx_if_ne C 14 dX9_tell_8 (by decide) ?_ ?_
  · refine dx_aload_n C 0 dX9_tell_14 rfl rfl ?_
    refine dgX9_19 C dX9_tell_15 ?_
    refine dx_iload_n C 1 dX9_tell_18 rfl rfl ?_
    refine dx_callV1 C cl_X3_canHear kmX9_229 (ci := 2) (b := 3) (As := [.int a1]) (rest := []) rfl (hp_of ly_3) (tf_X3_canHear a1 w) rfl rfl (Nat.le_of_ble_eq_true rfl) ⟨Nat.le_of_ble_eq_true rfl, Nat.le_of_ble_eq_true rfl⟩ dX9_tell_19 (fun r2 => ?_)
    refine dx_if_ne C 28 dX9_tell_22 (by decide) ?_ ?_
    · refine dx_aload_n C 0 dX9_tell_28 rfl rfl ?_
      refine dgX9_26 C dX9_tell_29 ?_
      refine dx_aload_n C 0 dX9_tell_32 rfl rfl ?_
      refine dgX9_19 C dX9_tell_33 ?_
      refine dx_callV3 C cl_X6_remember kmX9_222 (ci := 5) (b := 6) (As := [.ref (z + 3)]) (rest := []) rfl (hp_of ly_6) (tf_X6_remember w) rfl rfl (Nat.le_of_ble_eq_true rfl) ⟨Nat.le_of_ble_eq_true rfl, Nat.le_of_ble_eq_true rfl⟩ dX9_tell_36 (fun w3 => ?_)
      refine dx_aload_n C 0 dX9_tell_39 rfl rfl ?_
      refine dgX9_19 C dX9_tell_40 ?_
      refine dx_aload_n C 0 dX9_tell_43 rfl rfl ?_
      refine dgX9_65 C dX9_tell_44 ?_
      refine dx_iload_n C 1 dX9_tell_47 rfl rfl ?_
      refine dx_callV2 C cl_X3_hear kmX9_232 (ci := 2) (b := 3) (As := [.ref (z + (brp (w3 0 8))), .int a1]) (rest := []) rfl (hp_of ly_3) (tf_X3_hear (brp (w3 0 8)) (brp_ok (w3 0 8)) a1 w3) rfl rfl (Nat.le_of_ble_eq_true rfl) ⟨Nat.le_of_ble_eq_true rfl, Nat.le_of_ble_eq_true rfl⟩ dX9_tell_48 (fun q4 => ?_)
      exact dx_iret2 C hr hlk dX9_tell_51 (fun h => h)
    · refine dx_ldc C kcX9_221 dX9_tell_25 ?_
      exact dx_iret2 C hr hlk dX9_tell_27 (fun h => h)
  · refine dx_ldc C kcX9_179 dX9_tell_11 ?_
    exact dx_iret2 C hr hlk dX9_tell_13 (fun h => h)
def f_X9_rise (w : Mem) : Option (Int32 × Mem) :=
  (if (w 3 4) = (-1 : Int32) then some (((-1000000003 : Int32), w)) else (f_X6_remember w).bind fun w1 => (f_X3_leaveSeat (brp (w1 0 8)) w1).bind fun q2 => some ((q2.1, q2.2)))
set_option maxRecDepth 20000 in
set_option maxHeartbeats 4000000 in
theorem tf_X9_rise {G : GT} {l : Launch} {z n : Nat} (w : Mem) (q : Int32 × Mem) (hq : f_X9_rise w = some q) : Mt G l z yX9_rise cX9_rise 1 (some .int) { frames := 3, cells := 0, slots := 0, locals := 65 } [.ref (z + 0)] (hp G z w) n (some (.int q.1)) (hp G z q.2) n := by
  refine mt_of (by decide +kernel) (Nat.le_of_ble_eq_true rfl) ?_
  intro p e s m below meth c C hr hlk hnm
  refine (?_ : DX p l e _ s m _ below meth c G z 1 n _ (fun v => v = q) 0 [(0, .ref (z + 0))] [] w (f_X9_rise w)) q hq rfl
  unfold f_X9_rise
  refine dx_aload_n C 0 dX9_rise_0 rfl rfl ?_
  refine dgX9_19 C dX9_rise_1 ?_
  refine dgX9_158 C (Or.inl rfl) dX9_rise_4 ?_
  refine dx_iconst (v := (-1 : Int32)) C dX9_rise_7 (by decide) ?_
  refine dx_icmp_ne C 14 dX9_rise_8 (by decide) ?_ ?_
  · refine dx_aload_n C 0 dX9_rise_14 rfl rfl ?_
    refine dgX9_26 C dX9_rise_15 ?_
    refine dx_aload_n C 0 dX9_rise_18 rfl rfl ?_
    refine dgX9_19 C dX9_rise_19 ?_
    refine dx_callV3 C cl_X6_remember kmX9_222 (ci := 5) (b := 6) (As := [.ref (z + 3)]) (rest := []) rfl (hp_of ly_6) (tf_X6_remember w) rfl rfl (Nat.le_of_ble_eq_true rfl) ⟨Nat.le_of_ble_eq_true rfl, Nat.le_of_ble_eq_true rfl⟩ dX9_rise_22 (fun w1 => ?_)
    refine dx_aload_n C 0 dX9_rise_25 rfl rfl ?_
    refine dgX9_19 C dX9_rise_26 ?_
    refine dx_aload_n C 0 dX9_rise_29 rfl rfl ?_
    refine dgX9_65 C dX9_rise_30 ?_
    refine dx_callV2 C cl_X3_leaveSeat kmX9_235 (ci := 2) (b := 3) (As := [.ref (z + (brp (w1 0 8)))]) (rest := []) rfl (hp_of ly_3) (tf_X3_leaveSeat (brp (w1 0 8)) (brp_ok (w1 0 8)) w1) rfl rfl (Nat.le_of_ble_eq_true rfl) ⟨Nat.le_of_ble_eq_true rfl, Nat.le_of_ble_eq_true rfl⟩ dX9_rise_33 (fun q2 => ?_)
    exact dx_iret2 C hr hlk dX9_rise_36 (fun h => h)
  · refine dx_ldc C kcX9_221 dX9_rise_11 ?_
    exact dx_iret2 C hr hlk dX9_rise_13 (fun h => h)
def f_X9_learn (a1 : Int32) (w : Mem) : Option (Int32 × Mem) :=
  (f_X1_hasMatter (brp (w 0 8)) a1 w).bind fun r1 => (if r1 = 0 then some (((-1000000001 : Int32), w)) else (f_X9_holds (w 3 3) a1).bind fun r2 => (if r2 = 0 then (f_X6_remember w).bind fun w3 => pw 3 3 ((w3 3 3) ||| ((1 : Int32) <<< (a1 &&& 31))) w3 fun w4 => (f_X3_passMinutes (brp (w4 0 8)) (60 : Int32) w4).bind fun w5 => (f_J6_bitCount_0f7a4 (w5 3 3)).bind fun r6 => some ((r6, w5)) else some (((-1000000003 : Int32), w))))
set_option maxRecDepth 20000 in
set_option maxHeartbeats 4000000 in
theorem tf_X9_learn {G : GT} {l : Launch} {z n : Nat} (a1 : Int32) (w : Mem) (q : Int32 × Mem) (hq : f_X9_learn a1 w = some q) : Mt G l z yX9_learn cX9_learn 2 (some .int) { frames := 3, cells := 0, slots := 0, locals := 66 } [.ref (z + 0), .int a1] (hp G z w) n (some (.int q.1)) (hp G z q.2) n := by
  refine mt_of (by decide +kernel) (Nat.le_of_ble_eq_true rfl) ?_
  intro p e s m below meth c C hr hlk hnm
  refine (?_ : DX p l e _ s m _ below meth c G z 2 n _ (fun v => v = q) 0 [(0, .ref (z + 0)), (1, .int a1)] [] w (f_X9_learn a1 w)) q hq rfl
  unfold f_X9_learn
  refine dx_aload_n C 0 dX9_learn_0 rfl rfl ?_
  refine dgX9_65 C dX9_learn_1 ?_
  refine dx_iload_n C 1 dX9_learn_4 rfl rfl ?_
  refine dx_callV1 C cl_X1_hasMatter kmX9_176 (ci := 0) (b := (brp (w 0 8))) (As := [.int a1]) (rest := []) rfl (hp_of (lyBr0 (brp_ok (w 0 8)))) (tf_X1_hasMatter (brp (w 0 8)) (brp_ok (w 0 8)) a1 w) rfl rfl (Nat.le_of_ble_eq_true rfl) ⟨Nat.le_of_ble_eq_true rfl, Nat.le_of_ble_eq_true rfl⟩ dX9_learn_5 (fun r1 => ?_)
  refine dx_if_ne C 14 dX9_learn_8 (by decide) ?_ ?_
  · refine dx_aload_n C 0 dX9_learn_14 rfl rfl ?_
    refine dgX9_19 C dX9_learn_15 ?_
    refine dgX9_134 C (Or.inl rfl) dX9_learn_18 ?_
    refine dx_iload_n C 1 dX9_learn_21 rfl rfl ?_
    refine dx_callS1 C cl_X9_holds kmX9_217 (As := [.int (w 3 3), .int a1]) (rest := []) (tf_X9_holds (w 3 3) a1 w) rfl rfl (Nat.le_of_ble_eq_true rfl) ⟨Nat.le_of_ble_eq_true rfl, Nat.le_of_ble_eq_true rfl⟩ dX9_learn_22 (fun r2 => ?_)
    refine dx_if_eq C 31 dX9_learn_25 (by decide) ?_ ?_
    · refine dx_aload_n C 0 dX9_learn_31 rfl rfl ?_
      refine dgX9_26 C dX9_learn_32 ?_
      refine dx_aload_n C 0 dX9_learn_35 rfl rfl ?_
      refine dgX9_19 C dX9_learn_36 ?_
      refine dx_callV3 C cl_X6_remember kmX9_222 (ci := 5) (b := 6) (As := [.ref (z + 3)]) (rest := []) rfl (hp_of ly_6) (tf_X6_remember w) rfl rfl (Nat.le_of_ble_eq_true rfl) ⟨Nat.le_of_ble_eq_true rfl, Nat.le_of_ble_eq_true rfl⟩ dX9_learn_39 (fun w3 => ?_)
      refine dx_aload_n C 0 dX9_learn_42 rfl rfl ?_
      refine dgX9_19 C dX9_learn_43 ?_
      refine dx_dup C dX9_learn_46 rfl ?_
      refine dgX9_134 C (Or.inl rfl) dX9_learn_47 ?_
      refine dx_iconst (v := (1 : Int32)) C dX9_learn_50 (by decide) ?_
      refine dx_iload_n C 1 dX9_learn_51 rfl rfl ?_
      refine dx_ishl C dX9_learn_52 ?_
      refine dx_ior C dX9_learn_53 ?_
      refine dpX9_134 C (Or.inl rfl) dX9_learn_54 (fun w4 => ?_)
      refine dx_aload_n C 0 dX9_learn_57 rfl rfl ?_
      refine dgX9_19 C dX9_learn_58 ?_
      refine dx_aload_n C 0 dX9_learn_61 rfl rfl ?_
      refine dgX9_65 C dX9_learn_62 ?_
      refine dx_bipush (v := (60 : Int32)) C dX9_learn_65 (by decide) ?_
      refine dx_callV3 C cl_X3_passMinutes kmX9_238 (ci := 2) (b := 3) (As := [.ref (z + (brp (w4 0 8))), .int (60 : Int32)]) (rest := []) rfl (hp_of ly_3) (tf_X3_passMinutes (brp (w4 0 8)) (brp_ok (w4 0 8)) (60 : Int32) w4) rfl rfl (Nat.le_of_ble_eq_true rfl) ⟨Nat.le_of_ble_eq_true rfl, Nat.le_of_ble_eq_true rfl⟩ dX9_learn_67 (fun w5 => ?_)
      refine dx_aload_n C 0 dX9_learn_70 rfl rfl ?_
      refine dgX9_19 C dX9_learn_71 ?_
      refine dgX9_134 C (Or.inl rfl) dX9_learn_74 ?_
      refine dx_callS1 C cl_J6_bitCount_0f7a4 kmX9_242 (As := [.int (w5 3 3)]) (rest := []) (tf_J6_bitCount_0f7a4 (w5 3 3) w5) rfl rfl (Nat.le_of_ble_eq_true rfl) ⟨Nat.le_of_ble_eq_true rfl, Nat.le_of_ble_eq_true rfl⟩ dX9_learn_77 (fun r6 => ?_)
      exact dx_iret2 C hr hlk dX9_learn_80 (fun h => h)
    · refine dx_ldc C kcX9_221 dX9_learn_28 ?_
      exact dx_iret2 C hr hlk dX9_learn_30 (fun h => h)
  · refine dx_ldc C kcX9_179 dX9_learn_11 ?_
    exact dx_iret2 C hr hlk dX9_learn_13 (fun h => h)
def f_X9_minute (a1 : Int32) (w : Mem) : Option (Int32 × Mem) :=
  (if a1 < (1 : Int32) then some (((-1000000002 : Int32), w)) else (if (60 : Int32) < a1 then some (((-1000000002 : Int32), w)) else (f_X1_isThere (brp (w 0 8)) w).bind fun r1 => (if r1 = 0 then some (((-1000000003 : Int32), w)) else (if (900000 : Int32) < (w 3 0) then some (((-1000000004 : Int32), w)) else (f_X6_remember w).bind fun w2 => (f_X3_passMinutes (brp (w2 0 8)) a1 w2).bind fun w3 => some (((w3 3 0), w3))))))
set_option maxRecDepth 20000 in
set_option maxHeartbeats 4000000 in
theorem tf_X9_minute {G : GT} {l : Launch} {z n : Nat} (a1 : Int32) (w : Mem) (q : Int32 × Mem) (hq : f_X9_minute a1 w = some q) : Mt G l z yX9_minute cX9_minute 2 (some .int) { frames := 3, cells := 0, slots := 0, locals := 66 } [.ref (z + 0), .int a1] (hp G z w) n (some (.int q.1)) (hp G z q.2) n := by
  refine mt_of (by decide +kernel) (Nat.le_of_ble_eq_true rfl) ?_
  intro p e s m below meth c C hr hlk hnm
  refine (?_ : DX p l e _ s m _ below meth c G z 2 n _ (fun v => v = q) 0 [(0, .ref (z + 0)), (1, .int a1)] [] w (f_X9_minute a1 w)) q hq rfl
  unfold f_X9_minute
  refine dx_iload_n C 1 dX9_minute_0 rfl rfl ?_
  refine dx_iconst (v := (1 : Int32)) C dX9_minute_1 (by decide) ?_
  refine dx_icmp_lt C 11 dX9_minute_2 (by decide) ?_ ?_
  · refine dx_ldc C kcX9_80 dX9_minute_11 ?_
    exact dx_iret2 C hr hlk dX9_minute_13 (fun h => h)
  · refine dx_iload_n C 1 dX9_minute_5 rfl rfl ?_
    refine dx_bipush (v := (60 : Int32)) C dX9_minute_6 (by decide) ?_
    refine dx_icmp_le C 14 dX9_minute_8 (by decide) ?_ ?_
    · refine dx_aload_n C 0 dX9_minute_14 rfl rfl ?_
      refine dgX9_65 C dX9_minute_15 ?_
      refine dx_callV1 C cl_X1_isThere kmX9_247 (ci := 0) (b := (brp (w 0 8))) (As := []) (rest := []) rfl (hp_of (lyBr0 (brp_ok (w 0 8)))) (tf_X1_isThere (brp (w 0 8)) (brp_ok (w 0 8)) w) rfl rfl (Nat.le_of_ble_eq_true rfl) ⟨Nat.le_of_ble_eq_true rfl, Nat.le_of_ble_eq_true rfl⟩ dX9_minute_18 (fun r1 => ?_)
      refine dx_if_ne C 27 dX9_minute_21 (by decide) ?_ ?_
      · refine dx_aload_n C 0 dX9_minute_27 rfl rfl ?_
        refine dgX9_19 C dX9_minute_28 ?_
        refine dgX9_149 C (Or.inl rfl) dX9_minute_31 ?_
        refine dx_ldc C kcX9_251 dX9_minute_34 ?_
        refine dx_icmp_le C 42 dX9_minute_36 (by decide) ?_ ?_
        · refine dx_aload_n C 0 dX9_minute_42 rfl rfl ?_
          refine dgX9_26 C dX9_minute_43 ?_
          refine dx_aload_n C 0 dX9_minute_46 rfl rfl ?_
          refine dgX9_19 C dX9_minute_47 ?_
          refine dx_callV3 C cl_X6_remember kmX9_222 (ci := 5) (b := 6) (As := [.ref (z + 3)]) (rest := []) rfl (hp_of ly_6) (tf_X6_remember w) rfl rfl (Nat.le_of_ble_eq_true rfl) ⟨Nat.le_of_ble_eq_true rfl, Nat.le_of_ble_eq_true rfl⟩ dX9_minute_50 (fun w2 => ?_)
          refine dx_aload_n C 0 dX9_minute_53 rfl rfl ?_
          refine dgX9_19 C dX9_minute_54 ?_
          refine dx_aload_n C 0 dX9_minute_57 rfl rfl ?_
          refine dgX9_65 C dX9_minute_58 ?_
          refine dx_iload_n C 1 dX9_minute_61 rfl rfl ?_
          refine dx_callV3 C cl_X3_passMinutes kmX9_238 (ci := 2) (b := 3) (As := [.ref (z + (brp (w2 0 8))), .int a1]) (rest := []) rfl (hp_of ly_3) (tf_X3_passMinutes (brp (w2 0 8)) (brp_ok (w2 0 8)) a1 w2) rfl rfl (Nat.le_of_ble_eq_true rfl) ⟨Nat.le_of_ble_eq_true rfl, Nat.le_of_ble_eq_true rfl⟩ dX9_minute_62 (fun w3 => ?_)
          refine dx_aload_n C 0 dX9_minute_65 rfl rfl ?_
          refine dgX9_19 C dX9_minute_66 ?_
          refine dgX9_149 C (Or.inl rfl) dX9_minute_69 ?_
          exact dx_iret2 C hr hlk dX9_minute_72 (fun h => h)
        · refine dx_ldc C kcX9_88 dX9_minute_39 ?_
          exact dx_iret2 C hr hlk dX9_minute_41 (fun h => h)
      · refine dx_ldc C kcX9_221 dX9_minute_24 ?_
        exact dx_iret2 C hr hlk dX9_minute_26 (fun h => h)
    · refine dx_ldc C kcX9_80 dX9_minute_11 ?_
      exact dx_iret2 C hr hlk dX9_minute_13 (fun h => h)
def f_X9_anew (w : Mem) : Option (Int32 × Mem) :=
  (f_X1_isThere (brp (w 0 8)) w).bind fun r1 => (if r1 = 0 then some (((-1000000003 : Int32), w)) else (if (w 3 1) < (9000 : Int32) then (f_X6_remember w).bind fun w2 => pw 3 1 ((w2 3 1) + (1 : Int32)) w2 fun w3 => (f_X3_gather (brp (w3 0 8)) w3).bind fun w4 => some (((w4 3 1), w4)) else some (((-1000000004 : Int32), w))))
set_option maxRecDepth 20000 in
set_option maxHeartbeats 4000000 in
theorem tf_X9_anew {G : GT} {l : Launch} {z n : Nat} (w : Mem) (q : Int32 × Mem) (hq : f_X9_anew w = some q) : Mt G l z yX9_anew cX9_anew 1 (some .int) { frames := 2, cells := 0, slots := 0, locals := 43 } [.ref (z + 0)] (hp G z w) n (some (.int q.1)) (hp G z q.2) n := by
  refine mt_of (by decide +kernel) (Nat.le_of_ble_eq_true rfl) ?_
  intro p e s m below meth c C hr hlk hnm
  refine (?_ : DX p l e _ s m _ below meth c G z 1 n _ (fun v => v = q) 0 [(0, .ref (z + 0))] [] w (f_X9_anew w)) q hq rfl
  unfold f_X9_anew
  refine dx_aload_n C 0 dX9_anew_0 rfl rfl ?_
  refine dgX9_65 C dX9_anew_1 ?_
  refine dx_callV1 C cl_X1_isThere kmX9_247 (ci := 0) (b := (brp (w 0 8))) (As := []) (rest := []) rfl (hp_of (lyBr0 (brp_ok (w 0 8)))) (tf_X1_isThere (brp (w 0 8)) (brp_ok (w 0 8)) w) rfl rfl (Nat.le_of_ble_eq_true rfl) ⟨Nat.le_of_ble_eq_true rfl, Nat.le_of_ble_eq_true rfl⟩ dX9_anew_4 (fun r1 => ?_)
  refine dx_if_ne C 13 dX9_anew_7 (by decide) ?_ ?_
  · refine dx_aload_n C 0 dX9_anew_13 rfl rfl ?_
    refine dgX9_19 C dX9_anew_14 ?_
    refine dgX9_152 C (Or.inl rfl) dX9_anew_17 ?_
    refine dx_sipush (v := (9000 : Int32)) C dX9_anew_20 (by decide) ?_
    refine dx_icmp_lt C 29 dX9_anew_23 (by decide) ?_ ?_
    · refine dx_aload_n C 0 dX9_anew_29 rfl rfl ?_
      refine dgX9_26 C dX9_anew_30 ?_
      refine dx_aload_n C 0 dX9_anew_33 rfl rfl ?_
      refine dgX9_19 C dX9_anew_34 ?_
      refine dx_callV3 C cl_X6_remember kmX9_222 (ci := 5) (b := 6) (As := [.ref (z + 3)]) (rest := []) rfl (hp_of ly_6) (tf_X6_remember w) rfl rfl (Nat.le_of_ble_eq_true rfl) ⟨Nat.le_of_ble_eq_true rfl, Nat.le_of_ble_eq_true rfl⟩ dX9_anew_37 (fun w2 => ?_)
      refine dx_aload_n C 0 dX9_anew_40 rfl rfl ?_
      refine dgX9_19 C dX9_anew_41 ?_
      refine dx_dup C dX9_anew_44 rfl ?_
      refine dgX9_152 C (Or.inl rfl) dX9_anew_45 ?_
      refine dx_iconst (v := (1 : Int32)) C dX9_anew_48 (by decide) ?_
      refine dx_iadd C dX9_anew_49 ?_
      refine dpX9_152 C (Or.inl rfl) dX9_anew_50 (fun w3 => ?_)
      refine dx_aload_n C 0 dX9_anew_53 rfl rfl ?_
      refine dgX9_19 C dX9_anew_54 ?_
      refine dx_aload_n C 0 dX9_anew_57 rfl rfl ?_
      refine dgX9_65 C dX9_anew_58 ?_
      refine dx_callV3 C cl_X3_gather kmX9_252 (ci := 2) (b := 3) (As := [.ref (z + (brp (w3 0 8)))]) (rest := []) rfl (hp_of ly_3) (tf_X3_gather (brp (w3 0 8)) (brp_ok (w3 0 8)) w3) rfl rfl (Nat.le_of_ble_eq_true rfl) ⟨Nat.le_of_ble_eq_true rfl, Nat.le_of_ble_eq_true rfl⟩ dX9_anew_61 (fun w4 => ?_)
      refine dx_aload_n C 0 dX9_anew_64 rfl rfl ?_
      refine dgX9_19 C dX9_anew_65 ?_
      refine dgX9_152 C (Or.inl rfl) dX9_anew_68 ?_
      exact dx_iret2 C hr hlk dX9_anew_71 (fun h => h)
    · refine dx_ldc C kcX9_88 dX9_anew_26 ?_
      exact dx_iret2 C hr hlk dX9_anew_28 (fun h => h)
  · refine dx_ldc C kcX9_221 dX9_anew_10 ?_
    exact dx_iret2 C hr hlk dX9_anew_12 (fun h => h)
def f_X9_drawOf (a1 : Int32) (w : Mem) : Option (Int32 × Mem) :=
  pw 0 10 (((((((w 0 10)).toInt64 * (1103515245 : Int64)) + (12345 : Int64)) - ((((w 0 10)).toInt64 * (1103515245 : Int64)) + (12345 : Int64)) / (2147483648 : Int64) * (2147483648 : Int64))).toInt32) w fun w1 => (if a1 < (1 : Int32) then some (((0 : Int32), w1)) else nz a1 (some (((((w1 0 10) / (65536 : Int32)) - ((w1 0 10) / (65536 : Int32)) / a1 * a1), w1))))
set_option maxRecDepth 20000 in
set_option maxHeartbeats 4000000 in
theorem tf_X9_drawOf {G : GT} {l : Launch} {z n : Nat} (a1 : Int32) (w : Mem) (q : Int32 × Mem) (hq : f_X9_drawOf a1 w = some q) : Mt G l z yX9_drawOf cX9_drawOf 2 (some .int) { frames := 0, cells := 0, slots := 0, locals := 0 } [.ref (z + 0), .int a1] (hp G z w) n (some (.int q.1)) (hp G z q.2) n := by
  refine mt_of (by decide +kernel) (Nat.le_of_ble_eq_true rfl) ?_
  intro p e s m below meth c C hr hlk hnm
  refine (?_ : DX p l e _ s m _ below meth c G z 2 n _ (fun v => v = q) 0 [(0, .ref (z + 0)), (1, .int a1)] [] w (f_X9_drawOf a1 w)) q hq rfl
  unfold f_X9_drawOf
  refine dx_aload_n C 0 dX9_drawOf_0 rfl rfl ?_
  refine dx_aload_n C 0 dX9_drawOf_1 rfl rfl ?_
  refine dgX9_72 C dX9_drawOf_2 ?_
  refine dx_i2l C dX9_drawOf_5 ?_
  refine dx_ldc2 C kcX9_267 dX9_drawOf_6 ?_
  refine dx_lmul C dX9_drawOf_9 ?_
  refine dx_ldc2 C kcX9_269 dX9_drawOf_10 ?_
  refine dx_ladd C dX9_drawOf_13 ?_
  refine dx_ldc2 C kcX9_271 dX9_drawOf_14 ?_
  refine dx_lrem C dX9_drawOf_17 (by decide) ?_
  refine dx_l2i C dX9_drawOf_18 ?_
  refine dpX9_72 C dX9_drawOf_19 (fun w1 => ?_)
  refine dx_iload_n C 1 dX9_drawOf_22 rfl rfl ?_
  refine dx_iconst (v := (1 : Int32)) C dX9_drawOf_23 (by decide) ?_
  refine dx_icmp_ge C 31 dX9_drawOf_24 (by decide) ?_ ?_
  · refine dx_aload_n C 0 dX9_drawOf_31 rfl rfl ?_
    refine dgX9_72 C dX9_drawOf_32 ?_
    refine dx_ldcw C kcX9_273 dX9_drawOf_35 ?_
    refine dx_idiv C dX9_drawOf_38 (by decide) ?_
    refine dx_iload_n C 1 dX9_drawOf_39 rfl rfl ?_
    refine dx_nz (fun hn2 => ?_)
    refine dx_irem C dX9_drawOf_40 hn2 ?_
    exact dx_iret2 C hr hlk dX9_drawOf_41 (fun h => h)
  · refine dx_iconst (v := (0 : Int32)) C dX9_drawOf_27 (by decide) ?_
    refine dx_goto C 41 dX9_drawOf_28 (by decide) ?_
    exact dx_iret2 C hr hlk dX9_drawOf_41 (fun h => h)
def f_X9_drawTelling (w : Mem) : Option (Mem) :=
  (f_X9_drawOf (4 : Int32) w).bind fun q1 => (if q1.1 = 0 then (f_X3_leaveSeat (brp (q1.2 0 8)) q1.2).bind fun q5 => some (q5.2) else (if (q1.2 (brp (q1.2 0 8)) 2) = 0 then some (q1.2) else (f_X9_drawOf (q1.2 (brp (q1.2 0 8)) 2) q1.2).bind fun q2 => (f_X3_canHear q2.1 q2.2).bind fun r3 => (if r3 = 0 then some (q2.2) else (f_X3_hear (brp (q2.2 0 8)) q2.1 q2.2).bind fun q4 => some (q4.2))))
set_option maxRecDepth 20000 in
set_option maxHeartbeats 4000000 in
theorem tf_X9_drawTelling {G : GT} {l : Launch} {z n : Nat} (w : Mem) (q : Mem) (hq : f_X9_drawTelling w = some q) : Mt G l z yX9_drawTelling cX9_drawTelling 2 none { frames := 4, cells := 0, slots := 0, locals := 89 } [.ref (z + 0)] (hp G z w) n none (hp G z q) n := by
  refine mt_of (by decide +kernel) (Nat.le_of_ble_eq_true rfl) ?_
  intro p e s m below meth c C hr hlk hnm
  refine (?_ : DX p l e _ s m _ below meth c G z 2 n _ (fun v => v = q) 0 [(0, .ref (z + 0))] [] w (f_X9_drawTelling w)) q hq rfl
  unfold f_X9_drawTelling
  refine dx_aload_n C 0 dX9_drawTelling_0 rfl rfl ?_
  refine dx_iconst (v := (4 : Int32)) C dX9_drawTelling_1 (by decide) ?_
  refine dx_callV2 C cl_X9_drawOf kmX9_264 (ci := 8) (b := 0) (As := [.int (4 : Int32)]) (rest := []) rfl (hp_of ly_0) (tf_X9_drawOf (4 : Int32) w) rfl rfl (Nat.le_of_ble_eq_true rfl) ⟨Nat.le_of_ble_eq_true rfl, Nat.le_of_ble_eq_true rfl⟩ dX9_drawTelling_2 (fun q1 => ?_)
  refine dx_if_ne C 21 dX9_drawTelling_5 (by decide) ?_ ?_
  · refine dx_aload_n C 0 dX9_drawTelling_21 rfl rfl ?_
    refine dgX9_65 C dX9_drawTelling_22 ?_
    refine dgX9_123 C (brp_ok (q1.2 0 8)) dX9_drawTelling_25 ?_
    refine dx_if_ne C 32 dX9_drawTelling_28 (by decide) ?_ ?_
    · refine dx_aload_n C 0 dX9_drawTelling_32 rfl rfl ?_
      refine dx_aload_n C 0 dX9_drawTelling_33 rfl rfl ?_
      refine dgX9_65 C dX9_drawTelling_34 ?_
      refine dgX9_123 C (brp_ok (q1.2 0 8)) dX9_drawTelling_37 ?_
      refine dx_callV2 C cl_X9_drawOf kmX9_264 (ci := 8) (b := 0) (As := [.int (q1.2 (brp (q1.2 0 8)) 2)]) (rest := []) rfl (hp_of ly_0) (tf_X9_drawOf (q1.2 (brp (q1.2 0 8)) 2) q1.2) rfl rfl (Nat.le_of_ble_eq_true rfl) ⟨Nat.le_of_ble_eq_true rfl, Nat.le_of_ble_eq_true rfl⟩ dX9_drawTelling_40 (fun q2 => ?_)
      refine dx_istore_n C [(1, .int q2.1), (0, .ref (z + 0))] dX9_drawTelling_43 rfl (by decide) rfl ?_
      refine dx_aload_n C 1 dX9_drawTelling_44 rfl rfl ?_
      refine dgX9_19 C dX9_drawTelling_45 ?_
      refine dx_iload_n C 0 dX9_drawTelling_48 rfl rfl ?_
      refine dx_callV1 C cl_X3_canHear kmX9_229 (ci := 2) (b := 3) (As := [.int q2.1]) (rest := []) rfl (hp_of ly_3) (tf_X3_canHear q2.1 q2.2) rfl rfl (Nat.le_of_ble_eq_true rfl) ⟨Nat.le_of_ble_eq_true rfl, Nat.le_of_ble_eq_true rfl⟩ dX9_drawTelling_49 (fun r3 => ?_)
      refine dx_if_eq C 68 dX9_drawTelling_52 (by decide) ?_ ?_
      · exact dx_vret C hr hlk dX9_drawTelling_68 (fun h => h)
      · refine dx_aload_n C 1 dX9_drawTelling_55 rfl rfl ?_
        refine dgX9_19 C dX9_drawTelling_56 ?_
        refine dx_aload_n C 1 dX9_drawTelling_59 rfl rfl ?_
        refine dgX9_65 C dX9_drawTelling_60 ?_
        refine dx_iload_n C 0 dX9_drawTelling_63 rfl rfl ?_
        refine dx_callV2 C cl_X3_hear kmX9_232 (ci := 2) (b := 3) (As := [.ref (z + (brp (q2.2 0 8))), .int q2.1]) (rest := []) rfl (hp_of ly_3) (tf_X3_hear (brp (q2.2 0 8)) (brp_ok (q2.2 0 8)) q2.1 q2.2) rfl rfl (Nat.le_of_ble_eq_true rfl) ⟨Nat.le_of_ble_eq_true rfl, Nat.le_of_ble_eq_true rfl⟩ dX9_drawTelling_64 (fun q4 => ?_)
        refine dx_pop C dX9_drawTelling_67 rfl ?_
        exact dx_vret C hr hlk dX9_drawTelling_68 (fun h => h)
    · exact dx_vret C hr hlk dX9_drawTelling_31 (fun h => h)
  · refine dx_aload_n C 0 dX9_drawTelling_8 rfl rfl ?_
    refine dgX9_19 C dX9_drawTelling_9 ?_
    refine dx_aload_n C 0 dX9_drawTelling_12 rfl rfl ?_
    refine dgX9_65 C dX9_drawTelling_13 ?_
    refine dx_callV2 C cl_X3_leaveSeat kmX9_235 (ci := 2) (b := 3) (As := [.ref (z + (brp (q1.2 0 8)))]) (rest := []) rfl (hp_of ly_3) (tf_X3_leaveSeat (brp (q1.2 0 8)) (brp_ok (q1.2 0 8)) q1.2) rfl rfl (Nat.le_of_ble_eq_true rfl) ⟨Nat.le_of_ble_eq_true rfl, Nat.le_of_ble_eq_true rfl⟩ dX9_drawTelling_16 (fun q5 => ?_)
    refine dx_pop C dX9_drawTelling_19 rfl ?_
    exact dx_vret C hr hlk dX9_drawTelling_20 (fun h => h)
