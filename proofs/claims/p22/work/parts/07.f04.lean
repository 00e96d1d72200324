def f_X0_bestOf (b0 : Nat) (a1 : Int32) (w : Mem) : Option (Int32) :=
  (f_J6_bitCount_0f7a4 a1).bind fun r1 => (lp (S := (Int32 × Int32 × Int32)) (T := Int32) (fun s10 => (if s10.2.2 < (w b0 3) then (f_X0_greatestPart b0 s10.2.2 a1 w).bind fun r2 => ((if r2 < s10.2.1 then some ((s10.2.2, r2)) else some ((s10.1, s10.2.1))) : Option (Int32 × Int32)).bind fun v3 => some (Sum.inl (v3.1, v3.2, (s10.2.2 + (1 : Int32)))) else some (Sum.inr s10.1))) 5000000000 ((-1 : Int32), r1, (0 : Int32))).bind fun v4 => some (v4)
set_option maxRecDepth 20000 in
set_option maxHeartbeats 4000000 in
theorem tf_X0_bestOf {G : GT} {l : Launch} {z n : Nat} (b0 : Nat) (hb0 : BrO b0) (a1 : Int32) (w : Mem) (q : Int32) (hq : f_X0_bestOf b0 a1 w = some q) : Mt G l z yX0_bestOf cX0_bestOf 6 (some .int) { frames := 4, cells := 0, slots := 0, locals := 92 } [.ref (z + b0), .int a1] (hp G z w) n (some (.int q)) (hp G z w) n := by
  refine mt_of (by decide +kernel) (Nat.le_of_ble_eq_true rfl) ?_
  intro p e s m below meth c C hr hlk hnm
  refine (?_ : DX p l e _ s m _ below meth c G z 6 n _ (fun v => v = q) 0 [(0, .ref (z + b0)), (1, .int a1)] [] w (f_X0_bestOf b0 a1 w)) q hq rfl
  unfold f_X0_bestOf
  refine dx_iconst (v := (-1 : Int32)) C dX0_bestOf_0 (by decide) ?_
  refine dx_istore_n C [(2, .int (-1 : Int32)), (0, .ref (z + b0)), (1, .int a1)] dX0_bestOf_1 rfl (by decide) rfl ?_
  refine dx_iload_n C 2 dX0_bestOf_2 rfl rfl ?_
  refine dx_callS1 C cl_J6_bitCount_0f7a4 kmX0_9 (As := [.int a1]) (rest := []) (tf_J6_bitCount_0f7a4 a1 w) rfl rfl (Nat.le_of_ble_eq_true rfl) ⟨Nat.le_of_ble_eq_true rfl, Nat.le_of_ble_eq_true rfl⟩ dX0_bestOf_3 (fun r1 => ?_)
  refine dx_istore_n C [(3, .int r1), (2, .int (-1 : Int32)), (0, .ref (z + b0)), (1, .int a1)] dX0_bestOf_6 rfl (by decide) rfl ?_
  refine dx_iconst (v := (0 : Int32)) C dX0_bestOf_7 (by decide) ?_
  refine dx_istore C [(4, .int (0 : Int32)), (3, .int r1), (2, .int (-1 : Int32)), (0, .ref (z + b0)), (1, .int a1)] dX0_bestOf_8 (by decide) rfl ?_
  refine dx_mv (lo2 := [(0, .ref (z + b0)), (1, .int a1), (2, .int (-1 : Int32)), (3, .int r1), (4, .int (0 : Int32))]) [3, 4, 2, 1, 0] rfl ?_
  refine dx_bind 46 (fun v4 => [(2, .int v4)]) (fun v4 => []) (fun v4 => w) (fun v4 => (?_ : DX p l e _ s m _ below meth c G z 6 n _ _ 46 [(2, .int v4)] [] w _)) ?_
  · refine dx_iload_n C 0 dX0_bestOf_46 rfl rfl ?_
    exact dx_iret1 C hr hlk dX0_bestOf_47 (fun h => h)
  · refine dx_lp (fun s10 => [(0, .ref (z + b0)), (1, .int a1), (2, .int s10.1), (3, .int s10.2.1), (4, .int s10.2.2)]) [] (fun s10 => w) (fun s10 => (?_ : DX p l e _ s m _ below meth c G z 6 n _ _ 10 [(0, .ref (z + b0)), (1, .int a1), (2, .int s10.1), (3, .int s10.2.1), (4, .int s10.2.2)] [] w _)) 5000000000 ((-1 : Int32), r1, (0 : Int32))
    refine dx_iload C 4 dX0_bestOf_10 rfl ?_
    refine dx_aload_n C 0 dX0_bestOf_12 rfl rfl ?_
    refine dgX0_15 C hb0 dX0_bestOf_13 ?_
    refine dx_icmp_ge C 46 dX0_bestOf_16 (by decide) ?_ ?_
    · refine dx_mv (lo2 := [(2, .int s10.1)]) [2] rfl ?_
      exact dx_end (fun h => h)
    · refine dx_aload_n C 0 dX0_bestOf_19 rfl rfl ?_
      refine dx_iload C 4 dX0_bestOf_20 rfl ?_
      refine dx_iload_n C 1 dX0_bestOf_22 rfl rfl ?_
      refine dx_callS1 C cl_X0_greatestPart kmX0_21 (As := [.ref (z + b0), .int s10.2.2, .int a1]) (rest := []) (tf_X0_greatestPart b0 hb0 s10.2.2 a1 w) rfl rfl (Nat.le_of_ble_eq_true rfl) ⟨Nat.le_of_ble_eq_true rfl, Nat.le_of_ble_eq_true rfl⟩ dX0_bestOf_23 (fun r2 => ?_)
      refine dx_istore C [(5, .int r2), (0, .ref (z + b0)), (1, .int a1), (2, .int s10.1), (3, .int s10.2.1), (4, .int s10.2.2)] dX0_bestOf_26 (by decide) rfl ?_
      refine dx_iload C 0 dX0_bestOf_28 rfl ?_
      refine dx_iload_n C 4 dX0_bestOf_30 rfl rfl ?_
      refine dx_bind 40 (fun v3 => [(0, .ref (z + b0)), (1, .int a1), (2, .int v3.1), (3, .int v3.2), (4, .int s10.2.2)]) (fun v3 => []) (fun v3 => w) (fun v3 => (?_ : DX p l e _ s m _ below meth c G z 6 n _ _ 40 [(0, .ref (z + b0)), (1, .int a1), (2, .int v3.1), (3, .int v3.2), (4, .int s10.2.2)] [] w _)) ?_
      · refine dx_iinc (v := (s10.2.2 + (1 : Int32))) C 4 [(4, .int (s10.2.2 + (1 : Int32))), (0, .ref (z + b0)), (1, .int a1), (2, .int v3.1), (3, .int v3.2)] dX0_bestOf_40 rfl rfl (by decide) rfl ?_
        refine dx_goto C 10 dX0_bestOf_43 (by decide) ?_
        refine dx_mv (lo2 := [(0, .ref (z + b0)), (1, .int a1), (2, .int v3.1), (3, .int v3.2), (4, .int (s10.2.2 + (1 : Int32)))]) [1, 2, 3, 4, 0] rfl ?_
        exact dx_end (fun h => h)
      · refine dx_icmp_ge C 40 dX0_bestOf_31 (by decide) ?_ ?_
        · refine dx_mv (lo2 := [(0, .ref (z + b0)), (1, .int a1), (2, .int s10.1), (3, .int s10.2.1), (4, .int s10.2.2)]) [1, 2, 3, 4, 5] rfl ?_
          exact dx_end (fun h => h)
        · refine dx_iload C 0 dX0_bestOf_34 rfl ?_
          refine dx_istore_n C [(3, .int r2), (5, .int r2), (0, .ref (z + b0)), (1, .int a1), (2, .int s10.1), (4, .int s10.2.2)] dX0_bestOf_36 rfl (by decide) rfl ?_
          refine dx_iload C 5 dX0_bestOf_37 rfl ?_
          refine dx_istore_n C [(2, .int s10.2.2), (3, .int r2), (5, .int r2), (0, .ref (z + b0)), (1, .int a1), (4, .int s10.2.2)] dX0_bestOf_39 rfl (by decide) rfl ?_
          refine dx_mv (lo2 := [(0, .ref (z + b0)), (1, .int a1), (2, .int s10.2.2), (3, .int r2), (4, .int s10.2.2)]) [3, 4, 0, 1, 5] rfl ?_
          exact dx_end (fun h => h)
def f_X9_ask (w : Mem) : Option (Int32) :=
  (f_X2_fitting_106 (brp (w 0 8)) w).bind fun r1 => (f_X0_bestOf (brp (w 0 8)) r1 w).bind fun r2 => some (r2)
set_option maxRecDepth 20000 in
set_option maxHeartbeats 4000000 in
theorem tf_X9_ask {G : GT} {l : Launch} {z n : Nat} (w : Mem) (q : Int32) (hq : f_X9_ask w = some q) : Mt G l z yX9_ask cX9_ask 1 (some .int) { frames := 5, cells := 0, slots := 0, locals := 117 } [.ref (z + 0)] (hp G z w) n (some (.int q)) (hp G z w) n := by
  refine mt_of (by decide +kernel) (Nat.le_of_ble_eq_true rfl) ?_
  intro p e s m below meth c C hr hlk hnm
  refine (?_ : DX p l e _ s m _ below meth c G z 1 n _ (fun v => v = q) 0 [(0, .ref (z + 0))] [] w (f_X9_ask w)) q hq rfl
  unfold f_X9_ask
  refine dx_aload_n C 0 dX9_ask_0 rfl rfl ?_
  refine dgX9_65 C dX9_ask_1 ?_
  refine dx_aload_n C 0 dX9_ask_4 rfl rfl ?_
  refine dgX9_55 C dX9_ask_5 ?_
  refine dx_aload_n C 0 dX9_ask_8 rfl rfl ?_
  refine dgX9_65 C dX9_ask_9 ?_
  refine dx_callV1 C cl_X2_fitting kmX9_315 (ci := 1) (b := 106) (As := [.ref (z + (brp (w 0 8)))]) (rest := [.ref (z + (brp (w 0 8)))]) rfl (hp_of ly_106) (tf_X2_fitting_106 (brp (w 0 8)) (brp_ok (w 0 8)) w) rfl rfl (Nat.le_of_ble_eq_true rfl) ⟨Nat.le_of_ble_eq_true rfl, Nat.le_of_ble_eq_true rfl⟩ dX9_ask_12 (fun r1 => ?_)
  refine dx_callS1 C cl_X0_bestOf kmX9_318 (As := [.ref (z + (brp (w 0 8))), .int r1]) (rest := []) (tf_X0_bestOf (brp (w 0 8)) (brp_ok (w 0 8)) r1 w) rfl rfl (Nat.le_of_ble_eq_true rfl) ⟨Nat.le_of_ble_eq_true rfl, Nat.le_of_ble_eq_true rfl⟩ dX9_ask_15 (fun r2 => ?_)
  exact dx_iret1 C hr hlk dX9_ask_18 (fun h => h)
def f_X2_add_109 (a1 : Int32) (a2 : Int32) (w : Mem) : Option (Int32 × Mem) :=
  (if (w 109 2) < (20 : Int32) then (if (w 109 2) < (20 : Int32) then wr 20 110 (w 109 2) a1 w fun w1 => wr 20 111 (w1 109 2) a2 w1 fun w2 => pw 109 2 ((w2 109 2) + (1 : Int32)) w2 fun w3 => some (((1 : Int32), w3)) else some (((0 : Int32), w))) else some (((0 : Int32), w)))
set_option maxRecDepth 20000 in
set_option maxHeartbeats 4000000 in
theorem tf_X2_add_109 {G : GT} {l : Launch} {z n : Nat} (a1 : Int32) (a2 : Int32) (w : Mem) (q : Int32 × Mem) (hq : f_X2_add_109 a1 a2 w = some q) : Mt G l z yX2_add cX2_add 3 (some .boolean) { frames := 0, cells := 0, slots := 0, locals := 0 } [.ref (z + 109), .int a1, .int a2] (hp G z w) n (some (.int q.1)) (hp G z q.2) n := by
  refine mt_of (by decide +kernel) (Nat.le_of_ble_eq_true rfl) ?_
  intro p e s m below meth c C hr hlk hnm
  refine (?_ : DX p l e _ s m _ below meth c G z 3 n _ (fun v => v = q) 0 [(0, .ref (z + 109)), (1, .int a1), (2, .int a2)] [] w (f_X2_add_109 a1 a2 w)) q hq rfl
  unfold f_X2_add_109
  refine dx_aload_n C 0 dX2_add_0 rfl rfl ?_
  refine dgX2_9_109 C dX2_add_1 ?_
  refine dx_aload_n C 0 dX2_add_4 rfl rfl ?_
  refine dgX2_21_109 C dX2_add_5 ?_
  refine dx_alen (v := (20 : Int32)) C 0 ly_110 rfl rfl rfl dX2_add_8 ?_
  refine dx_icmp_ge C 24 dX2_add_9 (by decide) ?_ ?_
  · refine dx_iconst (v := (0 : Int32)) C dX2_add_24 (by decide) ?_
    exact dx_zret2 C hr hlk (by decide) dX2_add_25 (fun h => h)
  · refine dx_aload_n C 0 dX2_add_12 rfl rfl ?_
    refine dgX2_9_109 C dX2_add_13 ?_
    refine dx_aload_n C 0 dX2_add_16 rfl rfl ?_
    refine dgX2_25_109 C dX2_add_17 ?_
    refine dx_alen (v := (20 : Int32)) C 0 ly_111 rfl rfl rfl dX2_add_20 ?_
    refine dx_icmp_lt C 26 dX2_add_21 (by decide) ?_ ?_
    · refine dx_aload_n C 0 dX2_add_26 rfl rfl ?_
      refine dgX2_21_109 C dX2_add_27 ?_
      refine dx_aload_n C 0 dX2_add_30 rfl rfl ?_
      refine dgX2_9_109 C dX2_add_31 ?_
      refine dx_iload_n C 1 dX2_add_34 rfl rfl ?_
      refine dx_wr C ly_110 dX2_add_35 (fun w1 => ?_)
      refine dx_aload_n C 0 dX2_add_36 rfl rfl ?_
      refine dgX2_25_109 C dX2_add_37 ?_
      refine dx_aload_n C 0 dX2_add_40 rfl rfl ?_
      refine dgX2_9_109 C dX2_add_41 ?_
      refine dx_iload_n C 2 dX2_add_44 rfl rfl ?_
      refine dx_wr C ly_111 dX2_add_45 (fun w2 => ?_)
      refine dx_aload_n C 0 dX2_add_46 rfl rfl ?_
      refine dx_dup C dX2_add_47 rfl ?_
      refine dgX2_9_109 C dX2_add_48 ?_
      refine dx_iconst (v := (1 : Int32)) C dX2_add_51 (by decide) ?_
      refine dx_iadd C dX2_add_52 ?_
      refine dpX2_9_109 C dX2_add_53 (fun w3 => ?_)
      refine dx_iconst (v := (1 : Int32)) C dX2_add_56 (by decide) ?_
      exact dx_zret2 C hr hlk (by decide) dX2_add_57 (fun h => h)
    · refine dx_iconst (v := (0 : Int32)) C dX2_add_24 (by decide) ?_
      exact dx_zret2 C hr hlk (by decide) dX2_add_25 (fun h => h)
def f_X9_write (a1 : Int32) (a2 : Int32) (w : Mem) : Option (Int32 × Mem) :=
  (f_X1_hasTraveller (brp (w 0 8)) a1 w).bind fun r1 => (if r1 = 0 then some (((-1000000001 : Int32), w)) else (if a2 < 0 then some (((-1000000002 : Int32), w)) else (if (9999 : Int32) < a2 then some (((-1000000002 : Int32), w)) else (f_X2_add_109 a1 a2 w).bind fun q2 => (if q2.1 = 0 then some (((-1000000004 : Int32), q2.2)) else some (((q2.2 109 2), q2.2))))))
set_option maxRecDepth 20000 in
set_option maxHeartbeats 4000000 in
theorem tf_X9_write {G : GT} {l : Launch} {z n : Nat} (a1 : Int32) (a2 : Int32) (w : Mem) (q : Int32 × Mem) (hq : f_X9_write a1 a2 w = some q) : Mt G l z yX9_write cX9_write 3 (some .int) { frames := 1, cells := 0, slots := 0, locals := 22 } [.ref (z + 0), .int a1, .int a2] (hp G z w) n (some (.int q.1)) (hp G z q.2) n := by
  refine mt_of (by decide +kernel) (Nat.le_of_ble_eq_true rfl) ?_
  intro p e s m below meth c C hr hlk hnm
  refine (?_ : DX p l e _ s m _ below meth c G z 3 n _ (fun v => v = q) 0 [(0, .ref (z + 0)), (1, .int a1), (2, .int a2)] [] w (f_X9_write a1 a2 w)) q hq rfl
  unfold f_X9_write
  refine dx_aload_n C 0 dX9_write_0 rfl rfl ?_
  refine dgX9_65 C dX9_write_1 ?_
  refine dx_iload_n C 1 dX9_write_4 rfl rfl ?_
  refine dx_callV1 C cl_X1_hasTraveller kmX9_193 (ci := 0) (b := (brp (w 0 8))) (As := [.int a1]) (rest := []) rfl (hp_of (lyBr0 (brp_ok (w 0 8)))) (tf_X1_hasTraveller (brp (w 0 8)) (brp_ok (w 0 8)) a1 w) rfl rfl (Nat.le_of_ble_eq_true rfl) ⟨Nat.le_of_ble_eq_true rfl, Nat.le_of_ble_eq_true rfl⟩ dX9_write_5 (fun r1 => ?_)
  refine dx_if_ne C 14 dX9_write_8 (by decide) ?_ ?_
  · refine dx_iload_n C 2 dX9_write_14 rfl rfl ?_
    refine dx_if_lt C 25 dX9_write_15 (by decide) ?_ ?_
    · refine dx_ldc C kcX9_80 dX9_write_25 ?_
      exact dx_iret2 C hr hlk dX9_write_27 (fun h => h)
    · refine dx_iload_n C 2 dX9_write_18 rfl rfl ?_
      refine dx_sipush (v := (9999 : Int32)) C dX9_write_19 (by decide) ?_
      refine dx_icmp_le C 28 dX9_write_22 (by decide) ?_ ?_
      · refine dx_aload_n C 0 dX9_write_28 rfl rfl ?_
        refine dgX9_59 C dX9_write_29 ?_
        refine dx_iload_n C 1 dX9_write_32 rfl rfl ?_
        refine dx_iload_n C 2 dX9_write_33 rfl rfl ?_
        refine dx_callV2 C cl_X2_add kmX9_313 (ci := 1) (b := 109) (As := [.int a1, .int a2]) (rest := []) rfl (hp_of ly_109) (tf_X2_add_109 a1 a2 w) rfl rfl (Nat.le_of_ble_eq_true rfl) ⟨Nat.le_of_ble_eq_true rfl, Nat.le_of_ble_eq_true rfl⟩ dX9_write_34 (fun q2 => ?_)
        refine dx_if_eq C 50 dX9_write_37 (by decide) ?_ ?_
        · refine dx_ldc C kcX9_88 dX9_write_50 ?_
          exact dx_iret2 C hr hlk dX9_write_52 (fun h => h)
        · refine dx_aload_n C 0 dX9_write_40 rfl rfl ?_
          refine dgX9_59 C dX9_write_41 ?_
          refine dgX9_141_109 C dX9_write_44 ?_
          refine dx_goto C 52 dX9_write_47 (by decide) ?_
          exact dx_iret2 C hr hlk dX9_write_52 (fun h => h)
      · refine dx_ldc C kcX9_80 dX9_write_25 ?_
        exact dx_iret2 C hr hlk dX9_write_27 (fun h => h)
  · refine dx_ldc C kcX9_179 dX9_write_11 ?_
    exact dx_iret2 C hr hlk dX9_write_13 (fun h => h)
def f_X2_firstWrong_109 (w : Mem) : Option (Int32) :=
  lp (S := Int32) (T := Int32) (fun s2 => (if s2 < (w 109 2) then rd 20 (w 110) s2 fun x1 => (if x1 < 0 then some (Sum.inr (s2)) else (if x1 < (6 : Int32) then rd 6 (w 5) x1 fun x2 => rd 20 (w 111) s2 fun x3 => (if x2 = x3 then some (Sum.inl (s2 + (1 : Int32))) else some (Sum.inr (s2))) else some (Sum.inr (s2)))) else some (Sum.inr ((-1 : Int32))))) 5000000000 (0 : Int32)
set_option maxRecDepth 20000 in
set_option maxHeartbeats 4000000 in
theorem tf_X2_firstWrong_109 {G : GT} {l : Launch} {z n : Nat} (w : Mem) (q : Int32) (hq : f_X2_firstWrong_109 w = some q) : Mt G l z yX2_firstWrong cX2_firstWrong 4 (some .int) { frames := 0, cells := 0, slots := 0, locals := 0 } [.ref (z + 109), .ref (z + 5)] (hp G z w) n (some (.int q)) (hp G z w) n := by
  refine mt_of (by decide +kernel) (Nat.le_of_ble_eq_true rfl) ?_
  intro p e s m below meth c C hr hlk hnm
  refine (?_ : DX p l e _ s m _ below meth c G z 4 n _ (fun v => v = q) 0 [(0, .ref (z + 109)), (1, .ref (z + 5))] [] w (f_X2_firstWrong_109 w)) q hq rfl
  unfold f_X2_firstWrong_109
  refine dx_iconst (v := (0 : Int32)) C dX2_firstWrong_0 (by decide) ?_
  refine dx_istore_n C [(2, .int (0 : Int32)), (0, .ref (z + 109)), (1, .ref (z + 5))] dX2_firstWrong_1 rfl (by decide) rfl ?_
  refine dx_mv (lo2 := [(0, .ref (z + 109)), (1, .ref (z + 5)), (2, .int (0 : Int32))]) [1, 2, 0] rfl ?_
  refine dx_lp (fun s2 => [(0, .ref (z + 109)), (1, .ref (z + 5)), (2, .int s2)]) [] (fun s2 => w) (fun s2 => (?_ : DX p l e _ s m _ below meth c G z 4 n _ _ 2 [(0, .ref (z + 109)), (1, .ref (z + 5)), (2, .int s2)] [] w _)) 5000000000 (0 : Int32)
  refine dx_iload_n C 2 dX2_firstWrong_2 rfl rfl ?_
  refine dx_aload_n C 0 dX2_firstWrong_3 rfl rfl ?_
  refine dgX2_9_109 C dX2_firstWrong_4 ?_
  refine dx_icmp_ge C 47 dX2_firstWrong_7 (by decide) ?_ ?_
  · refine dx_iconst (v := (-1 : Int32)) C dX2_firstWrong_47 (by decide) ?_
    exact dx_iret1 C hr hlk dX2_firstWrong_48 (fun h => h)
  · refine dx_aload_n C 0 dX2_firstWrong_10 rfl rfl ?_
    refine dgX2_21_109 C dX2_firstWrong_11 ?_
    refine dx_iload_n C 2 dX2_firstWrong_14 rfl rfl ?_
    refine dx_rd C ly_110 dX2_firstWrong_15 (fun x1 => ?_)
    refine dx_istore_n C [(3, .int x1), (0, .ref (z + 109)), (1, .ref (z + 5)), (2, .int s2)] dX2_firstWrong_16 rfl (by decide) rfl ?_
    refine dx_iload_n C 0 dX2_firstWrong_17 rfl rfl ?_
    refine dx_if_lt C 39 dX2_firstWrong_18 (by decide) ?_ ?_
    · refine dx_iload_n C 3 dX2_firstWrong_39 rfl rfl ?_
      exact dx_iret1 C hr hlk dX2_firstWrong_40 (fun h => h)
    · refine dx_iload_n C 0 dX2_firstWrong_21 rfl rfl ?_
      refine dx_aload_n C 2 dX2_firstWrong_22 rfl rfl ?_
      refine dx_alen (v := (6 : Int32)) C 0 ly_5 rfl rfl rfl dX2_firstWrong_23 ?_
      refine dx_icmp_ge C 39 dX2_firstWrong_24 (by decide) ?_ ?_
      · refine dx_iload_n C 3 dX2_firstWrong_39 rfl rfl ?_
        exact dx_iret1 C hr hlk dX2_firstWrong_40 (fun h => h)
      · refine dx_aload_n C 2 dX2_firstWrong_27 rfl rfl ?_
        refine dx_iload_n C 0 dX2_firstWrong_28 rfl rfl ?_
        refine dx_rd C ly_5 dX2_firstWrong_29 (fun x2 => ?_)
        refine dx_aload_n C 1 dX2_firstWrong_30 rfl rfl ?_
        refine dgX2_25_109 C dX2_firstWrong_31 ?_
        refine dx_iload_n C 3 dX2_firstWrong_34 rfl rfl ?_
        refine dx_rd C ly_111 dX2_firstWrong_35 (fun x3 => ?_)
        refine dx_icmp_eq C 41 dX2_firstWrong_36 (by decide) ?_ ?_
        · refine dx_iinc (v := (s2 + (1 : Int32))) C 3 [(2, .int (s2 + (1 : Int32))), (3, .int x1), (0, .ref (z + 109)), (1, .ref (z + 5))] dX2_firstWrong_41 rfl rfl (by decide) rfl ?_
          refine dx_goto C 2 dX2_firstWrong_44 (by decide) ?_
          refine dx_mv (lo2 := [(0, .ref (z + 109)), (1, .ref (z + 5)), (2, .int (s2 + (1 : Int32)))]) [2, 3, 0] rfl ?_
          exact dx_end (fun h => h)
        · refine dx_iload_n C 3 dX2_firstWrong_39 rfl rfl ?_
          exact dx_iret1 C hr hlk dX2_firstWrong_40 (fun h => h)
def f_X9_judge (w : Mem) : Option (Int32) :=
  (f_X2_firstWrong_109 w).bind fun r1 => some (r1)
set_option maxRecDepth 20000 in
set_option maxHeartbeats 4000000 in
theorem tf_X9_judge {G : GT} {l : Launch} {z n : Nat} (w : Mem) (q : Int32) (hq : f_X9_judge w = some q) : Mt G l z yX9_judge cX9_judge 1 (some .int) { frames := 1, cells := 0, slots := 0, locals := 23 } [.ref (z + 0)] (hp G z w) n (some (.int q)) (hp G z w) n := by
  refine mt_of (by decide +kernel) (Nat.le_of_ble_eq_true rfl) ?_
  intro p e s m below meth c C hr hlk hnm
  refine (?_ : DX p l e _ s m _ below meth c G z 1 n _ (fun v => v = q) 0 [(0, .ref (z + 0))] [] w (f_X9_judge w)) q hq rfl
  unfold f_X9_judge
  refine dx_aload_n C 0 dX9_judge_0 rfl rfl ?_
  refine dgX9_59 C dX9_judge_1 ?_
  refine dx_aload_n C 0 dX9_judge_4 rfl rfl ?_
  refine dgX9_19 C dX9_judge_5 ?_
  refine dgX9_205 C (Or.inl rfl) dX9_judge_8 ?_
  refine dx_callV1 C cl_X2_firstWrong kmX9_323 (ci := 1) (b := 109) (As := [.ref (z + 5)]) (rest := []) rfl (hp_of ly_109) (tf_X2_firstWrong_109 w) rfl rfl (Nat.le_of_ble_eq_true rfl) ⟨Nat.le_of_ble_eq_true rfl, Nat.le_of_ble_eq_true rfl⟩ dX9_judge_11 (fun r1 => ?_)
  exact dx_iret1 C hr hlk dX9_judge_14 (fun h => h)
def f_X9_tear (w : Mem) : Option (Int32 × Mem) :=
  (f_X2_forget_106 w).bind fun w1 => (f_X2_forget_109 w1).bind fun w2 => some ((((w 106 2) + (w 109 2)), w2))
set_option maxRecDepth 20000 in
set_option maxHeartbeats 4000000 in
theorem tf_X9_tear {G : GT} {l : Launch} {z n : Nat} (w : Mem) (q : Int32 × Mem) (hq : f_X9_tear w = some q) : Mt G l z yX9_tear cX9_tear 2 (some .int) { frames := 1, cells := 0, slots := 0, locals := 20 } [.ref (z + 0)] (hp G z w) n (some (.int q.1)) (hp G z q.2) n := by
  refine mt_of (by decide +kernel) (Nat.le_of_ble_eq_true rfl) ?_
  intro p e s m below meth c C hr hlk hnm
  refine (?_ : DX p l e _ s m _ below meth c G z 2 n _ (fun v => v = q) 0 [(0, .ref (z + 0))] [] w (f_X9_tear w)) q hq rfl
  unfold f_X9_tear
  refine dx_aload_n C 0 dX9_tear_0 rfl rfl ?_
  refine dgX9_55 C dX9_tear_1 ?_
  refine dgX9_141_106 C dX9_tear_4 ?_
  refine dx_aload_n C 0 dX9_tear_7 rfl rfl ?_
  refine dgX9_59 C dX9_tear_8 ?_
  refine dgX9_141_109 C dX9_tear_11 ?_
  refine dx_iadd C dX9_tear_14 ?_
  refine dx_istore_n C [(1, .int ((w 106 2) + (w 109 2))), (0, .ref (z + 0))] dX9_tear_15 rfl (by decide) rfl ?_
  refine dx_aload_n C 1 dX9_tear_16 rfl rfl ?_
  refine dgX9_55 C dX9_tear_17 ?_
  refine dx_callV3 C cl_X2_forget kmX9_112 (ci := 1) (b := 106) (As := []) (rest := []) rfl (hp_of ly_106) (tf_X2_forget_106 w) rfl rfl (Nat.le_of_ble_eq_true rfl) ⟨Nat.le_of_ble_eq_true rfl, Nat.le_of_ble_eq_true rfl⟩ dX9_tear_20 (fun w1 => ?_)
  refine dx_aload_n C 1 dX9_tear_23 rfl rfl ?_
  refine dgX9_59 C dX9_tear_24 ?_
  refine dx_callV3 C cl_X2_forget kmX9_112 (ci := 1) (b := 109) (As := []) (rest := []) rfl (hp_of ly_109) (tf_X2_forget_109 w1) rfl rfl (Nat.le_of_ble_eq_true rfl) ⟨Nat.le_of_ble_eq_true rfl, Nat.le_of_ble_eq_true rfl⟩ dX9_tear_27 (fun w2 => ?_)
  refine dx_iload_n C 0 dX9_tear_30 rfl rfl ?_
  exact dx_iret2 C hr hlk dX9_tear_31 (fun h => h)
def f_X9_seed (a1 : Int32) (w : Mem) : Option (Int32 × Mem) :=
  (if a1 < 0 then some (((-1000000002 : Int32), w)) else pw 0 10 a1 w fun w1 => some (((w 0 10), w1)))
set_option maxRecDepth 20000 in
set_option maxHeartbeats 4000000 in
theorem tf_X9_seed {G : GT} {l : Launch} {z n : Nat} (a1 : Int32) (w : Mem) (q : Int32 × Mem) (hq : f_X9_seed a1 w = some q) : Mt G l z yX9_seed cX9_seed 3 (some .int) { frames := 0, cells := 0, slots := 0, locals := 0 } [.ref (z + 0), .int a1] (hp G z w) n (some (.int q.1)) (hp G z q.2) n := by
  refine mt_of (by decide +kernel) (Nat.le_of_ble_eq_true rfl) ?_
  intro p e s m below meth c C hr hlk hnm
  refine (?_ : DX p l e _ s m _ below meth c G z 3 n _ (fun v => v = q) 0 [(0, .ref (z + 0)), (1, .int a1)] [] w (f_X9_seed a1 w)) q hq rfl
  unfold f_X9_seed
  refine dx_iload_n C 1 dX9_seed_0 rfl rfl ?_
  refine dx_if_ge C 7 dX9_seed_1 (by decide) ?_ ?_
  · refine dx_aload_n C 0 dX9_seed_7 rfl rfl ?_
    refine dgX9_72 C dX9_seed_8 ?_
    refine dx_istore_n C [(2, .int (w 0 10)), (0, .ref (z + 0)), (1, .int a1)] dX9_seed_11 rfl (by decide) rfl ?_
    refine dx_aload_n C 1 dX9_seed_12 rfl rfl ?_
    refine dx_iload_n C 2 dX9_seed_13 rfl rfl ?_
    refine dpX9_72 C dX9_seed_14 (fun w1 => ?_)
    refine dx_iload_n C 0 dX9_seed_17 rfl rfl ?_
    exact dx_iret2 C hr hlk dX9_seed_18 (fun h => h)
  · refine dx_ldc C kcX9_80 dX9_seed_4 ?_
    exact dx_iret2 C hr hlk dX9_seed_6 (fun h => h)
def f_X9_keep (a1 : Int32) (w : Mem) : Option (Int32 × Mem) :=
  (if a1 < 0 then some (((-1000000001 : Int32), w)) else (if a1 < (2 : Int32) then ri a1 fun o1 => (f_X3_copyFrom (o1 + 1) 3 w).bind fun w2 => pw o1 1 (w2 0 10) w2 fun w3 => pw o1 2 (1 : Int32) w3 fun w4 => (f_X6_forget w4).bind fun w5 => some (((1 : Int32), w5)) else some (((-1000000001 : Int32), w))))
set_option maxRecDepth 20000 in
set_option maxHeartbeats 4000000 in
theorem tf_X9_keep {G : GT} {l : Launch} {z n : Nat} (a1 : Int32) (w : Mem) (q : Int32 × Mem) (hq : f_X9_keep a1 w = some q) : Mt G l z yX9_keep cX9_keep 3 (some .int) { frames := 1, cells := 0, slots := 0, locals := 22 } [.ref (z + 0), .int a1] (hp G z w) n (some (.int q.1)) (hp G z q.2) n := by
  refine mt_of (by decide +kernel) (Nat.le_of_ble_eq_true rfl) ?_
  intro p e s m below meth c C hr hlk hnm
  refine (?_ : DX p l e _ s m _ below meth c G z 3 n _ (fun v => v = q) 0 [(0, .ref (z + 0)), (1, .int a1)] [] w (f_X9_keep a1 w)) q hq rfl
  unfold f_X9_keep
  refine dx_iload_n C 1 dX9_keep_0 rfl rfl ?_
  refine dx_if_lt C 13 dX9_keep_1 (by decide) ?_ ?_
  · refine dx_ldc C kcX9_179 dX9_keep_13 ?_
    exact dx_iret2 C hr hlk dX9_keep_15 (fun h => h)
  · refine dx_iload_n C 1 dX9_keep_4 rfl rfl ?_
    refine dx_aload_n C 0 dX9_keep_5 rfl rfl ?_
    refine dgX9_32 C dX9_keep_6 ?_
    refine dx_alen (v := (2 : Int32)) C 4 ly_98 rfl rfl rfl dX9_keep_9 ?_
    refine dx_icmp_lt C 16 dX9_keep_10 (by decide) ?_ ?_
    · refine dx_aload_n C 0 dX9_keep_16 rfl rfl ?_
      refine dgX9_32 C dX9_keep_17 ?_
      refine dx_iload_n C 1 dX9_keep_20 rfl rfl ?_
      refine dx_imgs C dX9_keep_21 (fun o1 ho1 => ?_)
      refine dx_astore_n C [(2, .ref (z + o1)), (0, .ref (z + 0)), (1, .int a1)] dX9_keep_22 rfl (by decide) rfl ?_
      refine dx_aload_n C 0 dX9_keep_23 rfl rfl ?_
      refine dgX9_327 C ho1 dX9_keep_24 ?_
      refine dx_aload_n C 1 dX9_keep_27 rfl rfl ?_
      refine dgX9_19 C dX9_keep_28 ?_
      refine dx_callV3 C cl_X3_copyFrom kmX9_328 (ci := 2) (b := (o1 + 1)) (As := [.ref (z + 3)]) (rest := []) rfl (hp_of (lyEv0 (ev_im ho1))) (tf_X3_copyFrom (o1 + 1) (ev_im ho1) 3 (Or.inl rfl) w) rfl rfl (Nat.le_of_ble_eq_true rfl) ⟨Nat.le_of_ble_eq_true rfl, Nat.le_of_ble_eq_true rfl⟩ dX9_keep_31 (fun w2 => ?_)
      refine dx_aload_n C 0 dX9_keep_34 rfl rfl ?_
      refine dx_aload_n C 1 dX9_keep_35 rfl rfl ?_
      refine dgX9_72 C dX9_keep_36 ?_
      refine dpX9_331 C ho1 dX9_keep_39 (fun w3 => ?_)
      refine dx_aload_n C 0 dX9_keep_42 rfl rfl ?_
      refine dx_iconst (v := (1 : Int32)) C dX9_keep_43 (by decide) ?_
      refine dpX9_113 C ho1 dX9_keep_44 (by decide) (by decide) (fun w4 => ?_)
      refine dx_aload_n C 1 dX9_keep_47 rfl rfl ?_
      refine dgX9_26 C dX9_keep_48 ?_
      refine dx_callV3 C cl_X6_forget kmX9_109 (ci := 5) (b := 6) (As := []) (rest := []) rfl (hp_of ly_6) (tf_X6_forget w4) rfl rfl (Nat.le_of_ble_eq_true rfl) ⟨Nat.le_of_ble_eq_true rfl, Nat.le_of_ble_eq_true rfl⟩ dX9_keep_51 (fun w5 => ?_)
      refine dx_iconst (v := (1 : Int32)) C dX9_keep_54 (by decide) ?_
      exact dx_iret2 C hr hlk dX9_keep_55 (fun h => h)
    · refine dx_ldc C kcX9_179 dX9_keep_13 ?_
      exact dx_iret2 C hr hlk dX9_keep_15 (fun h => h)
def f_X9_goBack (a1 : Int32) (w : Mem) : Option (Int32 × Mem) :=
  (if a1 < 0 then some (((-1000000001 : Int32), w)) else (if a1 < (2 : Int32) then ri a1 fun o1 => (if (w o1 2) = 0 then some (((-1000000003 : Int32), w)) else (f_X3_copyFrom 3 (o1 + 1) w).bind fun w2 => pw 0 10 (w2 o1 1) w2 fun w3 => (f_X6_forget w3).bind fun w4 => some (((1 : Int32), w4))) else some (((-1000000001 : Int32), w))))
set_option maxRecDepth 20000 in
set_option maxHeartbeats 4000000 in
theorem tf_X9_goBack {G : GT} {l : Launch} {z n : Nat} (a1 : Int32) (w : Mem) (q : Int32 × Mem) (hq : f_X9_goBack a1 w = some q) : Mt G l z yX9_goBack cX9_goBack 3 (some .int) { frames := 1, cells := 0, slots := 0, locals := 22 } [.ref (z + 0), .int a1] (hp G z w) n (some (.int q.1)) (hp G z q.2) n := by
  refine mt_of (by decide +kernel) (Nat.le_of_ble_eq_true rfl) ?_
  intro p e s m below meth c C hr hlk hnm
  refine (?_ : DX p l e _ s m _ below meth c G z 3 n _ (fun v => v = q) 0 [(0, .ref (z + 0)), (1, .int a1)] [] w (f_X9_goBack a1 w)) q hq rfl
  unfold f_X9_goBack
  refine dx_iload_n C 1 dX9_goBack_0 rfl rfl ?_
  refine dx_if_lt C 13 dX9_goBack_1 (by decide) ?_ ?_
  · refine dx_ldc C kcX9_179 dX9_goBack_13 ?_
    exact dx_iret2 C hr hlk dX9_goBack_15 (fun h => h)
  · refine dx_iload_n C 1 dX9_goBack_4 rfl rfl ?_
    refine dx_aload_n C 0 dX9_goBack_5 rfl rfl ?_
    refine dgX9_32 C dX9_goBack_6 ?_
    refine dx_alen (v := (2 : Int32)) C 4 ly_98 rfl rfl rfl dX9_goBack_9 ?_
    refine dx_icmp_lt C 16 dX9_goBack_10 (by decide) ?_ ?_
    · refine dx_aload_n C 0 dX9_goBack_16 rfl rfl ?_
      refine dgX9_32 C dX9_goBack_17 ?_
      refine dx_iload_n C 1 dX9_goBack_20 rfl rfl ?_
      refine dx_imgs C dX9_goBack_21 (fun o1 ho1 => ?_)
      refine dx_astore_n C [(2, .ref (z + o1)), (0, .ref (z + 0)), (1, .int a1)] dX9_goBack_22 rfl (by decide) rfl ?_
      refine dx_aload_n C 0 dX9_goBack_23 rfl rfl ?_
      refine dgX9_113 C ho1 dX9_goBack_24 ?_
      refine dx_if_ne C 33 dX9_goBack_27 (by decide) ?_ ?_
      · refine dx_aload_n C 1 dX9_goBack_33 rfl rfl ?_
        refine dgX9_19 C dX9_goBack_34 ?_
        refine dx_aload_n C 0 dX9_goBack_37 rfl rfl ?_
        refine dgX9_327 C ho1 dX9_goBack_38 ?_
        refine dx_callV3 C cl_X3_copyFrom kmX9_328 (ci := 2) (b := 3) (As := [.ref (z + (o1 + 1))]) (rest := []) rfl (hp_of ly_3) (tf_X3_copyFrom 3 (Or.inl rfl) (o1 + 1) (ev_im ho1) w) rfl rfl (Nat.le_of_ble_eq_true rfl) ⟨Nat.le_of_ble_eq_true rfl, Nat.le_of_ble_eq_true rfl⟩ dX9_goBack_41 (fun w2 => ?_)
        refine dx_aload_n C 1 dX9_goBack_44 rfl rfl ?_
        refine dx_aload_n C 0 dX9_goBack_45 rfl rfl ?_
        refine dgX9_331 C ho1 dX9_goBack_46 ?_
        refine dpX9_72 C dX9_goBack_49 (fun w3 => ?_)
        refine dx_aload_n C 1 dX9_goBack_52 rfl rfl ?_
        refine dgX9_26 C dX9_goBack_53 ?_
        refine dx_callV3 C cl_X6_forget kmX9_109 (ci := 5) (b := 6) (As := []) (rest := []) rfl (hp_of ly_6) (tf_X6_forget w3) rfl rfl (Nat.le_of_ble_eq_true rfl) ⟨Nat.le_of_ble_eq_true rfl, Nat.le_of_ble_eq_true rfl⟩ dX9_goBack_56 (fun w4 => ?_)
        refine dx_iconst (v := (1 : Int32)) C dX9_goBack_59 (by decide) ?_
        exact dx_iret2 C hr hlk dX9_goBack_60 (fun h => h)
      · refine dx_ldc C kcX9_221 dX9_goBack_30 ?_
        exact dx_iret2 C hr hlk dX9_goBack_32 (fun h => h)
    · refine dx_ldc C kcX9_179 dX9_goBack_13 ?_
      exact dx_iret2 C hr hlk dX9_goBack_15 (fun h => h)
def f_X10_in (a0 : Int32) (a1 : Int32) (a2 : Int32) : Option (Int32) :=
  (if a0 < a1 then some ((0 : Int32)) else (if a2 < a0 then some ((0 : Int32)) else some ((1 : Int32))))
set_option maxRecDepth 20000 in
set_option maxHeartbeats 4000000 in
theorem tf_X10_in {G : GT} {l : Launch} {z n : Nat} (a0 : Int32) (a1 : Int32) (a2 : Int32) (w : Mem) (q : Int32) (hq : f_X10_in a0 a1 a2 = some q) : Mt G l z yX10_in cX10_in 3 (some .boolean) { frames := 0, cells := 0, slots := 0, locals := 0 } [.int a0, .int a1, .int a2] (hp G z w) n (some (.int q)) (hp G z w) n := by
  refine mt_of (by decide +kernel) (Nat.le_of_ble_eq_true rfl) ?_
  intro p e s m below meth c C hr hlk hnm
  refine (?_ : DX p l e _ s m _ below meth c G z 3 n _ (fun v => v = q) 0 [(0, .int a0), (1, .int a1), (2, .int a2)] [] w (f_X10_in a0 a1 a2)) q hq rfl
  unfold f_X10_in
  refine dx_iload_n C 0 dX10_in_0 rfl rfl ?_
  refine dx_iload_n C 1 dX10_in_1 rfl rfl ?_
  refine dx_icmp_lt C 14 dX10_in_2 (by decide) ?_ ?_
  · refine dx_iconst (v := (0 : Int32)) C dX10_in_14 (by decide) ?_
    exact dx_zret1 C hr hlk (by decide) dX10_in_15 (fun h => h)
  · refine dx_iload_n C 0 dX10_in_5 rfl rfl ?_
    refine dx_iload_n C 2 dX10_in_6 rfl rfl ?_
    refine dx_icmp_gt C 14 dX10_in_7 (by decide) ?_ ?_
    · refine dx_iconst (v := (0 : Int32)) C dX10_in_14 (by decide) ?_
      exact dx_zret1 C hr hlk (by decide) dX10_in_15 (fun h => h)
    · refine dx_iconst (v := (1 : Int32)) C dX10_in_10 (by decide) ?_
      refine dx_goto C 15 dX10_in_11 (by decide) ?_
      exact dx_zret1 C hr hlk (by decide) dX10_in_15 (fun h => h)
def f_X10_feed (a1 : Int32) (w : Mem) : Option (Int32 × Mem) :=
  (f_X10_in a1 (0 : Int32) (255 : Int32)).bind fun r1 => (if r1 = 0 then some (((-1000000002 : Int32), w)) else (if (w 134 0) = (240 : Int32) then some (((-1000000004 : Int32), w)) else wr 240 135 (w 134 0) a1 w fun w2 => pw 134 0 ((w2 134 0) + (1 : Int32)) w2 fun w3 => some (((w3 134 0), w3))))
set_option maxRecDepth 20000 in
set_option maxHeartbeats 4000000 in
theorem tf_X10_feed {G : GT} {l : Launch} {z n : Nat} (a1 : Int32) (w : Mem) (q : Int32 × Mem) (hq : f_X10_feed a1 w = some q) : Mt G l z yX10_feed cX10_feed 2 (some .int) { frames := 1, cells := 0, slots := 0, locals := 22 } [.ref (z + 134), .int a1] (hp G z w) n (some (.int q.1)) (hp G z q.2) n := by
  refine mt_of (by decide +kernel) (Nat.le_of_ble_eq_true rfl) ?_
  intro p e s m below meth c C hr hlk hnm
  refine (?_ : DX p l e _ s m _ below meth c G z 2 n _ (fun v => v = q) 0 [(0, .ref (z + 134)), (1, .int a1)] [] w (f_X10_feed a1 w)) q hq rfl
  unfold f_X10_feed
  refine dx_iload_n C 1 dX10_feed_0 rfl rfl ?_
  refine dx_iconst (v := (0 : Int32)) C dX10_feed_1 (by decide) ?_
  refine dx_sipush (v := (255 : Int32)) C dX10_feed_2 (by decide) ?_
  refine dx_callS1 C cl_X10_in kmX10_82 (As := [.int a1, .int (0 : Int32), .int (255 : Int32)]) (rest := []) (tf_X10_in a1 (0 : Int32) (255 : Int32) w) rfl rfl (Nat.le_of_ble_eq_true rfl) ⟨Nat.le_of_ble_eq_true rfl, Nat.le_of_ble_eq_true rfl⟩ dX10_feed_5 (fun r1 => ?_)
  refine dx_if_ne C 14 dX10_feed_8 (by decide) ?_ ?_
  · refine dx_aload_n C 0 dX10_feed_14 rfl rfl ?_
    refine dgX10_87 C dX10_feed_15 ?_
    refine dx_sipush (v := (240 : Int32)) C dX10_feed_18 (by decide) ?_
    refine dx_icmp_ne C 27 dX10_feed_21 (by decide) ?_ ?_
    · refine dx_aload_n C 0 dX10_feed_27 rfl rfl ?_
      refine dgX10_7 C dX10_feed_28 ?_
      refine dx_aload_n C 0 dX10_feed_31 rfl rfl ?_
      refine dgX10_87 C dX10_feed_32 ?_
      refine dx_iload_n C 1 dX10_feed_35 rfl rfl ?_
      refine dx_wr C ly_135 dX10_feed_36 (fun w2 => ?_)
      refine dx_aload_n C 0 dX10_feed_37 rfl rfl ?_
      refine dx_dup C dX10_feed_38 rfl ?_
      refine dgX10_87 C dX10_feed_39 ?_
      refine dx_iconst (v := (1 : Int32)) C dX10_feed_42 (by decide) ?_
      refine dx_iadd C dX10_feed_43 ?_
      refine dpX10_87 C dX10_feed_44 (fun w3 => ?_)
      refine dx_aload_n C 0 dX10_feed_47 rfl rfl ?_
      refine dgX10_87 C dX10_feed_48 ?_
      exact dx_iret2 C hr hlk dX10_feed_51 (fun h => h)
    · refine dx_ldc C kcX10_90 dX10_feed_24 ?_
      exact dx_iret2 C hr hlk dX10_feed_26 (fun h => h)
  · refine dx_ldc C kcX10_86 dX10_feed_11 ?_
    exact dx_iret2 C hr hlk dX10_feed_13 (fun h => h)
def f_X10_letterAt (a1 : Int32) (w : Mem) : Option (Int32) :=
  (if a1 < (w 134 0) then rd 240 (w 135) a1 fun x1 => some (x1) else some ((-1 : Int32)))
set_option maxRecDepth 20000 in
set_option maxHeartbeats 4000000 in
theorem tf_X10_letterAt {G : GT} {l : Launch} {z n : Nat} (a1 : Int32) (w : Mem) (q : Int32) (hq : f_X10_letterAt a1 w = some q) : Mt G l z yX10_letterAt cX10_letterAt 2 (some .int) { frames := 0, cells := 0, slots := 0, locals := 0 } [.ref (z + 134), .int a1] (hp G z w) n (some (.int q)) (hp G z w) n := by
  refine mt_of (by decide +kernel) (Nat.le_of_ble_eq_true rfl) ?_
  intro p e s m below meth c C hr hlk hnm
  refine (?_ : DX p l e _ s m _ below meth c G z 2 n _ (fun v => v = q) 0 [(0, .ref (z + 134)), (1, .int a1)] [] w (f_X10_letterAt a1 w)) q hq rfl
  unfold f_X10_letterAt
  refine dx_iload_n C 1 dX10_letterAt_0 rfl rfl ?_
  refine dx_aload_n C 0 dX10_letterAt_1 rfl rfl ?_
  refine dgX10_87 C dX10_letterAt_2 ?_
  refine dx_icmp_ge C 17 dX10_letterAt_5 (by decide) ?_ ?_
  · refine dx_iconst (v := (-1 : Int32)) C dX10_letterAt_17 (by decide) ?_
    exact dx_iret1 C hr hlk dX10_letterAt_18 (fun h => h)
  · refine dx_aload_n C 0 dX10_letterAt_8 rfl rfl ?_
    refine dgX10_7 C dX10_letterAt_9 ?_
    refine dx_iload_n C 1 dX10_letterAt_12 rfl rfl ?_
    refine dx_rd C ly_135 dX10_letterAt_13 (fun x1 => ?_)
    refine dx_goto C 18 dX10_letterAt_14 (by decide) ?_
    exact dx_iret1 C hr hlk dX10_letterAt_18 (fun h => h)
def f_X10_nextLetter (w : Mem) : Option (Int32 × Mem) :=
  (lp (S := Mem) (T := Mem) (fun s0 => (f_X10_letterAt (s0 134 2) s0).bind fun r1 => (if r1 = (32 : Int32) then pw 134 2 ((s0 134 2) + (1 : Int32)) s0 fun w2 => some (Sum.inl w2) else some (Sum.inr s0))) 5000000000 w).bind fun v3 => (f_X10_letterAt (v3 134 2) v3).bind fun r4 => some ((r4, v3))
set_option maxRecDepth 20000 in
set_option maxHeartbeats 4000000 in
theorem tf_X10_nextLetter {G : GT} {l : Launch} {z n : Nat} (w : Mem) (q : Int32 × Mem) (hq : f_X10_nextLetter w = some q) : Mt G l z yX10_nextLetter cX10_nextLetter 1 (some .int) { frames := 1, cells := 0, slots := 0, locals := 21 } [.ref (z + 134)] (hp G z w) n (some (.int q.1)) (hp G z q.2) n := by
  refine mt_of (by decide +kernel) (Nat.le_of_ble_eq_true rfl) ?_
  intro p e s m below meth c C hr hlk hnm
  refine (?_ : DX p l e _ s m _ below meth c G z 1 n _ (fun v => v = q) 0 [(0, .ref (z + 134))] [] w (f_X10_nextLetter w)) q hq rfl
  unfold f_X10_nextLetter
  refine dx_bind 26 (fun v3 => [(0, .ref (z + 134))]) (fun v3 => []) (fun v3 => v3) (fun v3 => (?_ : DX p l e _ s m _ below meth c G z 1 n _ _ 26 [(0, .ref (z + 134))] [] v3 _)) ?_
  · refine dx_aload_n C 0 dX10_nextLetter_26 rfl rfl ?_
    refine dx_aload_n C 0 dX10_nextLetter_27 rfl rfl ?_
    refine dgX10_91 C dX10_nextLetter_28 ?_
    refine dx_callV1 C cl_X10_letterAt kmX10_94 (ci := 9) (b := 134) (As := [.int (v3 134 2)]) (rest := []) rfl (hp_of ly_134) (tf_X10_letterAt (v3 134 2) v3) rfl rfl (Nat.le_of_ble_eq_true rfl) ⟨Nat.le_of_ble_eq_true rfl, Nat.le_of_ble_eq_true rfl⟩ dX10_nextLetter_31 (fun r4 => ?_)
    exact dx_iret2 C hr hlk dX10_nextLetter_34 (fun h => h)
  · refine dx_lp (fun s0 => [(0, .ref (z + 134))]) [] (fun s0 => s0) (fun s0 => (?_ : DX p l e _ s m _ below meth c G z 1 n _ _ 0 [(0, .ref (z + 134))] [] s0 _)) 5000000000 w
    refine dx_aload_n C 0 dX10_nextLetter_0 rfl rfl ?_
    refine dx_aload_n C 0 dX10_nextLetter_1 rfl rfl ?_
    refine dgX10_91 C dX10_nextLetter_2 ?_
    refine dx_callV1 C cl_X10_letterAt kmX10_94 (ci := 9) (b := 134) (As := [.int (s0 134 2)]) (rest := []) rfl (hp_of ly_134) (tf_X10_letterAt (s0 134 2) s0) rfl rfl (Nat.le_of_ble_eq_true rfl) ⟨Nat.le_of_ble_eq_true rfl, Nat.le_of_ble_eq_true rfl⟩ dX10_nextLetter_5 (fun r1 => ?_)
    refine dx_bipush (v := (32 : Int32)) C dX10_nextLetter_8 (by decide) ?_
    refine dx_icmp_ne C 26 dX10_nextLetter_10 (by decide) ?_ ?_
    · exact dx_end (fun h => h)
    · refine dx_aload_n C 0 dX10_nextLetter_13 rfl rfl ?_
      refine dx_dup C dX10_nextLetter_14 rfl ?_
      refine dgX10_91 C dX10_nextLetter_15 ?_
      refine dx_iconst (v := (1 : Int32)) C dX10_nextLetter_18 (by decide) ?_
      refine dx_iadd C dX10_nextLetter_19 ?_
      refine dpX10_91 C dX10_nextLetter_20 (fun w2 => ?_)
      refine dx_goto C 0 dX10_nextLetter_23 (by decide) ?_
      exact dx_end (fun h => h)
def f_X10_fails (a1 : Int32) (a2 : Int32) (w : Mem) : Option (Int32 × Mem) :=
  pw 134 4 a1 w fun w1 => pw 134 2 a2 w1 fun w2 => some (((-1 : Int32), w2))
set_option maxRecDepth 20000 in
set_option maxHeartbeats 4000000 in
theorem tf_X10_fails {G : GT} {l : Launch} {z n : Nat} (a1 : Int32) (a2 : Int32) (w : Mem) (q : Int32 × Mem) (hq : f_X10_fails a1 a2 w = some q) : Mt G l z yX10_fails cX10_fails 3 (some .int) { frames := 0, cells := 0, slots := 0, locals := 0 } [.ref (z + 134), .int a1, .int a2] (hp G z w) n (some (.int q.1)) (hp G z q.2) n := by
  refine mt_of (by decide +kernel) (Nat.le_of_ble_eq_true rfl) ?_
  intro p e s m below meth c C hr hlk hnm
  refine (?_ : DX p l e _ s m _ below meth c G z 3 n _ (fun v => v = q) 0 [(0, .ref (z + 134)), (1, .int a1), (2, .int a2)] [] w (f_X10_fails a1 a2 w)) q hq rfl
  unfold f_X10_fails
  refine dx_aload_n C 0 dX10_fails_0 rfl rfl ?_
  refine dx_iload_n C 1 dX10_fails_1 rfl rfl ?_
  refine dpX10_98 C dX10_fails_2 (fun w1 => ?_)
  refine dx_aload_n C 0 dX10_fails_5 rfl rfl ?_
  refine dx_iload_n C 2 dX10_fails_6 rfl rfl ?_
  refine dpX10_91 C dX10_fails_7 (fun w2 => ?_)
  refine dx_iconst (v := (-1 : Int32)) C dX10_fails_10 (by decide) ?_
  exact dx_iret2 C hr hlk dX10_fails_11 (fun h => h)
def f_X10_readsNumber (a1 : Int32) (a2 : Int32) (w : Mem) : Option (Int32 × Mem) :=
  (f_X10_nextLetter w).bind fun q1 => (f_X10_in q1.1 (48 : Int32) (57 : Int32)).bind fun r2 => (if r2 = 0 then (f_X10_fails (1 : Int32) (q1.2 134 2) q1.2).bind fun q13 => some ((q13.1, q13.2)) else pw 134 3 (q1.2 134 2) q1.2 fun w3 => (lp (S := (Int32 × Mem)) (T := (Int32 × Mem)) (fun s34 => (f_X10_letterAt (s34.2 134 2) s34.2).bind fun r4 => (f_X10_in r4 (48 : Int32) (57 : Int32)).bind fun r5 => (if r5 = 0 then some (Sum.inr (s34.1, s34.2)) else ((if (999 : Int32) < s34.1 then some (s34.1) else (f_X10_letterAt (s34.2 134 2) s34.2).bind fun r8 => some (((((10 : Int32) * s34.1) + r8) - (48 : Int32)))) : Option Int32).bind fun v6 => pw 134 2 ((s34.2 134 2) + (1 : Int32)) s34.2 fun w7 => some (Sum.inl (v6, w7)))) 5000000000 ((0 : Int32), w3)).bind fun v9 => (if (3 : Int32) < ((v9.2 134 2) - (v9.2 134 3)) then (f_X10_fails (2 : Int32) (v9.2 134 3) v9.2).bind fun q10 => some ((q10.1, q10.2)) else (f_X10_in v9.1 a1 a2).bind fun r11 => (if r11 = 0 then (f_X10_fails (2 : Int32) (v9.2 134 3) v9.2).bind fun q12 => some ((q12.1, q12.2)) else some ((v9.1, v9.2)))))
set_option maxRecDepth 20000 in
set_option maxHeartbeats 4000000 in
theorem tf_X10_readsNumber {G : GT} {l : Launch} {z n : Nat} (a1 : Int32) (a2 : Int32) (w : Mem) (q : Int32 × Mem) (hq : f_X10_readsNumber a1 a2 w = some q) : Mt G l z yX10_readsNumber cX10_readsNumber 4 (some .int) { frames := 2, cells := 0, slots := 0, locals := 41 } [.ref (z + 134), .int a1, .int a2] (hp G z w) n (some (.int q.1)) (hp G z q.2) n := by
  refine mt_of (by decide +kernel) (Nat.le_of_ble_eq_true rfl) ?_
  intro p e s m below meth c C hr hlk hnm
  refine (?_ : DX p l e _ s m _ below meth c G z 4 n _ (fun v => v = q) 0 [(0, .ref (z + 134)), (1, .int a1), (2, .int a2)] [] w (f_X10_readsNumber a1 a2 w)) q hq rfl
  unfold f_X10_readsNumber
  refine dx_aload_n C 0 dX10_readsNumber_0 rfl rfl ?_
  refine dx_callV2 C cl_X10_nextLetter kmX10_101 (ci := 9) (b := 134) (As := []) (rest := []) rfl (hp_of ly_134) (tf_X10_nextLetter w) rfl rfl (Nat.le_of_ble_eq_true rfl) ⟨Nat.le_of_ble_eq_true rfl, Nat.le_of_ble_eq_true rfl⟩ dX10_readsNumber_1 (fun q1 => ?_)
  refine dx_bipush (v := (48 : Int32)) C dX10_readsNumber_4 (by decide) ?_
  refine dx_bipush (v := (57 : Int32)) C dX10_readsNumber_6 (by decide) ?_
  refine dx_callS1 C cl_X10_in kmX10_82 (As := [.int q1.1, .int (48 : Int32), .int (57 : Int32)]) (rest := []) (tf_X10_in q1.1 (48 : Int32) (57 : Int32) q1.2) rfl rfl (Nat.le_of_ble_eq_true rfl) ⟨Nat.le_of_ble_eq_true rfl, Nat.le_of_ble_eq_true rfl⟩ dX10_readsNumber_8 (fun r2 => ?_)
  refine dx_if_ne C 24 dX10_readsNumber_11 (by decide) ?_ ?_
  · refine dx_aload_n C 0 dX10_readsNumber_24 rfl rfl ?_
    refine dx_aload_n C 0 dX10_readsNumber_25 rfl rfl ?_
    refine dgX10_91 C dX10_readsNumber_26 ?_
    refine dpX10_109 C dX10_readsNumber_29 (fun w3 => ?_)
    refine dx_iconst (v := (0 : Int32)) C dX10_readsNumber_32 (by decide) ?_
    refine dx_istore_n C [(3, .int (0 : Int32)), (0, .ref (z + 134)), (1, .int a1), (2, .int a2)] dX10_readsNumber_33 rfl (by decide) rfl ?_
    refine dx_mv (lo2 := [(0, .ref (z + 134)), (1, .int a1), (2, .int a2), (3, .int (0 : Int32))]) [1, 2, 3, 0] rfl ?_
    refine dx_bind 93 (fun v9 => [(0, .ref (z + 134)), (1, .int a1), (2, .int a2), (3, .int v9.1)]) (fun v9 => []) (fun v9 => v9.2) (fun v9 => (?_ : DX p l e _ s m _ below meth c G z 4 n _ _ 93 [(0, .ref (z + 134)), (1, .int a1), (2, .int a2), (3, .int v9.1)] [] v9.2 _)) ?_
    · refine dx_aload_n C 0 dX10_readsNumber_93 rfl rfl ?_
      refine dgX10_91 C dX10_readsNumber_94 ?_
      refine dx_aload_n C 0 dX10_readsNumber_97 rfl rfl ?_
      refine dgX10_109 C dX10_readsNumber_98 ?_
      refine dx_isub C dX10_readsNumber_101 ?_
      refine dx_iconst (v := (3 : Int32)) C dX10_readsNumber_102 (by decide) ?_
      refine dx_icmp_gt C 115 dX10_readsNumber_103 (by decide) ?_ ?_
      · refine dx_aload_n C 0 dX10_readsNumber_115 rfl rfl ?_
        refine dx_iconst (v := (2 : Int32)) C dX10_readsNumber_116 (by decide) ?_
        refine dx_aload_n C 0 dX10_readsNumber_117 rfl rfl ?_
        refine dgX10_109 C dX10_readsNumber_118 ?_
        refine dx_callV2 C cl_X10_fails kmX10_105 (ci := 9) (b := 134) (As := [.int (2 : Int32), .int (v9.2 134 3)]) (rest := []) rfl (hp_of ly_134) (tf_X10_fails (2 : Int32) (v9.2 134 3) v9.2) rfl rfl (Nat.le_of_ble_eq_true rfl) ⟨Nat.le_of_ble_eq_true rfl, Nat.le_of_ble_eq_true rfl⟩ dX10_readsNumber_121 (fun q10 => ?_)
        refine dx_goto C 128 dX10_readsNumber_124 (by decide) ?_
        exact dx_iret2 C hr hlk dX10_readsNumber_128 (fun h => h)
      · refine dx_iload_n C 3 dX10_readsNumber_106 rfl rfl ?_
        refine dx_iload_n C 1 dX10_readsNumber_107 rfl rfl ?_
        refine dx_iload_n C 2 dX10_readsNumber_108 rfl rfl ?_
        refine dx_callS1 C cl_X10_in kmX10_82 (As := [.int v9.1, .int a1, .int a2]) (rest := []) (tf_X10_in v9.1 a1 a2 v9.2) rfl rfl (Nat.le_of_ble_eq_true rfl) ⟨Nat.le_of_ble_eq_true rfl, Nat.le_of_ble_eq_true rfl⟩ dX10_readsNumber_109 (fun r11 => ?_)
        refine dx_if_ne C 127 dX10_readsNumber_112 (by decide) ?_ ?_
        · refine dx_iload_n C 3 dX10_readsNumber_127 rfl rfl ?_
          exact dx_iret2 C hr hlk dX10_readsNumber_128 (fun h => h)
        · refine dx_aload_n C 0 dX10_readsNumber_115 rfl rfl ?_
          refine dx_iconst (v := (2 : Int32)) C dX10_readsNumber_116 (by decide) ?_
          refine dx_aload_n C 0 dX10_readsNumber_117 rfl rfl ?_
          refine dgX10_109 C dX10_readsNumber_118 ?_
          refine dx_callV2 C cl_X10_fails kmX10_105 (ci := 9) (b := 134) (As := [.int (2 : Int32), .int (v9.2 134 3)]) (rest := []) rfl (hp_of ly_134) (tf_X10_fails (2 : Int32) (v9.2 134 3) v9.2) rfl rfl (Nat.le_of_ble_eq_true rfl) ⟨Nat.le_of_ble_eq_true rfl, Nat.le_of_ble_eq_true rfl⟩ dX10_readsNumber_121 (fun q12 => ?_)
          refine dx_goto C 128 dX10_readsNumber_124 (by decide) ?_
          exact dx_iret2 C hr hlk dX10_readsNumber_128 (fun h => h)
    · refine dx_lp (fun s34 => [(0, .ref (z + 134)), (1, .int a1), (2, .int a2), (3, .int s34.1)]) [] (fun s34 => s34.2) (fun s34 => (?_ : DX p l e _ s m _ below meth c G z 4 n _ _ 34 [(0, .ref (z + 134)), (1, .int a1), (2, .int a2), (3, .int s34.1)] [] s34.2 _)) 5000000000 ((0 : Int32), w3)
      refine dx_aload_n C 0 dX10_readsNumber_34 rfl rfl ?_
      refine dx_aload_n C 0 dX10_readsNumber_35 rfl rfl ?_
      refine dgX10_91 C dX10_readsNumber_36 ?_
      refine dx_callV1 C cl_X10_letterAt kmX10_94 (ci := 9) (b := 134) (As := [.int (s34.2 134 2)]) (rest := []) rfl (hp_of ly_134) (tf_X10_letterAt (s34.2 134 2) s34.2) rfl rfl (Nat.le_of_ble_eq_true rfl) ⟨Nat.le_of_ble_eq_true rfl, Nat.le_of_ble_eq_true rfl⟩ dX10_readsNumber_39 (fun r4 => ?_)
      refine dx_bipush (v := (48 : Int32)) C dX10_readsNumber_42 (by decide) ?_
      refine dx_bipush (v := (57 : Int32)) C dX10_readsNumber_44 (by decide) ?_
      refine dx_callS1 C cl_X10_in kmX10_82 (As := [.int r4, .int (48 : Int32), .int (57 : Int32)]) (rest := []) (tf_X10_in r4 (48 : Int32) (57 : Int32) s34.2) rfl rfl (Nat.le_of_ble_eq_true rfl) ⟨Nat.le_of_ble_eq_true rfl, Nat.le_of_ble_eq_true rfl⟩ dX10_readsNumber_46 (fun r5 => ?_)
      refine dx_if_eq C 93 dX10_readsNumber_49 (by decide) ?_ ?_
      · exact dx_end (fun h => h)
      · refine dx_iload_n C 3 dX10_readsNumber_52 rfl rfl ?_
        refine dx_sipush (v := (999 : Int32)) C dX10_readsNumber_53 (by decide) ?_
        refine dx_bind 79 (fun v6 => [(0, .ref (z + 134)), (1, .int a1), (2, .int a2)]) (fun v6 => [.int v6]) (fun v6 => s34.2) (fun v6 => (?_ : DX p l e _ s m _ below meth c G z 4 n _ _ 79 [(0, .ref (z + 134)), (1, .int a1), (2, .int a2)] [.int v6] s34.2 _)) ?_
        · refine dx_istore_n C [(3, .int v6), (0, .ref (z + 134)), (1, .int a1), (2, .int a2)] dX10_readsNumber_79 rfl (by decide) rfl ?_
          refine dx_aload_n C 1 dX10_readsNumber_80 rfl rfl ?_
          refine dx_dup C dX10_readsNumber_81 rfl ?_
          refine dgX10_91 C dX10_readsNumber_82 ?_
          refine dx_iconst (v := (1 : Int32)) C dX10_readsNumber_85 (by decide) ?_
          refine dx_iadd C dX10_readsNumber_86 ?_
          refine dpX10_91 C dX10_readsNumber_87 (fun w7 => ?_)
          refine dx_goto C 34 dX10_readsNumber_90 (by decide) ?_
          refine dx_mv (lo2 := [(0, .ref (z + 134)), (1, .int a1), (2, .int a2), (3, .int v6)]) [1, 2, 3, 0] rfl ?_
          exact dx_end (fun h => h)
        · refine dx_icmp_le C 63 dX10_readsNumber_56 (by decide) ?_ ?_
          · refine dx_bipush (v := (10 : Int32)) C dX10_readsNumber_63 (by decide) ?_
            refine dx_iload_n C 3 dX10_readsNumber_65 rfl rfl ?_
            refine dx_imul C dX10_readsNumber_66 ?_
            refine dx_aload_n C 0 dX10_readsNumber_67 rfl rfl ?_
            refine dx_aload_n C 0 dX10_readsNumber_68 rfl rfl ?_
            refine dgX10_91 C dX10_readsNumber_69 ?_
            refine dx_callV1 C cl_X10_letterAt kmX10_94 (ci := 9) (b := 134) (As := [.int (s34.2 134 2)]) (rest := [.int ((10 : Int32) * s34.1)]) rfl (hp_of ly_134) (tf_X10_letterAt (s34.2 134 2) s34.2) rfl rfl (Nat.le_of_ble_eq_true rfl) ⟨Nat.le_of_ble_eq_true rfl, Nat.le_of_ble_eq_true rfl⟩ dX10_readsNumber_72 (fun r8 => ?_)
            refine dx_iadd C dX10_readsNumber_75 ?_
            refine dx_bipush (v := (48 : Int32)) C dX10_readsNumber_76 (by decide) ?_
            refine dx_isub C dX10_readsNumber_78 ?_
            refine dx_mv (lo2 := [(0, .ref (z + 134)), (1, .int a1), (2, .int a2)]) [0, 1, 2] rfl ?_
            exact dx_end (fun h => h)
          · refine dx_iload_n C 3 dX10_readsNumber_59 rfl rfl ?_
            refine dx_goto C 79 dX10_readsNumber_60 (by decide) ?_
            refine dx_mv (lo2 := [(0, .ref (z + 134)), (1, .int a1), (2, .int a2)]) [0, 1, 2] rfl ?_
            exact dx_end (fun h => h)
  · refine dx_aload_n C 0 dX10_readsNumber_14 rfl rfl ?_
    refine dx_iconst (v := (1 : Int32)) C dX10_readsNumber_15 (by decide) ?_
    refine dx_aload_n C 0 dX10_readsNumber_16 rfl rfl ?_
    refine dgX10_91 C dX10_readsNumber_17 ?_
    refine dx_callV2 C cl_X10_fails kmX10_105 (ci := 9) (b := 134) (As := [.int (1 : Int32), .int (q1.2 134 2)]) (rest := []) rfl (hp_of ly_134) (tf_X10_fails (1 : Int32) (q1.2 134 2) q1.2) rfl rfl (Nat.le_of_ble_eq_true rfl) ⟨Nat.le_of_ble_eq_true rfl, Nat.le_of_ble_eq_true rfl⟩ dX10_readsNumber_20 (fun q13 => ?_)
    exact dx_iret2 C hr hlk dX10_readsNumber_23 (fun h => h)
def f_X10_readsSign (a1 : Int32) (w : Mem) : Option (Int32 × Mem) :=
  (f_X10_nextLetter w).bind fun q1 => (if q1.1 = a1 then pw 134 2 ((q1.2 134 2) + (1 : Int32)) q1.2 fun w2 => some (((1 : Int32), w2)) else (f_X10_fails (1 : Int32) (q1.2 134 2) q1.2).bind fun q3 => some (((0 : Int32), q3.2)))
set_option maxRecDepth 20000 in
set_option maxHeartbeats 4000000 in
theorem tf_X10_readsSign {G : GT} {l : Launch} {z n : Nat} (a1 : Int32) (w : Mem) (q : Int32 × Mem) (hq : f_X10_readsSign a1 w = some q) : Mt G l z yX10_readsSign cX10_readsSign 2 (some .boolean) { frames := 2, cells := 0, slots := 0, locals := 41 } [.ref (z + 134), .int a1] (hp G z w) n (some (.int q.1)) (hp G z q.2) n := by
  refine mt_of (by decide +kernel) (Nat.le_of_ble_eq_true rfl) ?_
  intro p e s m below meth c C hr hlk hnm
  refine (?_ : DX p l e _ s m _ below meth c G z 2 n _ (fun v => v = q) 0 [(0, .ref (z + 134)), (1, .int a1)] [] w (f_X10_readsSign a1 w)) q hq rfl
  unfold f_X10_readsSign
  refine dx_aload_n C 0 dX10_readsSign_0 rfl rfl ?_
  refine dx_callV2 C cl_X10_nextLetter kmX10_101 (ci := 9) (b := 134) (As := []) (rest := []) rfl (hp_of ly_134) (tf_X10_nextLetter w) rfl rfl (Nat.le_of_ble_eq_true rfl) ⟨Nat.le_of_ble_eq_true rfl, Nat.le_of_ble_eq_true rfl⟩ dX10_readsSign_1 (fun q1 => ?_)
  refine dx_iload_n C 1 dX10_readsSign_4 rfl rfl ?_
  refine dx_icmp_eq C 20 dX10_readsSign_5 (by decide) ?_ ?_
  · refine dx_aload_n C 0 dX10_readsSign_20 rfl rfl ?_
    refine dx_dup C dX10_readsSign_21 rfl ?_
    refine dgX10_91 C dX10_readsSign_22 ?_
    refine dx_iconst (v := (1 : Int32)) C dX10_readsSign_25 (by decide) ?_
    refine dx_iadd C dX10_readsSign_26 ?_
    refine dpX10_91 C dX10_readsSign_27 (fun w2 => ?_)
    refine dx_iconst (v := (1 : Int32)) C dX10_readsSign_30 (by decide) ?_
    exact dx_zret2 C hr hlk (by decide) dX10_readsSign_31 (fun h => h)
  · refine dx_aload_n C 0 dX10_readsSign_8 rfl rfl ?_
    refine dx_iconst (v := (1 : Int32)) C dX10_readsSign_9 (by decide) ?_
    refine dx_aload_n C 0 dX10_readsSign_10 rfl rfl ?_
    refine dgX10_91 C dX10_readsSign_11 ?_
    refine dx_callV2 C cl_X10_fails kmX10_105 (ci := 9) (b := 134) (As := [.int (1 : Int32), .int (q1.2 134 2)]) (rest := []) rfl (hp_of ly_134) (tf_X10_fails (1 : Int32) (q1.2 134 2) q1.2) rfl rfl (Nat.le_of_ble_eq_true rfl) ⟨Nat.le_of_ble_eq_true rfl, Nat.le_of_ble_eq_true rfl⟩ dX10_readsSign_14 (fun q3 => ?_)
    refine dx_pop C dX10_readsSign_17 rfl ?_
    refine dx_iconst (v := (0 : Int32)) C dX10_readsSign_18 (by decide) ?_
    exact dx_zret2 C hr hlk (by decide) dX10_readsSign_19 (fun h => h)
def f_X10_readsTraveller (w : Mem) : Option (Int32 × Mem) :=
  (f_X10_readsNumber (0 : Int32) (4 : Int32) w).bind fun q1 => wr 6 138 (w 134 9) q1.1 q1.2 fun w2 => rd 6 (w2 138) (w 134 9) fun x3 => ((if x3 = (-1 : Int32) then some (((-1 : Int32), w2)) else (f_X10_readsNumber (0 : Int32) (9 : Int32) w2).bind fun q13 => some ((q13.1, q13.2))) : Option (Int32 × Mem)).bind fun v4 => wr 6 139 (w 134 9) v4.1 v4.2 fun w5 => rd 6 (w5 139) (w 134 9) fun x6 => ((if x6 = (-1 : Int32) then some (((-1 : Int32), w5)) else (f_X10_readsNumber (0 : Int32) (255 : Int32) w5).bind fun q12 => some ((q12.1, q12.2))) : Option (Int32 × Mem)).bind fun v7 => wr 6 140 (w 134 9) v7.1 v7.2 fun w8 => pw 134 9 ((w8 134 9) + (1 : Int32)) w8 fun w9 => rd 6 (w9 140) (w 134 9) fun x10 => (if x10 = (-1 : Int32) then some (((0 : Int32), w9)) else (f_X10_readsSign (59 : Int32) w9).bind fun q11 => (if q11.1 = 0 then some (((0 : Int32), q11.2)) else some (((1 : Int32), q11.2))))
set_option maxRecDepth 20000 in
set_option maxHeartbeats 4000000 in
theorem tf_X10_readsTraveller {G : GT} {l : Launch} {z n : Nat} (w : Mem) (q : Int32 × Mem) (hq : f_X10_readsTraveller w = some q) : Mt G l z yX10_readsTraveller cX10_readsTraveller 2 (some .boolean) { frames := 3, cells := 0, slots := 0, locals := 64 } [.ref (z + 134)] (hp G z w) n (some (.int q.1)) (hp G z q.2) n := by
  refine mt_of (by decide +kernel) (Nat.le_of_ble_eq_true rfl) ?_
  intro p e s m below meth c C hr hlk hnm
  refine (?_ : DX p l e _ s m _ below meth c G z 2 n _ (fun v => v = q) 0 [(0, .ref (z + 134))] [] w (f_X10_readsTraveller w)) q hq rfl
  unfold f_X10_readsTraveller
  refine dx_aload_n C 0 dX10_readsTraveller_0 rfl rfl ?_
  refine dgX10_128 C dX10_readsTraveller_1 ?_
  refine dx_istore_n C [(1, .int (w 134 9)), (0, .ref (z + 134))] dX10_readsTraveller_4 rfl (by decide) rfl ?_
  refine dx_aload_n C 1 dX10_readsTraveller_5 rfl rfl ?_
  refine dgX10_23 C dX10_readsTraveller_6 ?_
  refine dx_iload_n C 0 dX10_readsTraveller_9 rfl rfl ?_
  refine dx_aload_n C 1 dX10_readsTraveller_10 rfl rfl ?_
  refine dx_iconst (v := (0 : Int32)) C dX10_readsTraveller_11 (by decide) ?_
  refine dx_iconst (v := (4 : Int32)) C dX10_readsTraveller_12 (by decide) ?_
  refine dx_callV2 C cl_X10_readsNumber kmX10_112 (ci := 9) (b := 134) (As := [.int (0 : Int32), .int (4 : Int32)]) (rest := [.int (w 134 9), .ref (z + 138)]) rfl (hp_of ly_134) (tf_X10_readsNumber (0 : Int32) (4 : Int32) w) rfl rfl (Nat.le_of_ble_eq_true rfl) ⟨Nat.le_of_ble_eq_true rfl, Nat.le_of_ble_eq_true rfl⟩ dX10_readsTraveller_13 (fun q1 => ?_)
  refine dx_wr C ly_138 dX10_readsTraveller_16 (fun w2 => ?_)
  refine dx_aload_n C 1 dX10_readsTraveller_17 rfl rfl ?_
  refine dgX10_26 C dX10_readsTraveller_18 ?_
  refine dx_iload_n C 0 dX10_readsTraveller_21 rfl rfl ?_
  refine dx_aload_n C 1 dX10_readsTraveller_22 rfl rfl ?_
  refine dgX10_23 C dX10_readsTraveller_23 ?_
  refine dx_iload_n C 0 dX10_readsTraveller_26 rfl rfl ?_
  refine dx_rd C ly_138 dX10_readsTraveller_27 (fun x3 => ?_)
  refine dx_iconst (v := (-1 : Int32)) C dX10_readsTraveller_28 (by decide) ?_
  refine dx_bind 43 (fun v4 => [(0, .ref (z + 134)), (1, .int (w 134 9))]) (fun v4 => [.int v4.1, .int (w 134 9), .ref (z + 139)]) (fun v4 => v4.2) (fun v4 => (?_ : DX p l e _ s m _ below meth c G z 2 n _ _ 43 [(0, .ref (z + 134)), (1, .int (w 134 9))] [.int v4.1, .int (w 134 9), .ref (z + 139)] v4.2 _)) ?_
  · refine dx_wr C ly_139 dX10_readsTraveller_43 (fun w5 => ?_)
    refine dx_aload_n C 0 dX10_readsTraveller_44 rfl rfl ?_
    refine dgX10_29 C dX10_readsTraveller_45 ?_
    refine dx_iload_n C 1 dX10_readsTraveller_48 rfl rfl ?_
    refine dx_aload_n C 0 dX10_readsTraveller_49 rfl rfl ?_
    refine dgX10_26 C dX10_readsTraveller_50 ?_
    refine dx_iload_n C 1 dX10_readsTraveller_53 rfl rfl ?_
    refine dx_rd C ly_139 dX10_readsTraveller_54 (fun x6 => ?_)
    refine dx_iconst (v := (-1 : Int32)) C dX10_readsTraveller_55 (by decide) ?_
    refine dx_bind 71 (fun v7 => [(0, .ref (z + 134)), (1, .int (w 134 9))]) (fun v7 => [.int v7.1, .int (w 134 9), .ref (z + 140)]) (fun v7 => v7.2) (fun v7 => (?_ : DX p l e _ s m _ below meth c G z 2 n _ _ 71 [(0, .ref (z + 134)), (1, .int (w 134 9))] [.int v7.1, .int (w 134 9), .ref (z + 140)] v7.2 _)) ?_
    · refine dx_wr C ly_140 dX10_readsTraveller_71 (fun w8 => ?_)
      refine dx_aload_n C 0 dX10_readsTraveller_72 rfl rfl ?_
      refine dx_dup C dX10_readsTraveller_73 rfl ?_
      refine dgX10_128 C dX10_readsTraveller_74 ?_
      refine dx_iconst (v := (1 : Int32)) C dX10_readsTraveller_77 (by decide) ?_
      refine dx_iadd C dX10_readsTraveller_78 ?_
      refine dpX10_128 C dX10_readsTraveller_79 (fun w9 => ?_)
      refine dx_aload_n C 0 dX10_readsTraveller_82 rfl rfl ?_
      refine dgX10_29 C dX10_readsTraveller_83 ?_
      refine dx_iload_n C 1 dX10_readsTraveller_86 rfl rfl ?_
      refine dx_rd C ly_140 dX10_readsTraveller_87 (fun x10 => ?_)
      refine dx_iconst (v := (-1 : Int32)) C dX10_readsTraveller_88 (by decide) ?_
      refine dx_icmp_eq C 105 dX10_readsTraveller_89 (by decide) ?_ ?_
      · refine dx_iconst (v := (0 : Int32)) C dX10_readsTraveller_105 (by decide) ?_
        exact dx_zret2 C hr hlk (by decide) dX10_readsTraveller_106 (fun h => h)
      · refine dx_aload_n C 0 dX10_readsTraveller_92 rfl rfl ?_
        refine dx_bipush (v := (59 : Int32)) C dX10_readsTraveller_93 (by decide) ?_
        refine dx_callV2 C cl_X10_readsSign kmX10_121 (ci := 9) (b := 134) (As := [.int (59 : Int32)]) (rest := []) rfl (hp_of ly_134) (tf_X10_readsSign (59 : Int32) w9) rfl rfl (Nat.le_of_ble_eq_true rfl) ⟨Nat.le_of_ble_eq_true rfl, Nat.le_of_ble_eq_true rfl⟩ dX10_readsTraveller_95 (fun q11 => ?_)
        refine dx_if_eq C 105 dX10_readsTraveller_98 (by decide) ?_ ?_
        · refine dx_iconst (v := (0 : Int32)) C dX10_readsTraveller_105 (by decide) ?_
          exact dx_zret2 C hr hlk (by decide) dX10_readsTraveller_106 (fun h => h)
        · refine dx_iconst (v := (1 : Int32)) C dX10_readsTraveller_101 (by decide) ?_
          refine dx_goto C 106 dX10_readsTraveller_102 (by decide) ?_
          exact dx_zret2 C hr hlk (by decide) dX10_readsTraveller_106 (fun h => h)
    · refine dx_icmp_ne C 63 dX10_readsTraveller_56 (by decide) ?_ ?_
      · refine dx_aload_n C 0 dX10_readsTraveller_63 rfl rfl ?_
        refine dx_iconst (v := (0 : Int32)) C dX10_readsTraveller_64 (by decide) ?_
        refine dx_sipush (v := (255 : Int32)) C dX10_readsTraveller_65 (by decide) ?_
        refine dx_callV2 C cl_X10_readsNumber kmX10_112 (ci := 9) (b := 134) (As := [.int (0 : Int32), .int (255 : Int32)]) (rest := [.int (w 134 9), .ref (z + 140)]) rfl (hp_of ly_134) (tf_X10_readsNumber (0 : Int32) (255 : Int32) w5) rfl rfl (Nat.le_of_ble_eq_true rfl) ⟨Nat.le_of_ble_eq_true rfl, Nat.le_of_ble_eq_true rfl⟩ dX10_readsTraveller_68 (fun q12 => ?_)
        exact dx_end (fun h => h)
      · refine dx_iconst (v := (-1 : Int32)) C dX10_readsTraveller_59 (by decide) ?_
        refine dx_goto C 71 dX10_readsTraveller_60 (by decide) ?_
        exact dx_end (fun h => h)
  · refine dx_icmp_ne C 36 dX10_readsTraveller_29 (by decide) ?_ ?_
    · refine dx_aload_n C 1 dX10_readsTraveller_36 rfl rfl ?_
      refine dx_iconst (v := (0 : Int32)) C dX10_readsTraveller_37 (by decide) ?_
      refine dx_bipush (v := (9 : Int32)) C dX10_readsTraveller_38 (by decide) ?_
      refine dx_callV2 C cl_X10_readsNumber kmX10_112 (ci := 9) (b := 134) (As := [.int (0 : Int32), .int (9 : Int32)]) (rest := [.int (w 134 9), .ref (z + 139)]) rfl (hp_of ly_134) (tf_X10_readsNumber (0 : Int32) (9 : Int32) w2) rfl rfl (Nat.le_of_ble_eq_true rfl) ⟨Nat.le_of_ble_eq_true rfl, Nat.le_of_ble_eq_true rfl⟩ dX10_readsTraveller_40 (fun q13 => ?_)
      refine dx_mv (lo2 := [(0, .ref (z + 134)), (1, .int (w 134 9))]) [1, 0] rfl ?_
      exact dx_end (fun h => h)
    · refine dx_iconst (v := (-1 : Int32)) C dX10_readsTraveller_32 (by decide) ?_
      refine dx_goto C 43 dX10_readsTraveller_33 (by decide) ?_
      refine dx_mv (lo2 := [(0, .ref (z + 134)), (1, .int (w 134 9))]) [1, 0] rfl ?_
      exact dx_end (fun h => h)
def f_X10_readsMatter (w : Mem) : Option (Int32 × Mem) :=
  (f_X10_readsNumber (1 : Int32) (60 : Int32) w).bind fun q1 => wr 8 136 (w 134 8) q1.1 q1.2 fun w2 => rd 8 (w2 136) (w 134 8) fun x3 => ((if x3 = (-1 : Int32) then some (((-1 : Int32), w2)) else (f_X10_readsNumber (0 : Int32) (255 : Int32) w2).bind fun q9 => some ((q9.1, q9.2))) : Option (Int32 × Mem)).bind fun v4 => wr 8 137 (w 134 8) v4.1 v4.2 fun w5 => pw 134 8 ((w5 134 8) + (1 : Int32)) w5 fun w6 => rd 8 (w6 137) (w 134 8) fun x7 => (if x7 = (-1 : Int32) then some (((0 : Int32), w6)) else (f_X10_readsSign (59 : Int32) w6).bind fun q8 => (if q8.1 = 0 then some (((0 : Int32), q8.2)) else some (((1 : Int32), q8.2))))
set_option maxRecDepth 20000 in
set_option maxHeartbeats 4000000 in
theorem tf_X10_readsMatter {G : GT} {l : Launch} {z n : Nat} (w : Mem) (q : Int32 × Mem) (hq : f_X10_readsMatter w = some q) : Mt G l z yX10_readsMatter cX10_readsMatter 2 (some .boolean) { frames := 3, cells := 0, slots := 0, locals := 64 } [.ref (z + 134)] (hp G z w) n (some (.int q.1)) (hp G z q.2) n := by
  refine mt_of (by decide +kernel) (Nat.le_of_ble_eq_true rfl) ?_
  intro p e s m below meth c C hr hlk hnm
  refine (?_ : DX p l e _ s m _ below meth c G z 2 n _ (fun v => v = q) 0 [(0, .ref (z + 134))] [] w (f_X10_readsMatter w)) q hq rfl
  unfold f_X10_readsMatter
  refine dx_aload_n C 0 dX10_readsMatter_0 rfl rfl ?_
  refine dgX10_125 C dX10_readsMatter_1 ?_
  refine dx_istore_n C [(1, .int (w 134 8)), (0, .ref (z + 134))] dX10_readsMatter_4 rfl (by decide) rfl ?_
  refine dx_aload_n C 1 dX10_readsMatter_5 rfl rfl ?_
  refine dgX10_17 C dX10_readsMatter_6 ?_
  refine dx_iload_n C 0 dX10_readsMatter_9 rfl rfl ?_
  refine dx_aload_n C 1 dX10_readsMatter_10 rfl rfl ?_
  refine dx_iconst (v := (1 : Int32)) C dX10_readsMatter_11 (by decide) ?_
  refine dx_bipush (v := (60 : Int32)) C dX10_readsMatter_12 (by decide) ?_
  refine dx_callV2 C cl_X10_readsNumber kmX10_112 (ci := 9) (b := 134) (As := [.int (1 : Int32), .int (60 : Int32)]) (rest := [.int (w 134 8), .ref (z + 136)]) rfl (hp_of ly_134) (tf_X10_readsNumber (1 : Int32) (60 : Int32) w) rfl rfl (Nat.le_of_ble_eq_true rfl) ⟨Nat.le_of_ble_eq_true rfl, Nat.le_of_ble_eq_true rfl⟩ dX10_readsMatter_14 (fun q1 => ?_)
  refine dx_wr C ly_136 dX10_readsMatter_17 (fun w2 => ?_)
  refine dx_aload_n C 1 dX10_readsMatter_18 rfl rfl ?_
  refine dgX10_20 C dX10_readsMatter_19 ?_
  refine dx_iload_n C 0 dX10_readsMatter_22 rfl rfl ?_
  refine dx_aload_n C 1 dX10_readsMatter_23 rfl rfl ?_
  refine dgX10_17 C dX10_readsMatter_24 ?_
  refine dx_iload_n C 0 dX10_readsMatter_27 rfl rfl ?_
  refine dx_rd C ly_136 dX10_readsMatter_28 (fun x3 => ?_)
  refine dx_iconst (v := (-1 : Int32)) C dX10_readsMatter_29 (by decide) ?_
  refine dx_bind 45 (fun v4 => [(0, .ref (z + 134)), (1, .int (w 134 8))]) (fun v4 => [.int v4.1, .int (w 134 8), .ref (z + 137)]) (fun v4 => v4.2) (fun v4 => (?_ : DX p l e _ s m _ below meth c G z 2 n _ _ 45 [(0, .ref (z + 134)), (1, .int (w 134 8))] [.int v4.1, .int (w 134 8), .ref (z + 137)] v4.2 _)) ?_
  · refine dx_wr C ly_137 dX10_readsMatter_45 (fun w5 => ?_)
    refine dx_aload_n C 0 dX10_readsMatter_46 rfl rfl ?_
    refine dx_dup C dX10_readsMatter_47 rfl ?_
    refine dgX10_125 C dX10_readsMatter_48 ?_
    refine dx_iconst (v := (1 : Int32)) C dX10_readsMatter_51 (by decide) ?_
    refine dx_iadd C dX10_readsMatter_52 ?_
    refine dpX10_125 C dX10_readsMatter_53 (fun w6 => ?_)
    refine dx_aload_n C 0 dX10_readsMatter_56 rfl rfl ?_
    refine dgX10_20 C dX10_readsMatter_57 ?_
    refine dx_iload_n C 1 dX10_readsMatter_60 rfl rfl ?_
    refine dx_rd C ly_137 dX10_readsMatter_61 (fun x7 => ?_)
    refine dx_iconst (v := (-1 : Int32)) C dX10_readsMatter_62 (by decide) ?_
    refine dx_icmp_eq C 79 dX10_readsMatter_63 (by decide) ?_ ?_
    · refine dx_iconst (v := (0 : Int32)) C dX10_readsMatter_79 (by decide) ?_
      exact dx_zret2 C hr hlk (by decide) dX10_readsMatter_80 (fun h => h)
    · refine dx_aload_n C 0 dX10_readsMatter_66 rfl rfl ?_
      refine dx_bipush (v := (59 : Int32)) C dX10_readsMatter_67 (by decide) ?_
      refine dx_callV2 C cl_X10_readsSign kmX10_121 (ci := 9) (b := 134) (As := [.int (59 : Int32)]) (rest := []) rfl (hp_of ly_134) (tf_X10_readsSign (59 : Int32) w6) rfl rfl (Nat.le_of_ble_eq_true rfl) ⟨Nat.le_of_ble_eq_true rfl, Nat.le_of_ble_eq_true rfl⟩ dX10_readsMatter_69 (fun q8 => ?_)
      refine dx_if_eq C 79 dX10_readsMatter_72 (by decide) ?_ ?_
      · refine dx_iconst (v := (0 : Int32)) C dX10_readsMatter_79 (by decide) ?_
        exact dx_zret2 C hr hlk (by decide) dX10_readsMatter_80 (fun h => h)
      · refine dx_iconst (v := (1 : Int32)) C dX10_readsMatter_75 (by decide) ?_
        refine dx_goto C 80 dX10_readsMatter_76 (by decide) ?_
        exact dx_zret2 C hr hlk (by decide) dX10_readsMatter_80 (fun h => h)
  · refine dx_icmp_ne C 37 dX10_readsMatter_30 (by decide) ?_ ?_
    · refine dx_aload_n C 1 dX10_readsMatter_37 rfl rfl ?_
      refine dx_iconst (v := (0 : Int32)) C dX10_readsMatter_38 (by decide) ?_
      refine dx_sipush (v := (255 : Int32)) C dX10_readsMatter_39 (by decide) ?_
      refine dx_callV2 C cl_X10_readsNumber kmX10_112 (ci := 9) (b := 134) (As := [.int (0 : Int32), .int (255 : Int32)]) (rest := [.int (w 134 8), .ref (z + 137)]) rfl (hp_of ly_134) (tf_X10_readsNumber (0 : Int32) (255 : Int32) w2) rfl rfl (Nat.le_of_ble_eq_true rfl) ⟨Nat.le_of_ble_eq_true rfl, Nat.le_of_ble_eq_true rfl⟩ dX10_readsMatter_42 (fun q9 => ?_)
      refine dx_mv (lo2 := [(0, .ref (z + 134)), (1, .int (w 134 8))]) [1, 0] rfl ?_
      exact dx_end (fun h => h)
    · refine dx_iconst (v := (-1 : Int32)) C dX10_readsMatter_33 (by decide) ?_
      refine dx_goto C 45 dX10_readsMatter_34 (by decide) ?_
      refine dx_mv (lo2 := [(0, .ref (z + 134)), (1, .int (w 134 8))]) [1, 0] rfl ?_
      exact dx_end (fun h => h)
def f_X10_readsHead (w : Mem) : Option (Int32 × Mem) :=
  (f_X10_readsNumber (1 : Int32) (60 : Int32) w).bind fun q1 => ((if q1.1 = (-1 : Int32) then some (((-1 : Int32), q1.2)) else (f_X10_readsNumber (1 : Int32) (9 : Int32) q1.2).bind fun q6 => some ((q6.1, q6.2))) : Option (Int32 × Mem)).bind fun v2 => pw 134 6 q1.1 v2.2 fun w3 => pw 134 7 v2.1 w3 fun w4 => (if v2.1 = (-1 : Int32) then some (((0 : Int32), w4)) else (f_X10_readsSign (59 : Int32) w4).bind fun q5 => (if q5.1 = 0 then some (((0 : Int32), q5.2)) else some (((1 : Int32), q5.2))))
set_option maxRecDepth 20000 in
set_option maxHeartbeats 4000000 in
theorem tf_X10_readsHead {G : GT} {l : Launch} {z n : Nat} (w : Mem) (q : Int32 × Mem) (hq : f_X10_readsHead w = some q) : Mt G l z yX10_readsHead cX10_readsHead 3 (some .boolean) { frames := 3, cells := 0, slots := 0, locals := 64 } [.ref (z + 134)] (hp G z w) n (some (.int q.1)) (hp G z q.2) n := by
  refine mt_of (by decide +kernel) (Nat.le_of_ble_eq_true rfl) ?_
  intro p e s m below meth c C hr hlk hnm
  refine (?_ : DX p l e _ s m _ below meth c G z 3 n _ (fun v => v = q) 0 [(0, .ref (z + 134))] [] w (f_X10_readsHead w)) q hq rfl
  unfold f_X10_readsHead
  refine dx_aload_n C 0 dX10_readsHead_0 rfl rfl ?_
  refine dx_iconst (v := (1 : Int32)) C dX10_readsHead_1 (by decide) ?_
  refine dx_bipush (v := (60 : Int32)) C dX10_readsHead_2 (by decide) ?_
  refine dx_callV2 C cl_X10_readsNumber kmX10_112 (ci := 9) (b := 134) (As := [.int (1 : Int32), .int (60 : Int32)]) (rest := []) rfl (hp_of ly_134) (tf_X10_readsNumber (1 : Int32) (60 : Int32) w) rfl rfl (Nat.le_of_ble_eq_true rfl) ⟨Nat.le_of_ble_eq_true rfl, Nat.le_of_ble_eq_true rfl⟩ dX10_readsHead_4 (fun q1 => ?_)
  refine dx_istore_n C [(1, .int q1.1), (0, .ref (z + 134))] dX10_readsHead_7 rfl (by decide) rfl ?_
  refine dx_iload_n C 0 dX10_readsHead_8 rfl rfl ?_
  refine dx_iconst (v := (-1 : Int32)) C dX10_readsHead_9 (by decide) ?_
  refine dx_bind 24 (fun v2 => [(0, .ref (z + 134)), (1, .int q1.1)]) (fun v2 => [.int v2.1]) (fun v2 => v2.2) (fun v2 => (?_ : DX p l e _ s m _ below meth c G z 3 n _ _ 24 [(0, .ref (z + 134)), (1, .int q1.1)] [.int v2.1] v2.2 _)) ?_
  · refine dx_istore_n C [(2, .int v2.1), (0, .ref (z + 134)), (1, .int q1.1)] dX10_readsHead_24 rfl (by decide) rfl ?_
    refine dx_aload_n C 1 dX10_readsHead_25 rfl rfl ?_
    refine dx_iload_n C 2 dX10_readsHead_26 rfl rfl ?_
    refine dpX10_115 C dX10_readsHead_27 (fun w3 => ?_)
    refine dx_aload_n C 1 dX10_readsHead_30 rfl rfl ?_
    refine dx_iload_n C 0 dX10_readsHead_31 rfl rfl ?_
    refine dpX10_118 C dX10_readsHead_32 (fun w4 => ?_)
    refine dx_iload_n C 0 dX10_readsHead_35 rfl rfl ?_
    refine dx_iconst (v := (-1 : Int32)) C dX10_readsHead_36 (by decide) ?_
    refine dx_icmp_eq C 53 dX10_readsHead_37 (by decide) ?_ ?_
    · refine dx_iconst (v := (0 : Int32)) C dX10_readsHead_53 (by decide) ?_
      exact dx_zret2 C hr hlk (by decide) dX10_readsHead_54 (fun h => h)
    · refine dx_aload_n C 1 dX10_readsHead_40 rfl rfl ?_
      refine dx_bipush (v := (59 : Int32)) C dX10_readsHead_41 (by decide) ?_
      refine dx_callV2 C cl_X10_readsSign kmX10_121 (ci := 9) (b := 134) (As := [.int (59 : Int32)]) (rest := []) rfl (hp_of ly_134) (tf_X10_readsSign (59 : Int32) w4) rfl rfl (Nat.le_of_ble_eq_true rfl) ⟨Nat.le_of_ble_eq_true rfl, Nat.le_of_ble_eq_true rfl⟩ dX10_readsHead_43 (fun q5 => ?_)
      refine dx_if_eq C 53 dX10_readsHead_46 (by decide) ?_ ?_
      · refine dx_iconst (v := (0 : Int32)) C dX10_readsHead_53 (by decide) ?_
        exact dx_zret2 C hr hlk (by decide) dX10_readsHead_54 (fun h => h)
      · refine dx_iconst (v := (1 : Int32)) C dX10_readsHead_49 (by decide) ?_
        refine dx_goto C 54 dX10_readsHead_50 (by decide) ?_
        exact dx_zret2 C hr hlk (by decide) dX10_readsHead_54 (fun h => h)
  · refine dx_icmp_ne C 17 dX10_readsHead_10 (by decide) ?_ ?_
    · refine dx_aload_n C 1 dX10_readsHead_17 rfl rfl ?_
      refine dx_iconst (v := (1 : Int32)) C dX10_readsHead_18 (by decide) ?_
      refine dx_bipush (v := (9 : Int32)) C dX10_readsHead_19 (by decide) ?_
      refine dx_callV2 C cl_X10_readsNumber kmX10_112 (ci := 9) (b := 134) (As := [.int (1 : Int32), .int (9 : Int32)]) (rest := []) rfl (hp_of ly_134) (tf_X10_readsNumber (1 : Int32) (9 : Int32) q1.2) rfl rfl (Nat.le_of_ble_eq_true rfl) ⟨Nat.le_of_ble_eq_true rfl, Nat.le_of_ble_eq_true rfl⟩ dX10_readsHead_21 (fun q6 => ?_)
      refine dx_mv (lo2 := [(0, .ref (z + 134)), (1, .int q1.1)]) [1, 0] rfl ?_
      exact dx_end (fun h => h)
    · refine dx_iconst (v := (-1 : Int32)) C dX10_readsHead_13 (by decide) ?_
      refine dx_goto C 24 dX10_readsHead_14 (by decide) ?_
      refine dx_mv (lo2 := [(0, .ref (z + 134)), (1, .int q1.1)]) [1, 0] rfl ?_
      exact dx_end (fun h => h)
def f_X10_readsClause (w : Mem) : Option (Int32 × Mem) :=
  (f_X10_nextLetter w).bind fun q1 => pw 134 2 ((q1.2 134 2) + (1 : Int32)) q1.2 fun w2 => (if q1.1 = (107 : Int32) then (if (w2 134 7) = 0 then (f_X10_readsHead w2).bind fun q49 => zr q49.1 (some ((q49.1, q49.2))) else ((if q1.1 = (107 : Int32) then some ((1 : Int32)) else (if q1.1 = (109 : Int32) then some ((1 : Int32)) else (if q1.1 = (116 : Int32) then some ((1 : Int32)) else some ((0 : Int32))))) : Option Int32).bind fun v26 => (if v26 = 0 then (f_X10_fails (1 : Int32) (q1.2 134 2) w2).bind fun q27 => some (((0 : Int32), q27.2)) else (if (w2 134 7) = 0 then (f_X10_fails (1 : Int32) (q1.2 134 2) w2).bind fun q48 => some (((0 : Int32), q48.2)) else (if q1.1 = (107 : Int32) then (f_X10_fails (3 : Int32) (q1.2 134 2) w2).bind fun q28 => some (((0 : Int32), q28.2)) else (if q1.1 = (109 : Int32) then (if (w2 134 8) = (8 : Int32) then (f_X10_fails (3 : Int32) (q1.2 134 2) w2).bind fun q38 => some (((0 : Int32), q38.2)) else (if q1.1 = (116 : Int32) then (if (w2 134 9) = (6 : Int32) then (f_X10_fails (3 : Int32) (q1.2 134 2) w2).bind fun q47 => some (((0 : Int32), q47.2)) else (if q1.1 = (109 : Int32) then (f_X10_readsMatter w2).bind fun q45 => zr q45.1 (some ((q45.1, q45.2))) else (f_X10_readsTraveller w2).bind fun q43 => zr q43.1 (some ((q43.1, q43.2))))) else (if q1.1 = (109 : Int32) then (f_X10_readsMatter w2).bind fun q41 => zr q41.1 (some ((q41.1, q41.2))) else (f_X10_readsTraveller w2).bind fun q39 => zr q39.1 (some ((q39.1, q39.2)))))) else (if q1.1 = (116 : Int32) then (if (w2 134 9) = (6 : Int32) then (f_X10_fails (3 : Int32) (q1.2 134 2) w2).bind fun q37 => some (((0 : Int32), q37.2)) else (if q1.1 = (109 : Int32) then (f_X10_readsMatter w2).bind fun q35 => zr q35.1 (some ((q35.1, q35.2))) else (f_X10_readsTraveller w2).bind fun q33 => zr q33.1 (some ((q33.1, q33.2))))) else (if q1.1 = (109 : Int32) then (f_X10_readsMatter w2).bind fun q31 => zr q31.1 (some ((q31.1, q31.2))) else (f_X10_readsTraveller w2).bind fun q29 => zr q29.1 (some ((q29.1, q29.2)))))))))) else ((if q1.1 = (107 : Int32) then some ((1 : Int32)) else (if q1.1 = (109 : Int32) then some ((1 : Int32)) else (if q1.1 = (116 : Int32) then some ((1 : Int32)) else some ((0 : Int32))))) : Option Int32).bind fun v3 => (if v3 = 0 then (f_X10_fails (1 : Int32) (q1.2 134 2) w2).bind fun q4 => some (((0 : Int32), q4.2)) else (if (w2 134 7) = 0 then (f_X10_fails (1 : Int32) (q1.2 134 2) w2).bind fun q25 => some (((0 : Int32), q25.2)) else (if q1.1 = (107 : Int32) then (f_X10_fails (3 : Int32) (q1.2 134 2) w2).bind fun q5 => some (((0 : Int32), q5.2)) else (if q1.1 = (109 : Int32) then (if (w2 134 8) = (8 : Int32) then (f_X10_fails (3 : Int32) (q1.2 134 2) w2).bind fun q15 => some (((0 : Int32), q15.2)) else (if q1.1 = (116 : Int32) then (if (w2 134 9) = (6 : Int32) then (f_X10_fails (3 : Int32) (q1.2 134 2) w2).bind fun q24 => some (((0 : Int32), q24.2)) else (if q1.1 = (109 : Int32) then (f_X10_readsMatter w2).bind fun q22 => zr q22.1 (some ((q22.1, q22.2))) else (f_X10_readsTraveller w2).bind fun q20 => zr q20.1 (some ((q20.1, q20.2))))) else (if q1.1 = (109 : Int32) then (f_X10_readsMatter w2).bind fun q18 => zr q18.1 (some ((q18.1, q18.2))) else (f_X10_readsTraveller w2).bind fun q16 => zr q16.1 (some ((q16.1, q16.2)))))) else (if q1.1 = (116 : Int32) then (if (w2 134 9) = (6 : Int32) then (f_X10_fails (3 : Int32) (q1.2 134 2) w2).bind fun q14 => some (((0 : Int32), q14.2)) else (if q1.1 = (109 : Int32) then (f_X10_readsMatter w2).bind fun q12 => zr q12.1 (some ((q12.1, q12.2))) else (f_X10_readsTraveller w2).bind fun q10 => zr q10.1 (some ((q10.1, q10.2))))) else (if q1.1 = (109 : Int32) then (f_X10_readsMatter w2).bind fun q8 => zr q8.1 (some ((q8.1, q8.2))) else (f_X10_readsTraveller w2).bind fun q6 => zr q6.1 (some ((q6.1, q6.2))))))))))
set_option maxRecDepth 20000 in
set_option maxHeartbeats 4000000 in
theorem tf_X10_readsClause {G : GT} {l : Launch} {z n : Nat} (w : Mem) (q : Int32 × Mem) (hq : f_X10_readsClause w = some q) : Mt G l z yX10_readsClause cX10_readsClause 4 (some .boolean) { frames := 4, cells := 0, slots := 0, locals := 86 } [.ref (z + 134)] (hp G z w) n (some (.int q.1)) (hp G z q.2) n := by
  refine mt_of (by decide +kernel) (Nat.le_of_ble_eq_true rfl) ?_
  intro p e s m below meth c C hr hlk hnm
  refine (?_ : DX p l e _ s m _ below meth c G z 4 n _ (fun v => v = q) 0 [(0, .ref (z + 134))] [] w (f_X10_readsClause w)) q hq rfl
  unfold f_X10_readsClause
  refine dx_aload_n C 0 dX10_readsClause_0 rfl rfl ?_
  refine dx_callV2 C cl_X10_nextLetter kmX10_101 (ci := 9) (b := 134) (As := []) (rest := []) rfl (hp_of ly_134) (tf_X10_nextLetter w) rfl rfl (Nat.le_of_ble_eq_true rfl) ⟨Nat.le_of_ble_eq_true rfl, Nat.le_of_ble_eq_true rfl⟩ dX10_readsClause_1 (fun q1 => ?_)
  refine dx_istore_n C [(1, .int q1.1), (0, .ref (z + 134))] dX10_readsClause_4 rfl (by decide) rfl ?_
  refine dx_aload_n C 1 dX10_readsClause_5 rfl rfl ?_
  refine dgX10_91 C dX10_readsClause_6 ?_
  refine dx_istore_n C [(2, .int (q1.2 134 2)), (1, .int q1.1), (0, .ref (z + 134))] dX10_readsClause_9 rfl (by decide) rfl ?_
  refine dx_aload_n C 2 dX10_readsClause_10 rfl rfl ?_
  refine dx_dup C dX10_readsClause_11 rfl ?_
  refine dgX10_91 C dX10_readsClause_12 ?_
  refine dx_iconst (v := (1 : Int32)) C dX10_readsClause_15 (by decide) ?_
  refine dx_iadd C dX10_readsClause_16 ?_
  refine dpX10_91 C dX10_readsClause_17 (fun w2 => ?_)
  refine dx_iload_n C 1 dX10_readsClause_20 rfl rfl ?_
  refine dx_bipush (v := (107 : Int32)) C dX10_readsClause_21 (by decide) ?_
  refine dx_icmp_ne C 38 dX10_readsClause_23 (by decide) ?_ ?_
  · refine dx_iload_n C 1 dX10_readsClause_38 rfl rfl ?_
    refine dx_bipush (v := (107 : Int32)) C dX10_readsClause_39 (by decide) ?_
    refine dx_bind 61 (fun v3 => [(0, .ref (z + 134)), (1, .int q1.1), (2, .int (q1.2 134 2))]) (fun v3 => [.int v3]) (fun v3 => w2) (fun v3 => (?_ : DX p l e _ s m _ below meth c G z 4 n _ _ 61 [(0, .ref (z + 134)), (1, .int q1.1), (2, .int (q1.2 134 2))] [.int v3] w2 _)) ?_
    · refine dx_istore_n C [(3, .int v3), (0, .ref (z + 134)), (1, .int q1.1), (2, .int (q1.2 134 2))] dX10_readsClause_61 rfl (by decide) rfl ?_
      refine dx_iload_n C 0 dX10_readsClause_62 rfl rfl ?_
      refine dx_if_eq C 73 dX10_readsClause_63 (by decide) ?_ ?_
      · refine dx_aload_n C 1 dX10_readsClause_73 rfl rfl ?_
        refine dx_iconst (v := (1 : Int32)) C dX10_readsClause_74 (by decide) ?_
        refine dx_iload_n C 3 dX10_readsClause_75 rfl rfl ?_
        refine dx_callV2 C cl_X10_fails kmX10_105 (ci := 9) (b := 134) (As := [.int (1 : Int32), .int (q1.2 134 2)]) (rest := []) rfl (hp_of ly_134) (tf_X10_fails (1 : Int32) (q1.2 134 2) w2) rfl rfl (Nat.le_of_ble_eq_true rfl) ⟨Nat.le_of_ble_eq_true rfl, Nat.le_of_ble_eq_true rfl⟩ dX10_readsClause_76 (fun q4 => ?_)
        refine dx_pop C dX10_readsClause_79 rfl ?_
        refine dx_iconst (v := (0 : Int32)) C dX10_readsClause_80 (by decide) ?_
        exact dx_zret2 C hr hlk (by decide) dX10_readsClause_81 (fun h => h)
      · refine dx_aload_n C 1 dX10_readsClause_66 rfl rfl ?_
        refine dgX10_118 C dX10_readsClause_67 ?_
        refine dx_if_ne C 82 dX10_readsClause_70 (by decide) ?_ ?_
        · refine dx_iload_n C 2 dX10_readsClause_82 rfl rfl ?_
          refine dx_bipush (v := (107 : Int32)) C dX10_readsClause_83 (by decide) ?_
          refine dx_icmp_eq C 118 dX10_readsClause_85 (by decide) ?_ ?_
          · refine dx_aload_n C 1 dX10_readsClause_118 rfl rfl ?_
            refine dx_iconst (v := (3 : Int32)) C dX10_readsClause_119 (by decide) ?_
            refine dx_iload_n C 3 dX10_readsClause_120 rfl rfl ?_
            refine dx_callV2 C cl_X10_fails kmX10_105 (ci := 9) (b := 134) (As := [.int (3 : Int32), .int (q1.2 134 2)]) (rest := []) rfl (hp_of ly_134) (tf_X10_fails (3 : Int32) (q1.2 134 2) w2) rfl rfl (Nat.le_of_ble_eq_true rfl) ⟨Nat.le_of_ble_eq_true rfl, Nat.le_of_ble_eq_true rfl⟩ dX10_readsClause_121 (fun q5 => ?_)
            refine dx_pop C dX10_readsClause_124 rfl ?_
            refine dx_iconst (v := (0 : Int32)) C dX10_readsClause_125 (by decide) ?_
            exact dx_zret2 C hr hlk (by decide) dX10_readsClause_126 (fun h => h)
          · refine dx_iload_n C 2 dX10_readsClause_88 rfl rfl ?_
            refine dx_bipush (v := (109 : Int32)) C dX10_readsClause_89 (by decide) ?_
            refine dx_icmp_ne C 103 dX10_readsClause_91 (by decide) ?_ ?_
            · refine dx_iload_n C 2 dX10_readsClause_103 rfl rfl ?_
              refine dx_bipush (v := (116 : Int32)) C dX10_readsClause_104 (by decide) ?_
              refine dx_icmp_ne C 127 dX10_readsClause_106 (by decide) ?_ ?_
              · refine dx_iload_n C 2 dX10_readsClause_127 rfl rfl ?_
                refine dx_bipush (v := (109 : Int32)) C dX10_readsClause_128 (by decide) ?_
                refine dx_icmp_ne C 140 dX10_readsClause_130 (by decide) ?_ ?_
                · refine dx_aload_n C 1 dX10_readsClause_140 rfl rfl ?_
                  refine dx_callV2 C cl_X10_readsTraveller kmX10_138 (ci := 9) (b := 134) (As := []) (rest := []) rfl (hp_of ly_134) (tf_X10_readsTraveller w2) rfl rfl (Nat.le_of_ble_eq_true rfl) ⟨Nat.le_of_ble_eq_true rfl, Nat.le_of_ble_eq_true rfl⟩ dX10_readsClause_141 (fun q6 => ?_)
                  refine dx_zr (fun hz7 => ?_)
                  exact dx_zret2 C hr hlk hz7 dX10_readsClause_144 (fun h => h)
                · refine dx_aload_n C 1 dX10_readsClause_133 rfl rfl ?_
                  refine dx_callV2 C cl_X10_readsMatter kmX10_135 (ci := 9) (b := 134) (As := []) (rest := []) rfl (hp_of ly_134) (tf_X10_readsMatter w2) rfl rfl (Nat.le_of_ble_eq_true rfl) ⟨Nat.le_of_ble_eq_true rfl, Nat.le_of_ble_eq_true rfl⟩ dX10_readsClause_134 (fun q8 => ?_)
                  refine dx_goto C 144 dX10_readsClause_137 (by decide) ?_
                  refine dx_zr (fun hz9 => ?_)
                  exact dx_zret2 C hr hlk hz9 dX10_readsClause_144 (fun h => h)
              · refine dx_aload_n C 1 dX10_readsClause_109 rfl rfl ?_
                refine dgX10_128 C dX10_readsClause_110 ?_
                refine dx_bipush (v := (6 : Int32)) C dX10_readsClause_113 (by decide) ?_
                refine dx_icmp_ne C 127 dX10_readsClause_115 (by decide) ?_ ?_
                · refine dx_iload_n C 2 dX10_readsClause_127 rfl rfl ?_
                  refine dx_bipush (v := (109 : Int32)) C dX10_readsClause_128 (by decide) ?_
                  refine dx_icmp_ne C 140 dX10_readsClause_130 (by decide) ?_ ?_
                  · refine dx_aload_n C 1 dX10_readsClause_140 rfl rfl ?_
                    refine dx_callV2 C cl_X10_readsTraveller kmX10_138 (ci := 9) (b := 134) (As := []) (rest := []) rfl (hp_of ly_134) (tf_X10_readsTraveller w2) rfl rfl (Nat.le_of_ble_eq_true rfl) ⟨Nat.le_of_ble_eq_true rfl, Nat.le_of_ble_eq_true rfl⟩ dX10_readsClause_141 (fun q10 => ?_)
                    refine dx_zr (fun hz11 => ?_)
                    exact dx_zret2 C hr hlk hz11 dX10_readsClause_144 (fun h => h)
                  · refine dx_aload_n C 1 dX10_readsClause_133 rfl rfl ?_
                    refine dx_callV2 C cl_X10_readsMatter kmX10_135 (ci := 9) (b := 134) (As := []) (rest := []) rfl (hp_of ly_134) (tf_X10_readsMatter w2) rfl rfl (Nat.le_of_ble_eq_true rfl) ⟨Nat.le_of_ble_eq_true rfl, Nat.le_of_ble_eq_true rfl⟩ dX10_readsClause_134 (fun q12 => ?_)
                    refine dx_goto C 144 dX10_readsClause_137 (by decide) ?_
                    refine dx_zr (fun hz13 => ?_)
                    exact dx_zret2 C hr hlk hz13 dX10_readsClause_144 (fun h => h)
                · refine dx_aload_n C 1 dX10_readsClause_118 rfl rfl ?_
                  refine dx_iconst (v := (3 : Int32)) C dX10_readsClause_119 (by decide) ?_
                  refine dx_iload_n C 3 dX10_readsClause_120 rfl rfl ?_
                  refine dx_callV2 C cl_X10_fails kmX10_105 (ci := 9) (b := 134) (As := [.int (3 : Int32), .int (q1.2 134 2)]) (rest := []) rfl (hp_of ly_134) (tf_X10_fails (3 : Int32) (q1.2 134 2) w2) rfl rfl (Nat.le_of_ble_eq_true rfl) ⟨Nat.le_of_ble_eq_true rfl, Nat.le_of_ble_eq_true rfl⟩ dX10_readsClause_121 (fun q14 => ?_)
                  refine dx_pop C dX10_readsClause_124 rfl ?_
                  refine dx_iconst (v := (0 : Int32)) C dX10_readsClause_125 (by decide) ?_
                  exact dx_zret2 C hr hlk (by decide) dX10_readsClause_126 (fun h => h)
            · refine dx_aload_n C 1 dX10_readsClause_94 rfl rfl ?_
              refine dgX10_125 C dX10_readsClause_95 ?_
              refine dx_bipush (v := (8 : Int32)) C dX10_readsClause_98 (by decide) ?_
              refine dx_icmp_eq C 118 dX10_readsClause_100 (by decide) ?_ ?_
              · refine dx_aload_n C 1 dX10_readsClause_118 rfl rfl ?_
                refine dx_iconst (v := (3 : Int32)) C dX10_readsClause_119 (by decide) ?_
                refine dx_iload_n C 3 dX10_readsClause_120 rfl rfl ?_
                refine dx_callV2 C cl_X10_fails kmX10_105 (ci := 9) (b := 134) (As := [.int (3 : Int32), .int (q1.2 134 2)]) (rest := []) rfl (hp_of ly_134) (tf_X10_fails (3 : Int32) (q1.2 134 2) w2) rfl rfl (Nat.le_of_ble_eq_true rfl) ⟨Nat.le_of_ble_eq_true rfl, Nat.le_of_ble_eq_true rfl⟩ dX10_readsClause_121 (fun q15 => ?_)
                refine dx_pop C dX10_readsClause_124 rfl ?_
                refine dx_iconst (v := (0 : Int32)) C dX10_readsClause_125 (by decide) ?_
                exact dx_zret2 C hr hlk (by decide) dX10_readsClause_126 (fun h => h)
              · refine dx_iload_n C 2 dX10_readsClause_103 rfl rfl ?_
                refine dx_bipush (v := (116 : Int32)) C dX10_readsClause_104 (by decide) ?_
                refine dx_icmp_ne C 127 dX10_readsClause_106 (by decide) ?_ ?_
                · refine dx_iload_n C 2 dX10_readsClause_127 rfl rfl ?_
                  refine dx_bipush (v := (109 : Int32)) C dX10_readsClause_128 (by decide) ?_
                  refine dx_icmp_ne C 140 dX10_readsClause_130 (by decide) ?_ ?_
                  · refine dx_aload_n C 1 dX10_readsClause_140 rfl rfl ?_
                    refine dx_callV2 C cl_X10_readsTraveller kmX10_138 (ci := 9) (b := 134) (As := []) (rest := []) rfl (hp_of ly_134) (tf_X10_readsTraveller w2) rfl rfl (Nat.le_of_ble_eq_true rfl) ⟨Nat.le_of_ble_eq_true rfl, Nat.le_of_ble_eq_true rfl⟩ dX10_readsClause_141 (fun q16 => ?_)
                    refine dx_zr (fun hz17 => ?_)
                    exact dx_zret2 C hr hlk hz17 dX10_readsClause_144 (fun h => h)
                  · refine dx_aload_n C 1 dX10_readsClause_133 rfl rfl ?_
                    refine dx_callV2 C cl_X10_readsMatter kmX10_135 (ci := 9) (b := 134) (As := []) (rest := []) rfl (hp_of ly_134) (tf_X10_readsMatter w2) rfl rfl (Nat.le_of_ble_eq_true rfl) ⟨Nat.le_of_ble_eq_true rfl, Nat.le_of_ble_eq_true rfl⟩ dX10_readsClause_134 (fun q18 => ?_)
                    refine dx_goto C 144 dX10_readsClause_137 (by decide) ?_
                    refine dx_zr (fun hz19 => ?_)
                    exact dx_zret2 C hr hlk hz19 dX10_readsClause_144 (fun h => h)
                · refine dx_aload_n C 1 dX10_readsClause_109 rfl rfl ?_
                  refine dgX10_128 C dX10_readsClause_110 ?_
                  refine dx_bipush (v := (6 : Int32)) C dX10_readsClause_113 (by decide) ?_
                  refine dx_icmp_ne C 127 dX10_readsClause_115 (by decide) ?_ ?_
                  · refine dx_iload_n C 2 dX10_readsClause_127 rfl rfl ?_
                    refine dx_bipush (v := (109 : Int32)) C dX10_readsClause_128 (by decide) ?_
                    refine dx_icmp_ne C 140 dX10_readsClause_130 (by decide) ?_ ?_
                    · refine dx_aload_n C 1 dX10_readsClause_140 rfl rfl ?_
                      refine dx_callV2 C cl_X10_readsTraveller kmX10_138 (ci := 9) (b := 134) (As := []) (rest := []) rfl (hp_of ly_134) (tf_X10_readsTraveller w2) rfl rfl (Nat.le_of_ble_eq_true rfl) ⟨Nat.le_of_ble_eq_true rfl, Nat.le_of_ble_eq_true rfl⟩ dX10_readsClause_141 (fun q20 => ?_)
                      refine dx_zr (fun hz21 => ?_)
                      exact dx_zret2 C hr hlk hz21 dX10_readsClause_144 (fun h => h)
                    · refine dx_aload_n C 1 dX10_readsClause_133 rfl rfl ?_
                      refine dx_callV2 C cl_X10_readsMatter kmX10_135 (ci := 9) (b := 134) (As := []) (rest := []) rfl (hp_of ly_134) (tf_X10_readsMatter w2) rfl rfl (Nat.le_of_ble_eq_true rfl) ⟨Nat.le_of_ble_eq_true rfl, Nat.le_of_ble_eq_true rfl⟩ dX10_readsClause_134 (fun q22 => ?_)
                      refine dx_goto C 144 dX10_readsClause_137 (by decide) ?_
                      refine dx_zr (fun hz23 => ?_)
                      exact dx_zret2 C hr hlk hz23 dX10_readsClause_144 (fun h => h)
                  · refine dx_aload_n C 1 dX10_readsClause_118 rfl rfl ?_
                    refine dx_iconst (v := (3 : Int32)) C dX10_readsClause_119 (by decide) ?_
                    refine dx_iload_n C 3 dX10_readsClause_120 rfl rfl ?_
                    refine dx_callV2 C cl_X10_fails kmX10_105 (ci := 9) (b := 134) (As := [.int (3 : Int32), .int (q1.2 134 2)]) (rest := []) rfl (hp_of ly_134) (tf_X10_fails (3 : Int32) (q1.2 134 2) w2) rfl rfl (Nat.le_of_ble_eq_true rfl) ⟨Nat.le_of_ble_eq_true rfl, Nat.le_of_ble_eq_true rfl⟩ dX10_readsClause_121 (fun q24 => ?_)
                    refine dx_pop C dX10_readsClause_124 rfl ?_
                    refine dx_iconst (v := (0 : Int32)) C dX10_readsClause_125 (by decide) ?_
                    exact dx_zret2 C hr hlk (by decide) dX10_readsClause_126 (fun h => h)
        · refine dx_aload_n C 1 dX10_readsClause_73 rfl rfl ?_
          refine dx_iconst (v := (1 : Int32)) C dX10_readsClause_74 (by decide) ?_
          refine dx_iload_n C 3 dX10_readsClause_75 rfl rfl ?_
          refine dx_callV2 C cl_X10_fails kmX10_105 (ci := 9) (b := 134) (As := [.int (1 : Int32), .int (q1.2 134 2)]) (rest := []) rfl (hp_of ly_134) (tf_X10_fails (1 : Int32) (q1.2 134 2) w2) rfl rfl (Nat.le_of_ble_eq_true rfl) ⟨Nat.le_of_ble_eq_true rfl, Nat.le_of_ble_eq_true rfl⟩ dX10_readsClause_76 (fun q25 => ?_)
          refine dx_pop C dX10_readsClause_79 rfl ?_
          refine dx_iconst (v := (0 : Int32)) C dX10_readsClause_80 (by decide) ?_
          exact dx_zret2 C hr hlk (by decide) dX10_readsClause_81 (fun h => h)
    · refine dx_icmp_eq C 56 dX10_readsClause_41 (by decide) ?_ ?_
      · refine dx_iconst (v := (1 : Int32)) C dX10_readsClause_56 (by decide) ?_
        refine dx_goto C 61 dX10_readsClause_57 (by decide) ?_
        refine dx_mv (lo2 := [(0, .ref (z + 134)), (1, .int q1.1), (2, .int (q1.2 134 2))]) [2, 1, 0] rfl ?_
        exact dx_end (fun h => h)
      · refine dx_iload_n C 1 dX10_readsClause_44 rfl rfl ?_
        refine dx_bipush (v := (109 : Int32)) C dX10_readsClause_45 (by decide) ?_
        refine dx_icmp_eq C 56 dX10_readsClause_47 (by decide) ?_ ?_
        · refine dx_iconst (v := (1 : Int32)) C dX10_readsClause_56 (by decide) ?_
          refine dx_goto C 61 dX10_readsClause_57 (by decide) ?_
          refine dx_mv (lo2 := [(0, .ref (z + 134)), (1, .int q1.1), (2, .int (q1.2 134 2))]) [2, 1, 0] rfl ?_
          exact dx_end (fun h => h)
        · refine dx_iload_n C 1 dX10_readsClause_50 rfl rfl ?_
          refine dx_bipush (v := (116 : Int32)) C dX10_readsClause_51 (by decide) ?_
          refine dx_icmp_ne C 60 dX10_readsClause_53 (by decide) ?_ ?_
          · refine dx_iconst (v := (0 : Int32)) C dX10_readsClause_60 (by decide) ?_
            refine dx_mv (lo2 := [(0, .ref (z + 134)), (1, .int q1.1), (2, .int (q1.2 134 2))]) [2, 1, 0] rfl ?_
            exact dx_end (fun h => h)
          · refine dx_iconst (v := (1 : Int32)) C dX10_readsClause_56 (by decide) ?_
            refine dx_goto C 61 dX10_readsClause_57 (by decide) ?_
            refine dx_mv (lo2 := [(0, .ref (z + 134)), (1, .int q1.1), (2, .int (q1.2 134 2))]) [2, 1, 0] rfl ?_
            exact dx_end (fun h => h)
  · refine dx_aload_n C 2 dX10_readsClause_26 rfl rfl ?_
    refine dgX10_118 C dX10_readsClause_27 ?_
    refine dx_if_ne C 38 dX10_readsClause_30 (by decide) ?_ ?_
    · refine dx_iload_n C 1 dX10_readsClause_38 rfl rfl ?_
      refine dx_bipush (v := (107 : Int32)) C dX10_readsClause_39 (by decide) ?_
      refine dx_bind 61 (fun v26 => [(0, .ref (z + 134)), (1, .int q1.1), (2, .int (q1.2 134 2))]) (fun v26 => [.int v26]) (fun v26 => w2) (fun v26 => (?_ : DX p l e _ s m _ below meth c G z 4 n _ _ 61 [(0, .ref (z + 134)), (1, .int q1.1), (2, .int (q1.2 134 2))] [.int v26] w2 _)) ?_
      · refine dx_istore_n C [(3, .int v26), (0, .ref (z + 134)), (1, .int q1.1), (2, .int (q1.2 134 2))] dX10_readsClause_61 rfl (by decide) rfl ?_
        refine dx_iload_n C 0 dX10_readsClause_62 rfl rfl ?_
        refine dx_if_eq C 73 dX10_readsClause_63 (by decide) ?_ ?_
        · refine dx_aload_n C 1 dX10_readsClause_73 rfl rfl ?_
          refine dx_iconst (v := (1 : Int32)) C dX10_readsClause_74 (by decide) ?_
          refine dx_iload_n C 3 dX10_readsClause_75 rfl rfl ?_
          refine dx_callV2 C cl_X10_fails kmX10_105 (ci := 9) (b := 134) (As := [.int (1 : Int32), .int (q1.2 134 2)]) (rest := []) rfl (hp_of ly_134) (tf_X10_fails (1 : Int32) (q1.2 134 2) w2) rfl rfl (Nat.le_of_ble_eq_true rfl) ⟨Nat.le_of_ble_eq_true rfl, Nat.le_of_ble_eq_true rfl⟩ dX10_readsClause_76 (fun q27 => ?_)
          refine dx_pop C dX10_readsClause_79 rfl ?_
          refine dx_iconst (v := (0 : Int32)) C dX10_readsClause_80 (by decide) ?_
          exact dx_zret2 C hr hlk (by decide) dX10_readsClause_81 (fun h => h)
        · refine dx_aload_n C 1 dX10_readsClause_66 rfl rfl ?_
          refine dgX10_118 C dX10_readsClause_67 ?_
          refine dx_if_ne C 82 dX10_readsClause_70 (by decide) ?_ ?_
          · refine dx_iload_n C 2 dX10_readsClause_82 rfl rfl ?_
            refine dx_bipush (v := (107 : Int32)) C dX10_readsClause_83 (by decide) ?_
            refine dx_icmp_eq C 118 dX10_readsClause_85 (by decide) ?_ ?_
            · refine dx_aload_n C 1 dX10_readsClause_118 rfl rfl ?_
              refine dx_iconst (v := (3 : Int32)) C dX10_readsClause_119 (by decide) ?_
              refine dx_iload_n C 3 dX10_readsClause_120 rfl rfl ?_
              refine dx_callV2 C cl_X10_fails kmX10_105 (ci := 9) (b := 134) (As := [.int (3 : Int32), .int (q1.2 134 2)]) (rest := []) rfl (hp_of ly_134) (tf_X10_fails (3 : Int32) (q1.2 134 2) w2) rfl rfl (Nat.le_of_ble_eq_true rfl) ⟨Nat.le_of_ble_eq_true rfl, Nat.le_of_ble_eq_true rfl⟩ dX10_readsClause_121 (fun q28 => ?_)
              refine dx_pop C dX10_readsClause_124 rfl ?_
              refine dx_iconst (v := (0 : Int32)) C dX10_readsClause_125 (by decide) ?_
              exact dx_zret2 C hr hlk (by decide) dX10_readsClause_126 (fun h => h)
            · refine dx_iload_n C 2 dX10_readsClause_88 rfl rfl ?_
              refine dx_bipush (v := (109 : Int32)) C dX10_readsClause_89 (by decide) ?_
              refine dx_icmp_ne C 103 dX10_readsClause_91 (by decide) ?_ ?_
              · refine dx_iload_n C 2 dX10_readsClause_103 rfl rfl ?_
                refine dx_bipush (v := (116 : Int32)) C dX10_readsClause_104 (by decide) ?_
                refine dx_icmp_ne C 127 dX10_readsClause_106 (by decide) ?_ ?_
                · refine dx_iload_n C 2 dX10_readsClause_127 rfl rfl ?_
                  refine dx_bipush (v := (109 : Int32)) C dX10_readsClause_128 (by decide) ?_
                  refine dx_icmp_ne C 140 dX10_readsClause_130 (by decide) ?_ ?_
                  · refine dx_aload_n C 1 dX10_readsClause_140 rfl rfl ?_
                    refine dx_callV2 C cl_X10_readsTraveller kmX10_138 (ci := 9) (b := 134) (As := []) (rest := []) rfl (hp_of ly_134) (tf_X10_readsTraveller w2) rfl rfl (Nat.le_of_ble_eq_true rfl) ⟨Nat.le_of_ble_eq_true rfl, Nat.le_of_ble_eq_true rfl⟩ dX10_readsClause_141 (fun q29 => ?_)
                    refine dx_zr (fun hz30 => ?_)
                    exact dx_zret2 C hr hlk hz30 dX10_readsClause_144 (fun h => h)
                  · refine dx_aload_n C 1 dX10_readsClause_133 rfl rfl ?_
                    refine dx_callV2 C cl_X10_readsMatter kmX10_135 (ci := 9) (b := 134) (As := []) (rest := []) rfl (hp_of ly_134) (tf_X10_readsMatter w2) rfl rfl (Nat.le_of_ble_eq_true rfl) ⟨Nat.le_of_ble_eq_true rfl, Nat.le_of_ble_eq_true rfl⟩ dX10_readsClause_134 (fun q31 => ?_)
                    refine dx_goto C 144 dX10_readsClause_137 (by decide) ?_
                    refine dx_zr (fun hz32 => ?_)
                    exact dx_zret2 C hr hlk hz32 dX10_readsClause_144 (fun h => h)
                · refine dx_aload_n C 1 dX10_readsClause_109 rfl rfl ?_
                  refine dgX10_128 C dX10_readsClause_110 ?_
                  refine dx_bipush (v := (6 : Int32)) C dX10_readsClause_113 (by decide) ?_
                  refine dx_icmp_ne C 127 dX10_readsClause_115 (by decide) ?_ ?_
                  · refine dx_iload_n C 2 dX10_readsClause_127 rfl rfl ?_
                    refine dx_bipush (v := (109 : Int32)) C dX10_readsClause_128 (by decide) ?_
                    refine dx_icmp_ne C 140 dX10_readsClause_130 (by decide) ?_ ?_
                    · refine dx_aload_n C 1 dX10_readsClause_140 rfl rfl ?_
                      refine dx_callV2 C cl_X10_readsTraveller kmX10_138 (ci := 9) (b := 134) (As := []) (rest := []) rfl (hp_of ly_134) (tf_X10_readsTraveller w2) rfl rfl (Nat.le_of_ble_eq_true rfl) ⟨Nat.le_of_ble_eq_true rfl, Nat.le_of_ble_eq_true rfl⟩ dX10_readsClause_141 (fun q33 => ?_)
                      refine dx_zr (fun hz34 => ?_)
                      exact dx_zret2 C hr hlk hz34 dX10_readsClause_144 (fun h => h)
                    · refine dx_aload_n C 1 dX10_readsClause_133 rfl rfl ?_
                      refine dx_callV2 C cl_X10_readsMatter kmX10_135 (ci := 9) (b := 134) (As := []) (rest := []) rfl (hp_of ly_134) (tf_X10_readsMatter w2) rfl rfl (Nat.le_of_ble_eq_true rfl) ⟨Nat.le_of_ble_eq_true rfl, Nat.le_of_ble_eq_true rfl⟩ dX10_readsClause_134 (fun q35 => ?_)
                      refine dx_goto C 144 dX10_readsClause_137 (by decide) ?_
                      refine dx_zr (fun hz36 => ?_)
                      exact dx_zret2 C hr hlk hz36 dX10_readsClause_144 (fun h => h)
                  · refine dx_aload_n C 1 dX10_readsClause_118 rfl rfl ?_
                    refine dx_iconst (v := (3 : Int32)) C dX10_readsClause_119 (by decide) ?_
                    refine dx_iload_n C 3 dX10_readsClause_120 rfl rfl ?_
                    refine dx_callV2 C cl_X10_fails kmX10_105 (ci := 9) (b := 134) (As := [.int (3 : Int32), .int (q1.2 134 2)]) (rest := []) rfl (hp_of ly_134) (tf_X10_fails (3 : Int32) (q1.2 134 2) w2) rfl rfl (Nat.le_of_ble_eq_true rfl) ⟨Nat.le_of_ble_eq_true rfl, Nat.le_of_ble_eq_true rfl⟩ dX10_readsClause_121 (fun q37 => ?_)
                    refine dx_pop C dX10_readsClause_124 rfl ?_
                    refine dx_iconst (v := (0 : Int32)) C dX10_readsClause_125 (by decide) ?_
                    exact dx_zret2 C hr hlk (by decide) dX10_readsClause_126 (fun h => h)
              · refine dx_aload_n C 1 dX10_readsClause_94 rfl rfl ?_
                refine dgX10_125 C dX10_readsClause_95 ?_
                refine dx_bipush (v := (8 : Int32)) C dX10_readsClause_98 (by decide) ?_
                refine dx_icmp_eq C 118 dX10_readsClause_100 (by decide) ?_ ?_
                · refine dx_aload_n C 1 dX10_readsClause_118 rfl rfl ?_
                  refine dx_iconst (v := (3 : Int32)) C dX10_readsClause_119 (by decide) ?_
                  refine dx_iload_n C 3 dX10_readsClause_120 rfl rfl ?_
                  refine dx_callV2 C cl_X10_fails kmX10_105 (ci := 9) (b := 134) (As := [.int (3 : Int32), .int (q1.2 134 2)]) (rest := []) rfl (hp_of ly_134) (tf_X10_fails (3 : Int32) (q1.2 134 2) w2) rfl rfl (Nat.le_of_ble_eq_true rfl) ⟨Nat.le_of_ble_eq_true rfl, Nat.le_of_ble_eq_true rfl⟩ dX10_readsClause_121 (fun q38 => ?_)
                  refine dx_pop C dX10_readsClause_124 rfl ?_
                  refine dx_iconst (v := (0 : Int32)) C dX10_readsClause_125 (by decide) ?_
                  exact dx_zret2 C hr hlk (by decide) dX10_readsClause_126 (fun h => h)
                · refine dx_iload_n C 2 dX10_readsClause_103 rfl rfl ?_
                  refine dx_bipush (v := (116 : Int32)) C dX10_readsClause_104 (by decide) ?_
                  refine dx_icmp_ne C 127 dX10_readsClause_106 (by decide) ?_ ?_
                  · refine dx_iload_n C 2 dX10_readsClause_127 rfl rfl ?_
                    refine dx_bipush (v := (109 : Int32)) C dX10_readsClause_128 (by decide) ?_
                    refine dx_icmp_ne C 140 dX10_readsClause_130 (by decide) ?_ ?_
                    · refine dx_aload_n C 1 dX10_readsClause_140 rfl rfl ?_
                      refine dx_callV2 C cl_X10_readsTraveller kmX10_138 (ci := 9) (b := 134) (As := []) (rest := []) rfl (hp_of ly_134) (tf_X10_readsTraveller w2) rfl rfl (Nat.le_of_ble_eq_true rfl) ⟨Nat.le_of_ble_eq_true rfl, Nat.le_of_ble_eq_true rfl⟩ dX10_readsClause_141 (fun q39 => ?_)
                      refine dx_zr (fun hz40 => ?_)
                      exact dx_zret2 C hr hlk hz40 dX10_readsClause_144 (fun h => h)
                    · refine dx_aload_n C 1 dX10_readsClause_133 rfl rfl ?_
                      refine dx_callV2 C cl_X10_readsMatter kmX10_135 (ci := 9) (b := 134) (As := []) (rest := []) rfl (hp_of ly_134) (tf_X10_readsMatter w2) rfl rfl (Nat.le_of_ble_eq_true rfl) ⟨Nat.le_of_ble_eq_true rfl, Nat.le_of_ble_eq_true rfl⟩ dX10_readsClause_134 (fun q41 => ?_)
                      refine dx_goto C 144 dX10_readsClause_137 (by decide) ?_
                      refine dx_zr (fun hz42 => ?_)
                      exact dx_zret2 C hr hlk hz42 dX10_readsClause_144 (fun h => h)
                  · refine dx_aload_n C 1 dX10_readsClause_109 rfl rfl ?_
                    refine dgX10_128 C dX10_readsClause_110 ?_
                    refine dx_bipush (v := (6 : Int32)) C dX10_readsClause_113 (by decide) ?_
                    refine dx_icmp_ne C 127 dX10_readsClause_115 (by decide) ?_ ?_
                    · refine dx_iload_n C 2 dX10_readsClause_127 rfl rfl ?_
                      refine dx_bipush (v := (109 : Int32)) C dX10_readsClause_128 (by decide) ?_
                      refine dx_icmp_ne C 140 dX10_readsClause_130 (by decide) ?_ ?_
                      · refine dx_aload_n C 1 dX10_readsClause_140 rfl rfl ?_
                        refine dx_callV2 C cl_X10_readsTraveller kmX10_138 (ci := 9) (b := 134) (As := []) (rest := []) rfl (hp_of ly_134) (tf_X10_readsTraveller w2) rfl rfl (Nat.le_of_ble_eq_true rfl) ⟨Nat.le_of_ble_eq_true rfl, Nat.le_of_ble_eq_true rfl⟩ dX10_readsClause_141 (fun q43 => ?_)
                        refine dx_zr (fun hz44 => ?_)
                        exact dx_zret2 C hr hlk hz44 dX10_readsClause_144 (fun h => h)
                      · refine dx_aload_n C 1 dX10_readsClause_133 rfl rfl ?_
                        refine dx_callV2 C cl_X10_readsMatter kmX10_135 (ci := 9) (b := 134) (As := []) (rest := []) rfl (hp_of ly_134) (tf_X10_readsMatter w2) rfl rfl (Nat.le_of_ble_eq_true rfl) ⟨Nat.le_of_ble_eq_true rfl, Nat.le_of_ble_eq_true rfl⟩ dX10_readsClause_134 (fun q45 => ?_)
                        refine dx_goto C 144 dX10_readsClause_137 (by decide) ?_
                        refine dx_zr (fun hz46 => ?_)
                        exact dx_zret2 C hr hlk hz46 dX10_readsClause_144 (fun h => h)
                    · refine dx_aload_n C 1 dX10_readsClause_118 rfl rfl ?_
                      refine dx_iconst (v := (3 : Int32)) C dX10_readsClause_119 (by decide) ?_
                      refine dx_iload_n C 3 dX10_readsClause_120 rfl rfl ?_
                      refine dx_callV2 C cl_X10_fails kmX10_105 (ci := 9) (b := 134) (As := [.int (3 : Int32), .int (q1.2 134 2)]) (rest := []) rfl (hp_of ly_134) (tf_X10_fails (3 : Int32) (q1.2 134 2) w2) rfl rfl (Nat.le_of_ble_eq_true rfl) ⟨Nat.le_of_ble_eq_true rfl, Nat.le_of_ble_eq_true rfl⟩ dX10_readsClause_121 (fun q47 => ?_)
                      refine dx_pop C dX10_readsClause_124 rfl ?_
                      refine dx_iconst (v := (0 : Int32)) C dX10_readsClause_125 (by decide) ?_
                      exact dx_zret2 C hr hlk (by decide) dX10_readsClause_126 (fun h => h)
          · refine dx_aload_n C 1 dX10_readsClause_73 rfl rfl ?_
            refine dx_iconst (v := (1 : Int32)) C dX10_readsClause_74 (by decide) ?_
            refine dx_iload_n C 3 dX10_readsClause_75 rfl rfl ?_
            refine dx_callV2 C cl_X10_fails kmX10_105 (ci := 9) (b := 134) (As := [.int (1 : Int32), .int (q1.2 134 2)]) (rest := []) rfl (hp_of ly_134) (tf_X10_fails (1 : Int32) (q1.2 134 2) w2) rfl rfl (Nat.le_of_ble_eq_true rfl) ⟨Nat.le_of_ble_eq_true rfl, Nat.le_of_ble_eq_true rfl⟩ dX10_readsClause_76 (fun q48 => ?_)
            refine dx_pop C dX10_readsClause_79 rfl ?_
            refine dx_iconst (v := (0 : Int32)) C dX10_readsClause_80 (by decide) ?_
            exact dx_zret2 C hr hlk (by decide) dX10_readsClause_81 (fun h => h)
      · refine dx_icmp_eq C 56 dX10_readsClause_41 (by decide) ?_ ?_
        · refine dx_iconst (v := (1 : Int32)) C dX10_readsClause_56 (by decide) ?_
          refine dx_goto C 61 dX10_readsClause_57 (by decide) ?_
          refine dx_mv (lo2 := [(0, .ref (z + 134)), (1, .int q1.1), (2, .int (q1.2 134 2))]) [2, 1, 0] rfl ?_
          exact dx_end (fun h => h)
        · refine dx_iload_n C 1 dX10_readsClause_44 rfl rfl ?_
          refine dx_bipush (v := (109 : Int32)) C dX10_readsClause_45 (by decide) ?_
          refine dx_icmp_eq C 56 dX10_readsClause_47 (by decide) ?_ ?_
          · refine dx_iconst (v := (1 : Int32)) C dX10_readsClause_56 (by decide) ?_
            refine dx_goto C 61 dX10_readsClause_57 (by decide) ?_
            refine dx_mv (lo2 := [(0, .ref (z + 134)), (1, .int q1.1), (2, .int (q1.2 134 2))]) [2, 1, 0] rfl ?_
            exact dx_end (fun h => h)
          · refine dx_iload_n C 1 dX10_readsClause_50 rfl rfl ?_
            refine dx_bipush (v := (116 : Int32)) C dX10_readsClause_51 (by decide) ?_
            refine dx_icmp_ne C 60 dX10_readsClause_53 (by decide) ?_ ?_
            · refine dx_iconst (v := (0 : Int32)) C dX10_readsClause_60 (by decide) ?_
              refine dx_mv (lo2 := [(0, .ref (z + 134)), (1, .int q1.1), (2, .int (q1.2 134 2))]) [2, 1, 0] rfl ?_
              exact dx_end (fun h => h)
            · refine dx_iconst (v := (1 : Int32)) C dX10_readsClause_56 (by decide) ?_
              refine dx_goto C 61 dX10_readsClause_57 (by decide) ?_
              refine dx_mv (lo2 := [(0, .ref (z + 134)), (1, .int q1.1), (2, .int (q1.2 134 2))]) [2, 1, 0] rfl ?_
              exact dx_end (fun h => h)
    · refine dx_aload_n C 2 dX10_readsClause_33 rfl rfl ?_
      refine dx_callV2 C cl_X10_readsHead kmX10_131 (ci := 9) (b := 134) (As := []) (rest := []) rfl (hp_of ly_134) (tf_X10_readsHead w2) rfl rfl (Nat.le_of_ble_eq_true rfl) ⟨Nat.le_of_ble_eq_true rfl, Nat.le_of_ble_eq_true rfl⟩ dX10_readsClause_34 (fun q49 => ?_)
      refine dx_zr (fun hz50 => ?_)
      exact dx_zret2 C hr hlk hz50 dX10_readsClause_37 (fun h => h)
