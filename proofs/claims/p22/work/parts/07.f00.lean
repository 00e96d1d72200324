def f_X7_add (a1 : Int32) (w : Mem) : Option (Int32 × Mem) :=
  (if (w 1 1) < (240 : Int32) then wr 240 2 (w 1 1) a1 w fun w1 => pw 1 1 ((w1 1 1) + (1 : Int32)) w1 fun w2 => some (((1 : Int32), w2)) else some (((0 : Int32), w)))
set_option maxRecDepth 20000 in
set_option maxHeartbeats 4000000 in
theorem tf_X7_add {G : GT} {l : Launch} {z n : Nat} (a1 : Int32) (w : Mem) (q : Int32 × Mem) (hq : f_X7_add a1 w = some q) : Mt G l z yX7_add cX7_add 2 (some .boolean) { frames := 0, cells := 0, slots := 0, locals := 0 } [.ref (z + 1), .int a1] (hp G z w) n (some (.int q.1)) (hp G z q.2) n := by
  refine mt_of (by decide +kernel) (Nat.le_of_ble_eq_true rfl) ?_
  intro p e s m below meth c C hr hlk hnm
  refine (?_ : DX p l e _ s m _ below meth c G z 2 n _ (fun v => v = q) 0 [(0, .ref (z + 1)), (1, .int a1)] [] w (f_X7_add a1 w)) q hq rfl
  unfold f_X7_add
  refine dx_aload_n C 0 dX7_add_0 rfl rfl ?_
  refine dgX7_15 C dX7_add_1 ?_
  refine dx_aload_n C 0 dX7_add_4 rfl rfl ?_
  refine dgX7_9 C dX7_add_5 ?_
  refine dx_alen (v := (240 : Int32)) C 0 ly_2 rfl rfl rfl dX7_add_8 ?_
  refine dx_icmp_lt C 14 dX7_add_9 (by decide) ?_ ?_
  · refine dx_aload_n C 0 dX7_add_14 rfl rfl ?_
    refine dgX7_9 C dX7_add_15 ?_
    refine dx_aload_n C 0 dX7_add_18 rfl rfl ?_
    refine dgX7_15 C dX7_add_19 ?_
    refine dx_iload_n C 1 dX7_add_22 rfl rfl ?_
    refine dx_wr C ly_2 dX7_add_23 (fun w1 => ?_)
    refine dx_aload_n C 0 dX7_add_24 rfl rfl ?_
    refine dx_dup C dX7_add_25 rfl ?_
    refine dgX7_15 C dX7_add_26 ?_
    refine dx_iconst (v := (1 : Int32)) C dX7_add_29 (by decide) ?_
    refine dx_iadd C dX7_add_30 ?_
    refine dpX7_15 C dX7_add_31 (fun w2 => ?_)
    refine dx_iconst (v := (1 : Int32)) C dX7_add_34 (by decide) ?_
    exact dx_zret2 C hr hlk (by decide) dX7_add_35 (fun h => h)
  · refine dx_iconst (v := (0 : Int32)) C dX7_add_12 (by decide) ?_
    exact dx_zret2 C hr hlk (by decide) dX7_add_13 (fun h => h)
def f_X9_feed (a1 : Int32) (w : Mem) : Option (Int32 × Mem) :=
  (if a1 < 0 then some (((-1000000002 : Int32), w)) else (if (255 : Int32) < a1 then some (((-1000000002 : Int32), w)) else (f_X7_add a1 w).bind fun q1 => (if q1.1 = 0 then some (((-1000000004 : Int32), q1.2)) else some (((q1.2 1 1), q1.2)))))
set_option maxRecDepth 20000 in
set_option maxHeartbeats 4000000 in
theorem tf_X9_feed {G : GT} {l : Launch} {z n : Nat} (a1 : Int32) (w : Mem) (q : Int32 × Mem) (hq : f_X9_feed a1 w = some q) : Mt G l z yX9_feed cX9_feed 2 (some .int) { frames := 1, cells := 0, slots := 0, locals := 21 } [.ref (z + 0), .int a1] (hp G z w) n (some (.int q.1)) (hp G z q.2) n := by
  refine mt_of (by decide +kernel) (Nat.le_of_ble_eq_true rfl) ?_
  intro p e s m below meth c C hr hlk hnm
  refine (?_ : DX p l e _ s m _ below meth c G z 2 n _ (fun v => v = q) 0 [(0, .ref (z + 0)), (1, .int a1)] [] w (f_X9_feed a1 w)) q hq rfl
  unfold f_X9_feed
  refine dx_iload_n C 1 dX9_feed_0 rfl rfl ?_
  refine dx_if_lt C 11 dX9_feed_1 (by decide) ?_ ?_
  · refine dx_ldc C kcX9_80 dX9_feed_11 ?_
    exact dx_iret2 C hr hlk dX9_feed_13 (fun h => h)
  · refine dx_iload_n C 1 dX9_feed_4 rfl rfl ?_
    refine dx_sipush (v := (255 : Int32)) C dX9_feed_5 (by decide) ?_
    refine dx_icmp_le C 14 dX9_feed_8 (by decide) ?_ ?_
    · refine dx_aload_n C 0 dX9_feed_14 rfl rfl ?_
      refine dgX9_10 C dX9_feed_15 ?_
      refine dx_iload_n C 1 dX9_feed_18 rfl rfl ?_
      refine dx_callV2 C cl_X7_add kmX9_81 (ci := 6) (b := 1) (As := [.int a1]) (rest := []) rfl (hp_of ly_1) (tf_X7_add a1 w) rfl rfl (Nat.le_of_ble_eq_true rfl) ⟨Nat.le_of_ble_eq_true rfl, Nat.le_of_ble_eq_true rfl⟩ dX9_feed_19 (fun q1 => ?_)
      refine dx_if_eq C 35 dX9_feed_22 (by decide) ?_ ?_
      · refine dx_ldc C kcX9_88 dX9_feed_35 ?_
        exact dx_iret2 C hr hlk dX9_feed_37 (fun h => h)
      · refine dx_aload_n C 0 dX9_feed_25 rfl rfl ?_
        refine dgX9_10 C dX9_feed_26 ?_
        refine dgX9_85 C dX9_feed_29 ?_
        refine dx_goto C 37 dX9_feed_32 (by decide) ?_
        exact dx_iret2 C hr hlk dX9_feed_37 (fun h => h)
    · refine dx_ldc C kcX9_80 dX9_feed_11 ?_
      exact dx_iret2 C hr hlk dX9_feed_13 (fun h => h)
def f_X1_clear (b0 : Nat) (w : Mem) : Option (Mem) :=
  pw b0 0 (0 : Int32) w fun w1 => pw b0 1 (0 : Int32) w1 fun w2 => pw b0 2 (0 : Int32) w2 fun w3 => pw b0 3 (0 : Int32) w3 fun w4 => some (w4)
set_option maxRecDepth 20000 in
set_option maxHeartbeats 4000000 in
theorem tf_X1_clear {G : GT} {l : Launch} {z n : Nat} (b0 : Nat) (hb0 : BrO b0) (w : Mem) (q : Mem) (hq : f_X1_clear b0 w = some q) : Mt G l z yX1_clear cX1_clear 1 none { frames := 0, cells := 0, slots := 0, locals := 0 } [.ref (z + b0)] (hp G z w) n none (hp G z q) n := by
  refine mt_of (by decide +kernel) (Nat.le_of_ble_eq_true rfl) ?_
  intro p e s m below meth c C hr hlk hnm
  refine (?_ : DX p l e _ s m _ below meth c G z 1 n _ (fun v => v = q) 0 [(0, .ref (z + b0))] [] w (f_X1_clear b0 w)) q hq rfl
  unfold f_X1_clear
  refine dx_aload_n C 0 dX1_clear_0 rfl rfl ?_
  refine dx_iconst (v := (0 : Int32)) C dX1_clear_1 (by decide) ?_
  refine dpX1_9 C hb0 dX1_clear_2 (fun w1 => ?_)
  refine dx_aload_n C 0 dX1_clear_5 rfl rfl ?_
  refine dx_iconst (v := (0 : Int32)) C dX1_clear_6 (by decide) ?_
  refine dpX1_15 C hb0 dX1_clear_7 (fun w2 => ?_)
  refine dx_aload_n C 0 dX1_clear_10 rfl rfl ?_
  refine dx_iconst (v := (0 : Int32)) C dX1_clear_11 (by decide) ?_
  refine dpX1_18 C hb0 dX1_clear_12 (fun w3 => ?_)
  refine dx_aload_n C 0 dX1_clear_15 rfl rfl ?_
  refine dx_iconst (v := (0 : Int32)) C dX1_clear_16 (by decide) ?_
  refine dpX1_21 C hb0 dX1_clear_17 (fun w4 => ?_)
  exact dx_vret C hr hlk dX1_clear_20 (fun h => h)
def f_X7_nextLetter (w : Mem) : Option (Int32) :=
  (if (w 1 2) < 0 then some ((-1 : Int32)) else (if (w 1 2) < (w 1 1) then (if (w 1 2) < (240 : Int32) then rd 240 (w 2) (w 1 2) fun x1 => some (x1) else some ((-1 : Int32))) else some ((-1 : Int32))))
set_option maxRecDepth 20000 in
set_option maxHeartbeats 4000000 in
theorem tf_X7_nextLetter {G : GT} {l : Launch} {z n : Nat} (w : Mem) (q : Int32) (hq : f_X7_nextLetter w = some q) : Mt G l z yX7_nextLetter cX7_nextLetter 1 (some .int) { frames := 0, cells := 0, slots := 0, locals := 0 } [.ref (z + 1)] (hp G z w) n (some (.int q)) (hp G z w) n := by
  refine mt_of (by decide +kernel) (Nat.le_of_ble_eq_true rfl) ?_
  intro p e s m below meth c C hr hlk hnm
  refine (?_ : DX p l e _ s m _ below meth c G z 1 n _ (fun v => v = q) 0 [(0, .ref (z + 1))] [] w (f_X7_nextLetter w)) q hq rfl
  unfold f_X7_nextLetter
  refine dx_aload_n C 0 dX7_nextLetter_0 rfl rfl ?_
  refine dgX7_19 C dX7_nextLetter_1 ?_
  refine dx_if_lt C 42 dX7_nextLetter_4 (by decide) ?_ ?_
  · refine dx_iconst (v := (-1 : Int32)) C dX7_nextLetter_42 (by decide) ?_
    exact dx_iret1 C hr hlk dX7_nextLetter_43 (fun h => h)
  · refine dx_aload_n C 0 dX7_nextLetter_7 rfl rfl ?_
    refine dgX7_19 C dX7_nextLetter_8 ?_
    refine dx_aload_n C 0 dX7_nextLetter_11 rfl rfl ?_
    refine dgX7_15 C dX7_nextLetter_12 ?_
    refine dx_icmp_ge C 42 dX7_nextLetter_15 (by decide) ?_ ?_
    · refine dx_iconst (v := (-1 : Int32)) C dX7_nextLetter_42 (by decide) ?_
      exact dx_iret1 C hr hlk dX7_nextLetter_43 (fun h => h)
    · refine dx_aload_n C 0 dX7_nextLetter_18 rfl rfl ?_
      refine dgX7_19 C dX7_nextLetter_19 ?_
      refine dx_aload_n C 0 dX7_nextLetter_22 rfl rfl ?_
      refine dgX7_9 C dX7_nextLetter_23 ?_
      refine dx_alen (v := (240 : Int32)) C 0 ly_2 rfl rfl rfl dX7_nextLetter_26 ?_
      refine dx_icmp_ge C 42 dX7_nextLetter_27 (by decide) ?_ ?_
      · refine dx_iconst (v := (-1 : Int32)) C dX7_nextLetter_42 (by decide) ?_
        exact dx_iret1 C hr hlk dX7_nextLetter_43 (fun h => h)
      · refine dx_aload_n C 0 dX7_nextLetter_30 rfl rfl ?_
        refine dgX7_9 C dX7_nextLetter_31 ?_
        refine dx_aload_n C 0 dX7_nextLetter_34 rfl rfl ?_
        refine dgX7_19 C dX7_nextLetter_35 ?_
        refine dx_rd C ly_2 dX7_nextLetter_38 (fun x1 => ?_)
        refine dx_goto C 43 dX7_nextLetter_39 (by decide) ?_
        exact dx_iret1 C hr hlk dX7_nextLetter_43 (fun h => h)
def f_X7_skipBlanks (w : Mem) : Option (Mem) :=
  (lp (S := Mem) (T := Mem) (fun s0 => (if (s0 1 2) < (s0 1 1) then (f_X7_nextLetter s0).bind fun r1 => (if r1 = (32 : Int32) then pw 1 2 ((s0 1 2) + (1 : Int32)) s0 fun w2 => some (Sum.inl w2) else some (Sum.inr s0)) else some (Sum.inr s0))) 5000000000 w).bind fun v3 => some (v3)
set_option maxRecDepth 20000 in
set_option maxHeartbeats 4000000 in
theorem tf_X7_skipBlanks {G : GT} {l : Launch} {z n : Nat} (w : Mem) (q : Mem) (hq : f_X7_skipBlanks w = some q) : Mt G l z yX7_skipBlanks cX7_skipBlanks 1 none { frames := 1, cells := 0, slots := 0, locals := 20 } [.ref (z + 1)] (hp G z w) n none (hp G z q) n := by
  refine mt_of (by decide +kernel) (Nat.le_of_ble_eq_true rfl) ?_
  intro p e s m below meth c C hr hlk hnm
  refine (?_ : DX p l e _ s m _ below meth c G z 1 n _ (fun v => v = q) 0 [(0, .ref (z + 1))] [] w (f_X7_skipBlanks w)) q hq rfl
  unfold f_X7_skipBlanks
  refine dx_bind 33 (fun v3 => []) (fun v3 => []) (fun v3 => v3) (fun v3 => (?_ : DX p l e _ s m _ below meth c G z 1 n _ _ 33 [] [] v3 _)) ?_
  · exact dx_vret C hr hlk dX7_skipBlanks_33 (fun h => h)
  · refine dx_lp (fun s0 => [(0, .ref (z + 1))]) [] (fun s0 => s0) (fun s0 => (?_ : DX p l e _ s m _ below meth c G z 1 n _ _ 0 [(0, .ref (z + 1))] [] s0 _)) 5000000000 w
    refine dx_aload_n C 0 dX7_skipBlanks_0 rfl rfl ?_
    refine dgX7_19 C dX7_skipBlanks_1 ?_
    refine dx_aload_n C 0 dX7_skipBlanks_4 rfl rfl ?_
    refine dgX7_15 C dX7_skipBlanks_5 ?_
    refine dx_icmp_ge C 33 dX7_skipBlanks_8 (by decide) ?_ ?_
    · refine dx_mv (lo2 := []) [] rfl ?_
      exact dx_end (fun h => h)
    · refine dx_aload_n C 0 dX7_skipBlanks_11 rfl rfl ?_
      refine dx_callV1 C cl_X7_nextLetter kmX7_43 (ci := 6) (b := 1) (As := []) (rest := []) rfl (hp_of ly_1) (tf_X7_nextLetter s0) rfl rfl (Nat.le_of_ble_eq_true rfl) ⟨Nat.le_of_ble_eq_true rfl, Nat.le_of_ble_eq_true rfl⟩ dX7_skipBlanks_12 (fun r1 => ?_)
      refine dx_bipush (v := (32 : Int32)) C dX7_skipBlanks_15 (by decide) ?_
      refine dx_icmp_ne C 33 dX7_skipBlanks_17 (by decide) ?_ ?_
      · refine dx_mv (lo2 := []) [] rfl ?_
        exact dx_end (fun h => h)
      · refine dx_aload_n C 0 dX7_skipBlanks_20 rfl rfl ?_
        refine dx_dup C dX7_skipBlanks_21 rfl ?_
        refine dgX7_19 C dX7_skipBlanks_22 ?_
        refine dx_iconst (v := (1 : Int32)) C dX7_skipBlanks_25 (by decide) ?_
        refine dx_iadd C dX7_skipBlanks_26 ?_
        refine dpX7_19 C dX7_skipBlanks_27 (fun w2 => ?_)
        refine dx_goto C 0 dX7_skipBlanks_30 (by decide) ?_
        exact dx_end (fun h => h)
def f_X1_isThere (b0 : Nat) (w : Mem) : Option (Int32) :=
  (if 0 < (w b0 0) then some ((1 : Int32)) else some ((0 : Int32)))
set_option maxRecDepth 20000 in
set_option maxHeartbeats 4000000 in
theorem tf_X1_isThere {G : GT} {l : Launch} {z n : Nat} (b0 : Nat) (hb0 : BrO b0) (w : Mem) (q : Int32) (hq : f_X1_isThere b0 w = some q) : Mt G l z yX1_isThere cX1_isThere 1 (some .boolean) { frames := 0, cells := 0, slots := 0, locals := 0 } [.ref (z + b0)] (hp G z w) n (some (.int q)) (hp G z w) n := by
  refine mt_of (by decide +kernel) (Nat.le_of_ble_eq_true rfl) ?_
  intro p e s m below meth c C hr hlk hnm
  refine (?_ : DX p l e _ s m _ below meth c G z 1 n _ (fun v => v = q) 0 [(0, .ref (z + b0))] [] w (f_X1_isThere b0 w)) q hq rfl
  unfold f_X1_isThere
  refine dx_aload_n C 0 dX1_isThere_0 rfl rfl ?_
  refine dgX1_9 C hb0 dX1_isThere_1 ?_
  refine dx_if_le C 11 dX1_isThere_4 (by decide) ?_ ?_
  · refine dx_iconst (v := (0 : Int32)) C dX1_isThere_11 (by decide) ?_
    exact dx_zret1 C hr hlk (by decide) dX1_isThere_12 (fun h => h)
  · refine dx_iconst (v := (1 : Int32)) C dX1_isThere_7 (by decide) ?_
    refine dx_goto C 12 dX1_isThere_8 (by decide) ?_
    exact dx_zret1 C hr hlk (by decide) dX1_isThere_12 (fun h => h)
def f_X7_faultOfWord (b0 : Nat) (a1 : Int32) (w : Mem) : Option (Int32) :=
  (if a1 = (107 : Int32) then (f_X1_isThere b0 w).bind fun r2 => (if r2 = 0 then some ((0 : Int32)) else some ((3 : Int32))) else (f_X1_isThere b0 w).bind fun r1 => (if r1 = 0 then some ((1 : Int32)) else (if a1 = (109 : Int32) then (if (w b0 2) < (8 : Int32) then some ((0 : Int32)) else some ((3 : Int32))) else (if a1 = (116 : Int32) then (if (w b0 3) < (6 : Int32) then some ((0 : Int32)) else some ((3 : Int32))) else some ((1 : Int32))))))
set_option maxRecDepth 20000 in
set_option maxHeartbeats 4000000 in
theorem tf_X7_faultOfWord {G : GT} {l : Launch} {z n : Nat} (b0 : Nat) (hb0 : BrO b0) (a1 : Int32) (w : Mem) (q : Int32) (hq : f_X7_faultOfWord b0 a1 w = some q) : Mt G l z yX7_faultOfWord cX7_faultOfWord 2 (some .int) { frames := 1, cells := 0, slots := 0, locals := 20 } [.ref (z + b0), .int a1] (hp G z w) n (some (.int q)) (hp G z w) n := by
  refine mt_of (by decide +kernel) (Nat.le_of_ble_eq_true rfl) ?_
  intro p e s m below meth c C hr hlk hnm
  refine (?_ : DX p l e _ s m _ below meth c G z 2 n _ (fun v => v = q) 0 [(0, .ref (z + b0)), (1, .int a1)] [] w (f_X7_faultOfWord b0 a1 w)) q hq rfl
  unfold f_X7_faultOfWord
  refine dx_iload_n C 1 dX7_faultOfWord_0 rfl rfl ?_
  refine dx_bipush (v := (107 : Int32)) C dX7_faultOfWord_1 (by decide) ?_
  refine dx_icmp_ne C 19 dX7_faultOfWord_3 (by decide) ?_ ?_
  · refine dx_aload_n C 0 dX7_faultOfWord_19 rfl rfl ?_
    refine dx_callV1 C cl_X1_isThere kmX7_64 (ci := 0) (b := b0) (As := []) (rest := []) rfl (hp_of (lyBr0 hb0)) (tf_X1_isThere b0 hb0 w) rfl rfl (Nat.le_of_ble_eq_true rfl) ⟨Nat.le_of_ble_eq_true rfl, Nat.le_of_ble_eq_true rfl⟩ dX7_faultOfWord_20 (fun r1 => ?_)
    refine dx_if_ne C 28 dX7_faultOfWord_23 (by decide) ?_ ?_
    · refine dx_iload_n C 1 dX7_faultOfWord_28 rfl rfl ?_
      refine dx_bipush (v := (109 : Int32)) C dX7_faultOfWord_29 (by decide) ?_
      refine dx_icmp_ne C 49 dX7_faultOfWord_31 (by decide) ?_ ?_
      · refine dx_iload_n C 1 dX7_faultOfWord_49 rfl rfl ?_
        refine dx_bipush (v := (116 : Int32)) C dX7_faultOfWord_50 (by decide) ?_
        refine dx_icmp_ne C 70 dX7_faultOfWord_52 (by decide) ?_ ?_
        · refine dx_iconst (v := (1 : Int32)) C dX7_faultOfWord_70 (by decide) ?_
          exact dx_iret1 C hr hlk dX7_faultOfWord_71 (fun h => h)
        · refine dx_aload_n C 0 dX7_faultOfWord_55 rfl rfl ?_
          refine dgX7_71 C hb0 dX7_faultOfWord_56 ?_
          refine dx_bipush (v := (6 : Int32)) C dX7_faultOfWord_59 (by decide) ?_
          refine dx_icmp_lt C 68 dX7_faultOfWord_61 (by decide) ?_ ?_
          · refine dx_iconst (v := (0 : Int32)) C dX7_faultOfWord_68 (by decide) ?_
            exact dx_iret1 C hr hlk dX7_faultOfWord_69 (fun h => h)
          · refine dx_iconst (v := (3 : Int32)) C dX7_faultOfWord_64 (by decide) ?_
            refine dx_goto C 69 dX7_faultOfWord_65 (by decide) ?_
            exact dx_iret1 C hr hlk dX7_faultOfWord_69 (fun h => h)
      · refine dx_aload_n C 0 dX7_faultOfWord_34 rfl rfl ?_
        refine dgX7_68 C hb0 dX7_faultOfWord_35 ?_
        refine dx_bipush (v := (8 : Int32)) C dX7_faultOfWord_38 (by decide) ?_
        refine dx_icmp_lt C 47 dX7_faultOfWord_40 (by decide) ?_ ?_
        · refine dx_iconst (v := (0 : Int32)) C dX7_faultOfWord_47 (by decide) ?_
          exact dx_iret1 C hr hlk dX7_faultOfWord_48 (fun h => h)
        · refine dx_iconst (v := (3 : Int32)) C dX7_faultOfWord_43 (by decide) ?_
          refine dx_goto C 48 dX7_faultOfWord_44 (by decide) ?_
          exact dx_iret1 C hr hlk dX7_faultOfWord_48 (fun h => h)
    · refine dx_iconst (v := (1 : Int32)) C dX7_faultOfWord_26 (by decide) ?_
      exact dx_iret1 C hr hlk dX7_faultOfWord_27 (fun h => h)
  · refine dx_aload_n C 0 dX7_faultOfWord_6 rfl rfl ?_
    refine dx_callV1 C cl_X1_isThere kmX7_64 (ci := 0) (b := b0) (As := []) (rest := []) rfl (hp_of (lyBr0 hb0)) (tf_X1_isThere b0 hb0 w) rfl rfl (Nat.le_of_ble_eq_true rfl) ⟨Nat.le_of_ble_eq_true rfl, Nat.le_of_ble_eq_true rfl⟩ dX7_faultOfWord_7 (fun r2 => ?_)
    refine dx_if_eq C 17 dX7_faultOfWord_10 (by decide) ?_ ?_
    · refine dx_iconst (v := (0 : Int32)) C dX7_faultOfWord_17 (by decide) ?_
      exact dx_iret1 C hr hlk dX7_faultOfWord_18 (fun h => h)
    · refine dx_iconst (v := (3 : Int32)) C dX7_faultOfWord_13 (by decide) ?_
      refine dx_goto C 18 dX7_faultOfWord_14 (by decide) ?_
      exact dx_iret1 C hr hlk dX7_faultOfWord_18 (fun h => h)
def f_X7_isFigure (a0 : Int32) : Option (Int32) :=
  (if a0 < (48 : Int32) then some ((0 : Int32)) else (if (57 : Int32) < a0 then some ((0 : Int32)) else some ((1 : Int32))))
set_option maxRecDepth 20000 in
set_option maxHeartbeats 4000000 in
theorem tf_X7_isFigure {G : GT} {l : Launch} {z n : Nat} (a0 : Int32) (w : Mem) (q : Int32) (hq : f_X7_isFigure a0 = some q) : Mt G l z yX7_isFigure cX7_isFigure 1 (some .boolean) { frames := 0, cells := 0, slots := 0, locals := 0 } [.int a0] (hp G z w) n (some (.int q)) (hp G z w) n := by
  refine mt_of (by decide +kernel) (Nat.le_of_ble_eq_true rfl) ?_
  intro p e s m below meth c C hr hlk hnm
  refine (?_ : DX p l e _ s m _ below meth c G z 1 n _ (fun v => v = q) 0 [(0, .int a0)] [] w (f_X7_isFigure a0)) q hq rfl
  unfold f_X7_isFigure
  refine dx_iload_n C 0 dX7_isFigure_0 rfl rfl ?_
  refine dx_bipush (v := (48 : Int32)) C dX7_isFigure_1 (by decide) ?_
  refine dx_icmp_lt C 16 dX7_isFigure_3 (by decide) ?_ ?_
  · refine dx_iconst (v := (0 : Int32)) C dX7_isFigure_16 (by decide) ?_
    exact dx_zret1 C hr hlk (by decide) dX7_isFigure_17 (fun h => h)
  · refine dx_iload_n C 0 dX7_isFigure_6 rfl rfl ?_
    refine dx_bipush (v := (57 : Int32)) C dX7_isFigure_7 (by decide) ?_
    refine dx_icmp_gt C 16 dX7_isFigure_9 (by decide) ?_ ?_
    · refine dx_iconst (v := (0 : Int32)) C dX7_isFigure_16 (by decide) ?_
      exact dx_zret1 C hr hlk (by decide) dX7_isFigure_17 (fun h => h)
    · refine dx_iconst (v := (1 : Int32)) C dX7_isFigure_12 (by decide) ?_
      refine dx_goto C 17 dX7_isFigure_13 (by decide) ?_
      exact dx_zret1 C hr hlk (by decide) dX7_isFigure_17 (fun h => h)
def f_X7_note (a1 : Int32) (a2 : Int32) (w : Mem) : Option (Mem) :=
  (if (w 1 3) = 0 then pw 1 3 a1 w fun w1 => pw 1 4 a2 w1 fun w2 => some (w2) else some (w))
set_option maxRecDepth 20000 in
set_option maxHeartbeats 4000000 in
theorem tf_X7_note {G : GT} {l : Launch} {z n : Nat} (a1 : Int32) (a2 : Int32) (w : Mem) (q : Mem) (hq : f_X7_note a1 a2 w = some q) : Mt G l z yX7_note cX7_note 3 none { frames := 0, cells := 0, slots := 0, locals := 0 } [.ref (z + 1), .int a1, .int a2] (hp G z w) n none (hp G z q) n := by
  refine mt_of (by decide +kernel) (Nat.le_of_ble_eq_true rfl) ?_
  intro p e s m below meth c C hr hlk hnm
  refine (?_ : DX p l e _ s m _ below meth c G z 3 n _ (fun v => v = q) 0 [(0, .ref (z + 1)), (1, .int a1), (2, .int a2)] [] w (f_X7_note a1 a2 w)) q hq rfl
  unfold f_X7_note
  refine dx_aload_n C 0 dX7_note_0 rfl rfl ?_
  refine dgX7_22 C dX7_note_1 ?_
  refine dx_if_ne C 17 dX7_note_4 (by decide) ?_ ?_
  · exact dx_vret C hr hlk dX7_note_17 (fun h => h)
  · refine dx_aload_n C 0 dX7_note_7 rfl rfl ?_
    refine dx_iload_n C 1 dX7_note_8 rfl rfl ?_
    refine dpX7_22 C dX7_note_9 (fun w1 => ?_)
    refine dx_aload_n C 0 dX7_note_12 rfl rfl ?_
    refine dx_iload_n C 2 dX7_note_13 rfl rfl ?_
    refine dpX7_25 C dX7_note_14 (fun w2 => ?_)
    exact dx_vret C hr hlk dX7_note_17 (fun h => h)
def f_X7_readNumber (a1 : Int32) (a2 : Int32) (w : Mem) : Option (Int32 × Mem) :=
  (f_X7_skipBlanks w).bind fun w1 => (lp (S := (Int32 × Mem)) (T := (Int32 × Mem)) (fun s12 => (if (s12.2 1 2) < (s12.2 1 1) then (f_X7_nextLetter s12.2).bind fun r2 => (f_X7_isFigure r2).bind fun r3 => (if r3 = 0 then some (Sum.inr (s12.1, s12.2)) else ((if ((s12.2 1 2) - (w1 1 2)) < (3 : Int32) then (f_X7_nextLetter s12.2).bind fun r6 => lt (((s12.1 * (10 : Int32)) + (r6 - (48 : Int32)))) fun t7 => some (t7) else some (s12.1)) : Option Int32).bind fun v4 => pw 1 2 ((s12.2 1 2) + (1 : Int32)) s12.2 fun w5 => some (Sum.inl (v4, w5))) else some (Sum.inr (s12.1, s12.2)))) 5000000000 ((0 : Int32), w1)).bind fun v8 => ((if (v8.2 1 2) = (w1 1 2) then (f_X7_note (1 : Int32) (w1 1 2) v8.2).bind fun w13 => some (w13) else (if (3 : Int32) < ((v8.2 1 2) - (w1 1 2)) then (f_X7_note (2 : Int32) (w1 1 2) v8.2).bind fun w10 => some (w10) else (if v8.1 < a1 then (f_X7_note (2 : Int32) (w1 1 2) v8.2).bind fun w11 => some (w11) else (if a2 < v8.1 then (f_X7_note (2 : Int32) (w1 1 2) v8.2).bind fun w12 => some (w12) else some (v8.2))))) : Option Mem).bind fun v9 => some ((v8.1, v9))
set_option maxRecDepth 20000 in
set_option maxHeartbeats 4000000 in
theorem tf_X7_readNumber {G : GT} {l : Launch} {z n : Nat} (a1 : Int32) (a2 : Int32) (w : Mem) (q : Int32 × Mem) (hq : f_X7_readNumber a1 a2 w = some q) : Mt G l z yX7_readNumber cX7_readNumber 5 (some .int) { frames := 2, cells := 0, slots := 0, locals := 40 } [.ref (z + 1), .int a1, .int a2] (hp G z w) n (some (.int q.1)) (hp G z q.2) n := by
  refine mt_of (by decide +kernel) (Nat.le_of_ble_eq_true rfl) ?_
  intro p e s m below meth c C hr hlk hnm
  refine (?_ : DX p l e _ s m _ below meth c G z 5 n _ (fun v => v = q) 0 [(0, .ref (z + 1)), (1, .int a1), (2, .int a2)] [] w (f_X7_readNumber a1 a2 w)) q hq rfl
  unfold f_X7_readNumber
  refine dx_aload_n C 0 dX7_readNumber_0 rfl rfl ?_
  refine dx_callV3 C cl_X7_skipBlanks kmX7_33 (ci := 6) (b := 1) (As := []) (rest := []) rfl (hp_of ly_1) (tf_X7_skipBlanks w) rfl rfl (Nat.le_of_ble_eq_true rfl) ⟨Nat.le_of_ble_eq_true rfl, Nat.le_of_ble_eq_true rfl⟩ dX7_readNumber_1 (fun w1 => ?_)
  refine dx_aload_n C 0 dX7_readNumber_4 rfl rfl ?_
  refine dgX7_19 C dX7_readNumber_5 ?_
  refine dx_istore_n C [(3, .int (w1 1 2)), (0, .ref (z + 1)), (1, .int a1), (2, .int a2)] dX7_readNumber_8 rfl (by decide) rfl ?_
  refine dx_iconst (v := (0 : Int32)) C dX7_readNumber_9 (by decide) ?_
  refine dx_istore C [(4, .int (0 : Int32)), (3, .int (w1 1 2)), (0, .ref (z + 1)), (1, .int a1), (2, .int a2)] dX7_readNumber_10 (by decide) rfl ?_
  refine dx_mv (lo2 := [(0, .ref (z + 1)), (1, .int a1), (2, .int a2), (3, .int (w1 1 2)), (4, .int (0 : Int32))]) [2, 3, 4, 1, 0] rfl ?_
  refine dx_bind 71 (fun v8 => [(0, .ref (z + 1)), (1, .int a1), (2, .int a2), (3, .int (w1 1 2)), (4, .int v8.1)]) (fun v8 => []) (fun v8 => v8.2) (fun v8 => (?_ : DX p l e _ s m _ below meth c G z 5 n _ _ 71 [(0, .ref (z + 1)), (1, .int a1), (2, .int a2), (3, .int (w1 1 2)), (4, .int v8.1)] [] v8.2 _)) ?_
  · refine dx_aload_n C 0 dX7_readNumber_71 rfl rfl ?_
    refine dgX7_19 C dX7_readNumber_72 ?_
    refine dx_iload_n C 3 dX7_readNumber_75 rfl rfl ?_
    refine dx_bind 116 (fun v9 => [(4, .int v8.1)]) (fun v9 => []) (fun v9 => v9) (fun v9 => (?_ : DX p l e _ s m _ below meth c G z 5 n _ _ 116 [(4, .int v8.1)] [] v9 _)) ?_
    · refine dx_iload C 0 dX7_readNumber_116 rfl ?_
      exact dx_iret2 C hr hlk dX7_readNumber_118 (fun h => h)
    · refine dx_icmp_ne C 88 dX7_readNumber_76 (by decide) ?_ ?_
      · refine dx_aload_n C 0 dX7_readNumber_88 rfl rfl ?_
        refine dgX7_19 C dX7_readNumber_89 ?_
        refine dx_iload_n C 3 dX7_readNumber_92 rfl rfl ?_
        refine dx_isub C dX7_readNumber_93 ?_
        refine dx_iconst (v := (3 : Int32)) C dX7_readNumber_94 (by decide) ?_
        refine dx_icmp_gt C 110 dX7_readNumber_95 (by decide) ?_ ?_
        · refine dx_aload_n C 0 dX7_readNumber_110 rfl rfl ?_
          refine dx_iconst (v := (2 : Int32)) C dX7_readNumber_111 (by decide) ?_
          refine dx_iload_n C 3 dX7_readNumber_112 rfl rfl ?_
          refine dx_callV3 C cl_X7_note kmX7_51 (ci := 6) (b := 1) (As := [.int (2 : Int32), .int (w1 1 2)]) (rest := []) rfl (hp_of ly_1) (tf_X7_note (2 : Int32) (w1 1 2) v8.2) rfl rfl (Nat.le_of_ble_eq_true rfl) ⟨Nat.le_of_ble_eq_true rfl, Nat.le_of_ble_eq_true rfl⟩ dX7_readNumber_113 (fun w10 => ?_)
          refine dx_mv (lo2 := [(4, .int v8.1)]) [4] rfl ?_
          exact dx_end (fun h => h)
        · refine dx_iload C 4 dX7_readNumber_98 rfl ?_
          refine dx_iload_n C 1 dX7_readNumber_100 rfl rfl ?_
          refine dx_icmp_lt C 110 dX7_readNumber_101 (by decide) ?_ ?_
          · refine dx_aload_n C 0 dX7_readNumber_110 rfl rfl ?_
            refine dx_iconst (v := (2 : Int32)) C dX7_readNumber_111 (by decide) ?_
            refine dx_iload_n C 3 dX7_readNumber_112 rfl rfl ?_
            refine dx_callV3 C cl_X7_note kmX7_51 (ci := 6) (b := 1) (As := [.int (2 : Int32), .int (w1 1 2)]) (rest := []) rfl (hp_of ly_1) (tf_X7_note (2 : Int32) (w1 1 2) v8.2) rfl rfl (Nat.le_of_ble_eq_true rfl) ⟨Nat.le_of_ble_eq_true rfl, Nat.le_of_ble_eq_true rfl⟩ dX7_readNumber_113 (fun w11 => ?_)
            refine dx_mv (lo2 := [(4, .int v8.1)]) [4] rfl ?_
            exact dx_end (fun h => h)
          · refine dx_iload C 4 dX7_readNumber_104 rfl ?_
            refine dx_iload_n C 2 dX7_readNumber_106 rfl rfl ?_
            refine dx_icmp_le C 116 dX7_readNumber_107 (by decide) ?_ ?_
            · refine dx_mv (lo2 := [(4, .int v8.1)]) [4] rfl ?_
              exact dx_end (fun h => h)
            · refine dx_aload_n C 0 dX7_readNumber_110 rfl rfl ?_
              refine dx_iconst (v := (2 : Int32)) C dX7_readNumber_111 (by decide) ?_
              refine dx_iload_n C 3 dX7_readNumber_112 rfl rfl ?_
              refine dx_callV3 C cl_X7_note kmX7_51 (ci := 6) (b := 1) (As := [.int (2 : Int32), .int (w1 1 2)]) (rest := []) rfl (hp_of ly_1) (tf_X7_note (2 : Int32) (w1 1 2) v8.2) rfl rfl (Nat.le_of_ble_eq_true rfl) ⟨Nat.le_of_ble_eq_true rfl, Nat.le_of_ble_eq_true rfl⟩ dX7_readNumber_113 (fun w12 => ?_)
              refine dx_mv (lo2 := [(4, .int v8.1)]) [4] rfl ?_
              exact dx_end (fun h => h)
      · refine dx_aload_n C 0 dX7_readNumber_79 rfl rfl ?_
        refine dx_iconst (v := (1 : Int32)) C dX7_readNumber_80 (by decide) ?_
        refine dx_iload_n C 3 dX7_readNumber_81 rfl rfl ?_
        refine dx_callV3 C cl_X7_note kmX7_51 (ci := 6) (b := 1) (As := [.int (1 : Int32), .int (w1 1 2)]) (rest := []) rfl (hp_of ly_1) (tf_X7_note (1 : Int32) (w1 1 2) v8.2) rfl rfl (Nat.le_of_ble_eq_true rfl) ⟨Nat.le_of_ble_eq_true rfl, Nat.le_of_ble_eq_true rfl⟩ dX7_readNumber_82 (fun w13 => ?_)
        refine dx_goto C 116 dX7_readNumber_85 (by decide) ?_
        refine dx_mv (lo2 := [(4, .int v8.1)]) [4] rfl ?_
        exact dx_end (fun h => h)
  · refine dx_lp (fun s12 => [(0, .ref (z + 1)), (1, .int a1), (2, .int a2), (3, .int (w1 1 2)), (4, .int s12.1)]) [] (fun s12 => s12.2) (fun s12 => (?_ : DX p l e _ s m _ below meth c G z 5 n _ _ 12 [(0, .ref (z + 1)), (1, .int a1), (2, .int a2), (3, .int (w1 1 2)), (4, .int s12.1)] [] s12.2 _)) 5000000000 ((0 : Int32), w1)
    refine dx_aload_n C 0 dX7_readNumber_12 rfl rfl ?_
    refine dgX7_19 C dX7_readNumber_13 ?_
    refine dx_aload_n C 0 dX7_readNumber_16 rfl rfl ?_
    refine dgX7_15 C dX7_readNumber_17 ?_
    refine dx_icmp_ge C 71 dX7_readNumber_20 (by decide) ?_ ?_
    · exact dx_end (fun h => h)
    · refine dx_aload_n C 0 dX7_readNumber_23 rfl rfl ?_
      refine dx_callV1 C cl_X7_nextLetter kmX7_43 (ci := 6) (b := 1) (As := []) (rest := []) rfl (hp_of ly_1) (tf_X7_nextLetter s12.2) rfl rfl (Nat.le_of_ble_eq_true rfl) ⟨Nat.le_of_ble_eq_true rfl, Nat.le_of_ble_eq_true rfl⟩ dX7_readNumber_24 (fun r2 => ?_)
      refine dx_callS1 C cl_X7_isFigure kmX7_94 (As := [.int r2]) (rest := []) (tf_X7_isFigure r2 s12.2) rfl rfl (Nat.le_of_ble_eq_true rfl) ⟨Nat.le_of_ble_eq_true rfl, Nat.le_of_ble_eq_true rfl⟩ dX7_readNumber_27 (fun r3 => ?_)
      refine dx_if_eq C 71 dX7_readNumber_30 (by decide) ?_ ?_
      · exact dx_end (fun h => h)
      · refine dx_aload_n C 0 dX7_readNumber_33 rfl rfl ?_
        refine dgX7_19 C dX7_readNumber_34 ?_
        refine dx_iload_n C 3 dX7_readNumber_37 rfl rfl ?_
        refine dx_isub C dX7_readNumber_38 ?_
        refine dx_iconst (v := (3 : Int32)) C dX7_readNumber_39 (by decide) ?_
        refine dx_bind 58 (fun v4 => [(0, .ref (z + 1)), (1, .int a1), (2, .int a2), (3, .int (w1 1 2)), (4, .int v4)]) (fun v4 => []) (fun v4 => s12.2) (fun v4 => (?_ : DX p l e _ s m _ below meth c G z 5 n _ _ 58 [(0, .ref (z + 1)), (1, .int a1), (2, .int a2), (3, .int (w1 1 2)), (4, .int v4)] [] s12.2 _)) ?_
        · refine dx_aload_n C 0 dX7_readNumber_58 rfl rfl ?_
          refine dx_dup C dX7_readNumber_59 rfl ?_
          refine dgX7_19 C dX7_readNumber_60 ?_
          refine dx_iconst (v := (1 : Int32)) C dX7_readNumber_63 (by decide) ?_
          refine dx_iadd C dX7_readNumber_64 ?_
          refine dpX7_19 C dX7_readNumber_65 (fun w5 => ?_)
          refine dx_goto C 12 dX7_readNumber_68 (by decide) ?_
          exact dx_end (fun h => h)
        · refine dx_icmp_ge C 58 dX7_readNumber_40 (by decide) ?_ ?_
          · exact dx_end (fun h => h)
          · refine dx_iload C 4 dX7_readNumber_43 rfl ?_
            refine dx_bipush (v := (10 : Int32)) C dX7_readNumber_45 (by decide) ?_
            refine dx_imul C dX7_readNumber_47 ?_
            refine dx_aload_n C 0 dX7_readNumber_48 rfl rfl ?_
            refine dx_callV1 C cl_X7_nextLetter kmX7_43 (ci := 6) (b := 1) (As := []) (rest := [.int (s12.1 * (10 : Int32))]) rfl (hp_of ly_1) (tf_X7_nextLetter s12.2) rfl rfl (Nat.le_of_ble_eq_true rfl) ⟨Nat.le_of_ble_eq_true rfl, Nat.le_of_ble_eq_true rfl⟩ dX7_readNumber_49 (fun r6 => ?_)
            refine dx_bipush (v := (48 : Int32)) C dX7_readNumber_52 (by decide) ?_
            refine dx_isub C dX7_readNumber_54 ?_
            refine dx_iadd C dX7_readNumber_55 ?_
            refine dx_lt (fun t7 => ?_)
            refine dx_istore C [(4, .int t7), (0, .ref (z + 1)), (1, .int a1), (2, .int a2), (3, .int (w1 1 2))] dX7_readNumber_56 (by decide) rfl ?_
            refine dx_mv (lo2 := [(0, .ref (z + 1)), (1, .int a1), (2, .int a2), (3, .int (w1 1 2)), (4, .int t7)]) [1, 2, 3, 4, 0] rfl ?_
            exact dx_end (fun h => h)
def f_X7_readEnd (w : Mem) : Option (Int32 × Mem) :=
  (f_X7_skipBlanks w).bind fun w1 => (f_X7_nextLetter w1).bind fun r2 => ((if r2 = (59 : Int32) then some (w1) else (f_X7_note (1 : Int32) (w1 1 2) w1).bind fun w5 => some (w5)) : Option Mem).bind fun v3 => pw 1 2 ((v3 1 2) + (1 : Int32)) v3 fun w4 => (if (w4 1 3) = 0 then some (((1 : Int32), w4)) else some (((0 : Int32), w4)))
set_option maxRecDepth 20000 in
set_option maxHeartbeats 4000000 in
theorem tf_X7_readEnd {G : GT} {l : Launch} {z n : Nat} (w : Mem) (q : Int32 × Mem) (hq : f_X7_readEnd w = some q) : Mt G l z yX7_readEnd cX7_readEnd 1 (some .boolean) { frames := 2, cells := 0, slots := 0, locals := 40 } [.ref (z + 1)] (hp G z w) n (some (.int q.1)) (hp G z q.2) n := by
  refine mt_of (by decide +kernel) (Nat.le_of_ble_eq_true rfl) ?_
  intro p e s m below meth c C hr hlk hnm
  refine (?_ : DX p l e _ s m _ below meth c G z 1 n _ (fun v => v = q) 0 [(0, .ref (z + 1))] [] w (f_X7_readEnd w)) q hq rfl
  unfold f_X7_readEnd
  refine dx_aload_n C 0 dX7_readEnd_0 rfl rfl ?_
  refine dx_callV3 C cl_X7_skipBlanks kmX7_33 (ci := 6) (b := 1) (As := []) (rest := []) rfl (hp_of ly_1) (tf_X7_skipBlanks w) rfl rfl (Nat.le_of_ble_eq_true rfl) ⟨Nat.le_of_ble_eq_true rfl, Nat.le_of_ble_eq_true rfl⟩ dX7_readEnd_1 (fun w1 => ?_)
  refine dx_aload_n C 0 dX7_readEnd_4 rfl rfl ?_
  refine dx_callV1 C cl_X7_nextLetter kmX7_43 (ci := 6) (b := 1) (As := []) (rest := []) rfl (hp_of ly_1) (tf_X7_nextLetter w1) rfl rfl (Nat.le_of_ble_eq_true rfl) ⟨Nat.le_of_ble_eq_true rfl, Nat.le_of_ble_eq_true rfl⟩ dX7_readEnd_5 (fun r2 => ?_)
  refine dx_bipush (v := (59 : Int32)) C dX7_readEnd_8 (by decide) ?_
  refine dx_bind 22 (fun v3 => [(0, .ref (z + 1))]) (fun v3 => []) (fun v3 => v3) (fun v3 => (?_ : DX p l e _ s m _ below meth c G z 1 n _ _ 22 [(0, .ref (z + 1))] [] v3 _)) ?_
  · refine dx_aload_n C 0 dX7_readEnd_22 rfl rfl ?_
    refine dx_dup C dX7_readEnd_23 rfl ?_
    refine dgX7_19 C dX7_readEnd_24 ?_
    refine dx_iconst (v := (1 : Int32)) C dX7_readEnd_27 (by decide) ?_
    refine dx_iadd C dX7_readEnd_28 ?_
    refine dpX7_19 C dX7_readEnd_29 (fun w4 => ?_)
    refine dx_aload_n C 0 dX7_readEnd_32 rfl rfl ?_
    refine dgX7_22 C dX7_readEnd_33 ?_
    refine dx_if_ne C 43 dX7_readEnd_36 (by decide) ?_ ?_
    · refine dx_iconst (v := (0 : Int32)) C dX7_readEnd_43 (by decide) ?_
      exact dx_zret2 C hr hlk (by decide) dX7_readEnd_44 (fun h => h)
    · refine dx_iconst (v := (1 : Int32)) C dX7_readEnd_39 (by decide) ?_
      refine dx_goto C 44 dX7_readEnd_40 (by decide) ?_
      exact dx_zret2 C hr hlk (by decide) dX7_readEnd_44 (fun h => h)
  · refine dx_icmp_eq C 22 dX7_readEnd_10 (by decide) ?_ ?_
    · exact dx_end (fun h => h)
    · refine dx_aload_n C 0 dX7_readEnd_13 rfl rfl ?_
      refine dx_iconst (v := (1 : Int32)) C dX7_readEnd_14 (by decide) ?_
      refine dx_aload_n C 0 dX7_readEnd_15 rfl rfl ?_
      refine dgX7_19 C dX7_readEnd_16 ?_
      refine dx_callV3 C cl_X7_note kmX7_51 (ci := 6) (b := 1) (As := [.int (1 : Int32), .int (w1 1 2)]) (rest := []) rfl (hp_of ly_1) (tf_X7_note (1 : Int32) (w1 1 2) w1) rfl rfl (Nat.le_of_ble_eq_true rfl) ⟨Nat.le_of_ble_eq_true rfl, Nat.le_of_ble_eq_true rfl⟩ dX7_readEnd_19 (fun w5 => ?_)
      exact dx_end (fun h => h)
def f_X1_addTraveller (b0 : Nat) (a1 : Int32) (a2 : Int32) (a3 : Int32) (w : Mem) : Option (Mem) :=
  (if (w b0 3) < (6 : Int32) then wr 6 (b0 + 3) (w b0 3) a1 w fun w1 => wr 6 (b0 + 4) (w1 b0 3) a2 w1 fun w2 => wr 6 (b0 + 5) (w2 b0 3) a3 w2 fun w3 => pw b0 3 ((w3 b0 3) + (1 : Int32)) w3 fun w4 => some (w4) else some (w))
set_option maxRecDepth 20000 in
set_option maxHeartbeats 4000000 in
theorem tf_X1_addTraveller {G : GT} {l : Launch} {z n : Nat} (b0 : Nat) (hb0 : BrO b0) (a1 : Int32) (a2 : Int32) (a3 : Int32) (w : Mem) (q : Mem) (hq : f_X1_addTraveller b0 a1 a2 a3 w = some q) : Mt G l z yX1_addTraveller cX1_addTraveller 4 none { frames := 0, cells := 0, slots := 0, locals := 0 } [.ref (z + b0), .int a1, .int a2, .int a3] (hp G z w) n none (hp G z q) n := by
  refine mt_of (by decide +kernel) (Nat.le_of_ble_eq_true rfl) ?_
  intro p e s m below meth c C hr hlk hnm
  refine (?_ : DX p l e _ s m _ below meth c G z 4 n _ (fun v => v = q) 0 [(0, .ref (z + b0)), (1, .int a1), (2, .int a2), (3, .int a3)] [] w (f_X1_addTraveller b0 a1 a2 a3 w)) q hq rfl
  unfold f_X1_addTraveller
  refine dx_aload_n C 0 dX1_addTraveller_0 rfl rfl ?_
  refine dgX1_21 C hb0 dX1_addTraveller_1 ?_
  refine dx_bipush (v := (6 : Int32)) C dX1_addTraveller_4 (by decide) ?_
  refine dx_icmp_ge C 49 dX1_addTraveller_6 (by decide) ?_ ?_
  · exact dx_vret C hr hlk dX1_addTraveller_49 (fun h => h)
  · refine dx_aload_n C 0 dX1_addTraveller_9 rfl rfl ?_
    refine dgX1_31 C hb0 dX1_addTraveller_10 ?_
    refine dx_aload_n C 0 dX1_addTraveller_13 rfl rfl ?_
    refine dgX1_21 C hb0 dX1_addTraveller_14 ?_
    refine dx_iload_n C 1 dX1_addTraveller_17 rfl rfl ?_
    refine dx_wr C (lyBr3 hb0) dX1_addTraveller_18 (fun w1 => ?_)
    refine dx_aload_n C 0 dX1_addTraveller_19 rfl rfl ?_
    refine dgX1_34 C hb0 dX1_addTraveller_20 ?_
    refine dx_aload_n C 0 dX1_addTraveller_23 rfl rfl ?_
    refine dgX1_21 C hb0 dX1_addTraveller_24 ?_
    refine dx_iload_n C 2 dX1_addTraveller_27 rfl rfl ?_
    refine dx_wr C (lyBr4 hb0) dX1_addTraveller_28 (fun w2 => ?_)
    refine dx_aload_n C 0 dX1_addTraveller_29 rfl rfl ?_
    refine dgX1_37 C hb0 dX1_addTraveller_30 ?_
    refine dx_aload_n C 0 dX1_addTraveller_33 rfl rfl ?_
    refine dgX1_21 C hb0 dX1_addTraveller_34 ?_
    refine dx_iload_n C 3 dX1_addTraveller_37 rfl rfl ?_
    refine dx_wr C (lyBr5 hb0) dX1_addTraveller_38 (fun w3 => ?_)
    refine dx_aload_n C 0 dX1_addTraveller_39 rfl rfl ?_
    refine dx_dup C dX1_addTraveller_40 rfl ?_
    refine dgX1_21 C hb0 dX1_addTraveller_41 ?_
    refine dx_iconst (v := (1 : Int32)) C dX1_addTraveller_44 (by decide) ?_
    refine dx_iadd C dX1_addTraveller_45 ?_
    refine dpX1_21 C hb0 dX1_addTraveller_46 (fun w4 => ?_)
    exact dx_vret C hr hlk dX1_addTraveller_49 (fun h => h)
def f_X7_readTraveller (b1 : Nat) (w : Mem) : Option (Mem) :=
  (f_X7_readNumber (0 : Int32) (4 : Int32) w).bind fun q1 => (f_X7_readNumber (0 : Int32) (9 : Int32) q1.2).bind fun q2 => (f_X7_readNumber (0 : Int32) (255 : Int32) q2.2).bind fun q3 => (f_X7_readEnd q3.2).bind fun q4 => (if q4.1 = 0 then some (q4.2) else (f_X1_addTraveller b1 q1.1 q2.1 q3.1 q4.2).bind fun w5 => some (w5))
set_option maxRecDepth 20000 in
set_option maxHeartbeats 4000000 in
theorem tf_X7_readTraveller {G : GT} {l : Launch} {z n : Nat} (b1 : Nat) (hb1 : BrO b1) (w : Mem) (q : Mem) (hq : f_X7_readTraveller b1 w = some q) : Mt G l z yX7_readTraveller cX7_readTraveller 5 none { frames := 3, cells := 0, slots := 0, locals := 64 } [.ref (z + 1), .ref (z + b1)] (hp G z w) n none (hp G z q) n := by
  refine mt_of (by decide +kernel) (Nat.le_of_ble_eq_true rfl) ?_
  intro p e s m below meth c C hr hlk hnm
  refine (?_ : DX p l e _ s m _ below meth c G z 5 n _ (fun v => v = q) 0 [(0, .ref (z + 1)), (1, .ref (z + b1))] [] w (f_X7_readTraveller b1 w)) q hq rfl
  unfold f_X7_readTraveller
  refine dx_aload_n C 0 dX7_readTraveller_0 rfl rfl ?_
  refine dx_iconst (v := (0 : Int32)) C dX7_readTraveller_1 (by decide) ?_
  refine dx_iconst (v := (4 : Int32)) C dX7_readTraveller_2 (by decide) ?_
  refine dx_callV2 C cl_X7_readNumber kmX7_74 (ci := 6) (b := 1) (As := [.int (0 : Int32), .int (4 : Int32)]) (rest := []) rfl (hp_of ly_1) (tf_X7_readNumber (0 : Int32) (4 : Int32) w) rfl rfl (Nat.le_of_ble_eq_true rfl) ⟨Nat.le_of_ble_eq_true rfl, Nat.le_of_ble_eq_true rfl⟩ dX7_readTraveller_3 (fun q1 => ?_)
  refine dx_istore_n C [(2, .int q1.1), (0, .ref (z + 1)), (1, .ref (z + b1))] dX7_readTraveller_6 rfl (by decide) rfl ?_
  refine dx_aload_n C 1 dX7_readTraveller_7 rfl rfl ?_
  refine dx_iconst (v := (0 : Int32)) C dX7_readTraveller_8 (by decide) ?_
  refine dx_bipush (v := (9 : Int32)) C dX7_readTraveller_9 (by decide) ?_
  refine dx_callV2 C cl_X7_readNumber kmX7_74 (ci := 6) (b := 1) (As := [.int (0 : Int32), .int (9 : Int32)]) (rest := []) rfl (hp_of ly_1) (tf_X7_readNumber (0 : Int32) (9 : Int32) q1.2) rfl rfl (Nat.le_of_ble_eq_true rfl) ⟨Nat.le_of_ble_eq_true rfl, Nat.le_of_ble_eq_true rfl⟩ dX7_readTraveller_11 (fun q2 => ?_)
  refine dx_istore_n C [(3, .int q2.1), (2, .int q1.1), (0, .ref (z + 1)), (1, .ref (z + b1))] dX7_readTraveller_14 rfl (by decide) rfl ?_
  refine dx_aload_n C 2 dX7_readTraveller_15 rfl rfl ?_
  refine dx_iconst (v := (0 : Int32)) C dX7_readTraveller_16 (by decide) ?_
  refine dx_sipush (v := (255 : Int32)) C dX7_readTraveller_17 (by decide) ?_
  refine dx_callV2 C cl_X7_readNumber kmX7_74 (ci := 6) (b := 1) (As := [.int (0 : Int32), .int (255 : Int32)]) (rest := []) rfl (hp_of ly_1) (tf_X7_readNumber (0 : Int32) (255 : Int32) q2.2) rfl rfl (Nat.le_of_ble_eq_true rfl) ⟨Nat.le_of_ble_eq_true rfl, Nat.le_of_ble_eq_true rfl⟩ dX7_readTraveller_20 (fun q3 => ?_)
  refine dx_istore C [(4, .int q3.1), (3, .int q2.1), (2, .int q1.1), (0, .ref (z + 1)), (1, .ref (z + b1))] dX7_readTraveller_23 (by decide) rfl ?_
  refine dx_aload_n C 3 dX7_readTraveller_25 rfl rfl ?_
  refine dx_callV2 C cl_X7_readEnd kmX7_78 (ci := 6) (b := 1) (As := []) (rest := []) rfl (hp_of ly_1) (tf_X7_readEnd q3.2) rfl rfl (Nat.le_of_ble_eq_true rfl) ⟨Nat.le_of_ble_eq_true rfl, Nat.le_of_ble_eq_true rfl⟩ dX7_readTraveller_26 (fun q4 => ?_)
  refine dx_if_eq C 40 dX7_readTraveller_29 (by decide) ?_ ?_
  · exact dx_vret C hr hlk dX7_readTraveller_40 (fun h => h)
  · refine dx_aload_n C 4 dX7_readTraveller_32 rfl rfl ?_
    refine dx_iload_n C 2 dX7_readTraveller_33 rfl rfl ?_
    refine dx_iload_n C 1 dX7_readTraveller_34 rfl rfl ?_
    refine dx_iload C 0 dX7_readTraveller_35 rfl ?_
    refine dx_callV3 C cl_X1_addTraveller kmX7_90 (ci := 0) (b := b1) (As := [.int q1.1, .int q2.1, .int q3.1]) (rest := []) rfl (hp_of (lyBr0 hb1)) (tf_X1_addTraveller b1 hb1 q1.1 q2.1 q3.1 q4.2) rfl rfl (Nat.le_of_ble_eq_true rfl) ⟨Nat.le_of_ble_eq_true rfl, Nat.le_of_ble_eq_true rfl⟩ dX7_readTraveller_37 (fun w5 => ?_)
    exact dx_vret C hr hlk dX7_readTraveller_40 (fun h => h)
def f_X1_addMatter (b0 : Nat) (a1 : Int32) (a2 : Int32) (w : Mem) : Option (Mem) :=
  (if (w b0 2) < (8 : Int32) then wr 8 (b0 + 1) (w b0 2) a1 w fun w1 => wr 8 (b0 + 2) (w1 b0 2) a2 w1 fun w2 => pw b0 2 ((w2 b0 2) + (1 : Int32)) w2 fun w3 => some (w3) else some (w))
set_option maxRecDepth 20000 in
set_option maxHeartbeats 4000000 in
theorem tf_X1_addMatter {G : GT} {l : Launch} {z n : Nat} (b0 : Nat) (hb0 : BrO b0) (a1 : Int32) (a2 : Int32) (w : Mem) (q : Mem) (hq : f_X1_addMatter b0 a1 a2 w = some q) : Mt G l z yX1_addMatter cX1_addMatter 3 none { frames := 0, cells := 0, slots := 0, locals := 0 } [.ref (z + b0), .int a1, .int a2] (hp G z w) n none (hp G z q) n := by
  refine mt_of (by decide +kernel) (Nat.le_of_ble_eq_true rfl) ?_
  intro p e s m below meth c C hr hlk hnm
  refine (?_ : DX p l e _ s m _ below meth c G z 3 n _ (fun v => v = q) 0 [(0, .ref (z + b0)), (1, .int a1), (2, .int a2)] [] w (f_X1_addMatter b0 a1 a2 w)) q hq rfl
  unfold f_X1_addMatter
  refine dx_aload_n C 0 dX1_addMatter_0 rfl rfl ?_
  refine dgX1_18 C hb0 dX1_addMatter_1 ?_
  refine dx_bipush (v := (8 : Int32)) C dX1_addMatter_4 (by decide) ?_
  refine dx_icmp_ge C 39 dX1_addMatter_6 (by decide) ?_ ?_
  · exact dx_vret C hr hlk dX1_addMatter_39 (fun h => h)
  · refine dx_aload_n C 0 dX1_addMatter_9 rfl rfl ?_
    refine dgX1_24 C hb0 dX1_addMatter_10 ?_
    refine dx_aload_n C 0 dX1_addMatter_13 rfl rfl ?_
    refine dgX1_18 C hb0 dX1_addMatter_14 ?_
    refine dx_iload_n C 1 dX1_addMatter_17 rfl rfl ?_
    refine dx_wr C (lyBr1 hb0) dX1_addMatter_18 (fun w1 => ?_)
    refine dx_aload_n C 0 dX1_addMatter_19 rfl rfl ?_
    refine dgX1_28 C hb0 dX1_addMatter_20 ?_
    refine dx_aload_n C 0 dX1_addMatter_23 rfl rfl ?_
    refine dgX1_18 C hb0 dX1_addMatter_24 ?_
    refine dx_iload_n C 2 dX1_addMatter_27 rfl rfl ?_
    refine dx_wr C (lyBr2 hb0) dX1_addMatter_28 (fun w2 => ?_)
    refine dx_aload_n C 0 dX1_addMatter_29 rfl rfl ?_
    refine dx_dup C dX1_addMatter_30 rfl ?_
    refine dgX1_18 C hb0 dX1_addMatter_31 ?_
    refine dx_iconst (v := (1 : Int32)) C dX1_addMatter_34 (by decide) ?_
    refine dx_iadd C dX1_addMatter_35 ?_
    refine dpX1_18 C hb0 dX1_addMatter_36 (fun w3 => ?_)
    exact dx_vret C hr hlk dX1_addMatter_39 (fun h => h)
def f_X7_readMatter (b1 : Nat) (w : Mem) : Option (Mem) :=
  (f_X7_readNumber (1 : Int32) (60 : Int32) w).bind fun q1 => (f_X7_readNumber (0 : Int32) (255 : Int32) q1.2).bind fun q2 => (f_X7_readEnd q2.2).bind fun q3 => (if q3.1 = 0 then some (q3.2) else (f_X1_addMatter b1 q1.1 q2.1 q3.2).bind fun w4 => some (w4))
set_option maxRecDepth 20000 in
set_option maxHeartbeats 4000000 in
theorem tf_X7_readMatter {G : GT} {l : Launch} {z n : Nat} (b1 : Nat) (hb1 : BrO b1) (w : Mem) (q : Mem) (hq : f_X7_readMatter b1 w = some q) : Mt G l z yX7_readMatter cX7_readMatter 4 none { frames := 3, cells := 0, slots := 0, locals := 64 } [.ref (z + 1), .ref (z + b1)] (hp G z w) n none (hp G z q) n := by
  refine mt_of (by decide +kernel) (Nat.le_of_ble_eq_true rfl) ?_
  intro p e s m below meth c C hr hlk hnm
  refine (?_ : DX p l e _ s m _ below meth c G z 4 n _ (fun v => v = q) 0 [(0, .ref (z + 1)), (1, .ref (z + b1))] [] w (f_X7_readMatter b1 w)) q hq rfl
  unfold f_X7_readMatter
  refine dx_aload_n C 0 dX7_readMatter_0 rfl rfl ?_
  refine dx_iconst (v := (1 : Int32)) C dX7_readMatter_1 (by decide) ?_
  refine dx_bipush (v := (60 : Int32)) C dX7_readMatter_2 (by decide) ?_
  refine dx_callV2 C cl_X7_readNumber kmX7_74 (ci := 6) (b := 1) (As := [.int (1 : Int32), .int (60 : Int32)]) (rest := []) rfl (hp_of ly_1) (tf_X7_readNumber (1 : Int32) (60 : Int32) w) rfl rfl (Nat.le_of_ble_eq_true rfl) ⟨Nat.le_of_ble_eq_true rfl, Nat.le_of_ble_eq_true rfl⟩ dX7_readMatter_4 (fun q1 => ?_)
  refine dx_istore_n C [(2, .int q1.1), (0, .ref (z + 1)), (1, .ref (z + b1))] dX7_readMatter_7 rfl (by decide) rfl ?_
  refine dx_aload_n C 1 dX7_readMatter_8 rfl rfl ?_
  refine dx_iconst (v := (0 : Int32)) C dX7_readMatter_9 (by decide) ?_
  refine dx_sipush (v := (255 : Int32)) C dX7_readMatter_10 (by decide) ?_
  refine dx_callV2 C cl_X7_readNumber kmX7_74 (ci := 6) (b := 1) (As := [.int (0 : Int32), .int (255 : Int32)]) (rest := []) rfl (hp_of ly_1) (tf_X7_readNumber (0 : Int32) (255 : Int32) q1.2) rfl rfl (Nat.le_of_ble_eq_true rfl) ⟨Nat.le_of_ble_eq_true rfl, Nat.le_of_ble_eq_true rfl⟩ dX7_readMatter_13 (fun q2 => ?_)
  refine dx_istore_n C [(3, .int q2.1), (2, .int q1.1), (0, .ref (z + 1)), (1, .ref (z + b1))] dX7_readMatter_16 rfl (by decide) rfl ?_
  refine dx_aload_n C 2 dX7_readMatter_17 rfl rfl ?_
  refine dx_callV2 C cl_X7_readEnd kmX7_78 (ci := 6) (b := 1) (As := []) (rest := []) rfl (hp_of ly_1) (tf_X7_readEnd q2.2) rfl rfl (Nat.le_of_ble_eq_true rfl) ⟨Nat.le_of_ble_eq_true rfl, Nat.le_of_ble_eq_true rfl⟩ dX7_readMatter_18 (fun q3 => ?_)
  refine dx_if_eq C 30 dX7_readMatter_21 (by decide) ?_ ?_
  · exact dx_vret C hr hlk dX7_readMatter_30 (fun h => h)
  · refine dx_aload_n C 3 dX7_readMatter_24 rfl rfl ?_
    refine dx_iload_n C 1 dX7_readMatter_25 rfl rfl ?_
    refine dx_iload_n C 0 dX7_readMatter_26 rfl rfl ?_
    refine dx_callV3 C cl_X1_addMatter kmX7_87 (ci := 0) (b := b1) (As := [.int q1.1, .int q2.1]) (rest := []) rfl (hp_of (lyBr0 hb1)) (tf_X1_addMatter b1 hb1 q1.1 q2.1 q3.2) rfl rfl (Nat.le_of_ble_eq_true rfl) ⟨Nat.le_of_ble_eq_true rfl, Nat.le_of_ble_eq_true rfl⟩ dX7_readMatter_27 (fun w4 => ?_)
    exact dx_vret C hr hlk dX7_readMatter_30 (fun h => h)
def f_X7_readRate (b1 : Nat) (w : Mem) : Option (Mem) :=
  (f_X7_readNumber (1 : Int32) (60 : Int32) w).bind fun q1 => (f_X7_readNumber (1 : Int32) (9 : Int32) q1.2).bind fun q2 => (f_X7_readEnd q2.2).bind fun q3 => (if q3.1 = 0 then some (q3.2) else pw b1 0 q1.1 q3.2 fun w4 => pw b1 1 q2.1 w4 fun w5 => some (w5))
set_option maxRecDepth 20000 in
set_option maxHeartbeats 4000000 in
theorem tf_X7_readRate {G : GT} {l : Launch} {z n : Nat} (b1 : Nat) (hb1 : BrO b1) (w : Mem) (q : Mem) (hq : f_X7_readRate b1 w = some q) : Mt G l z yX7_readRate cX7_readRate 4 none { frames := 3, cells := 0, slots := 0, locals := 64 } [.ref (z + 1), .ref (z + b1)] (hp G z w) n none (hp G z q) n := by
  refine mt_of (by decide +kernel) (Nat.le_of_ble_eq_true rfl) ?_
  intro p e s m below meth c C hr hlk hnm
  refine (?_ : DX p l e _ s m _ below meth c G z 4 n _ (fun v => v = q) 0 [(0, .ref (z + 1)), (1, .ref (z + b1))] [] w (f_X7_readRate b1 w)) q hq rfl
  unfold f_X7_readRate
  refine dx_aload_n C 0 dX7_readRate_0 rfl rfl ?_
  refine dx_iconst (v := (1 : Int32)) C dX7_readRate_1 (by decide) ?_
  refine dx_bipush (v := (60 : Int32)) C dX7_readRate_2 (by decide) ?_
  refine dx_callV2 C cl_X7_readNumber kmX7_74 (ci := 6) (b := 1) (As := [.int (1 : Int32), .int (60 : Int32)]) (rest := []) rfl (hp_of ly_1) (tf_X7_readNumber (1 : Int32) (60 : Int32) w) rfl rfl (Nat.le_of_ble_eq_true rfl) ⟨Nat.le_of_ble_eq_true rfl, Nat.le_of_ble_eq_true rfl⟩ dX7_readRate_4 (fun q1 => ?_)
  refine dx_istore_n C [(2, .int q1.1), (0, .ref (z + 1)), (1, .ref (z + b1))] dX7_readRate_7 rfl (by decide) rfl ?_
  refine dx_aload_n C 1 dX7_readRate_8 rfl rfl ?_
  refine dx_iconst (v := (1 : Int32)) C dX7_readRate_9 (by decide) ?_
  refine dx_bipush (v := (9 : Int32)) C dX7_readRate_10 (by decide) ?_
  refine dx_callV2 C cl_X7_readNumber kmX7_74 (ci := 6) (b := 1) (As := [.int (1 : Int32), .int (9 : Int32)]) (rest := []) rfl (hp_of ly_1) (tf_X7_readNumber (1 : Int32) (9 : Int32) q1.2) rfl rfl (Nat.le_of_ble_eq_true rfl) ⟨Nat.le_of_ble_eq_true rfl, Nat.le_of_ble_eq_true rfl⟩ dX7_readRate_12 (fun q2 => ?_)
  refine dx_istore_n C [(3, .int q2.1), (2, .int q1.1), (0, .ref (z + 1)), (1, .ref (z + b1))] dX7_readRate_15 rfl (by decide) rfl ?_
  refine dx_aload_n C 2 dX7_readRate_16 rfl rfl ?_
  refine dx_callV2 C cl_X7_readEnd kmX7_78 (ci := 6) (b := 1) (As := []) (rest := []) rfl (hp_of ly_1) (tf_X7_readEnd q2.2) rfl rfl (Nat.le_of_ble_eq_true rfl) ⟨Nat.le_of_ble_eq_true rfl, Nat.le_of_ble_eq_true rfl⟩ dX7_readRate_17 (fun q3 => ?_)
  refine dx_if_eq C 33 dX7_readRate_20 (by decide) ?_ ?_
  · exact dx_vret C hr hlk dX7_readRate_33 (fun h => h)
  · refine dx_aload_n C 3 dX7_readRate_23 rfl rfl ?_
    refine dx_iload_n C 1 dX7_readRate_24 rfl rfl ?_
    refine dpX7_81 C hb1 dX7_readRate_25 (fun w4 => ?_)
    refine dx_aload_n C 3 dX7_readRate_28 rfl rfl ?_
    refine dx_iload_n C 0 dX7_readRate_29 rfl rfl ?_
    refine dpX7_84 C hb1 dX7_readRate_30 (fun w5 => ?_)
    exact dx_vret C hr hlk dX7_readRate_33 (fun h => h)
def f_X7_readClause (b1 : Nat) (w : Mem) : Option (Mem) :=
  (f_X7_nextLetter w).bind fun r1 => (f_X7_faultOfWord b1 r1 w).bind fun r2 => (if r2 = 0 then pw 1 2 ((w 1 2) + (1 : Int32)) w fun w3 => (if r1 = (107 : Int32) then (f_X7_readRate b1 w3).bind fun w6 => some (w6) else (if r1 = (109 : Int32) then (f_X7_readMatter b1 w3).bind fun w5 => some (w5) else (f_X7_readTraveller b1 w3).bind fun w4 => some (w4))) else (f_X7_note r2 (w 1 2) w).bind fun w7 => some (w7))
set_option maxRecDepth 20000 in
set_option maxHeartbeats 4000000 in
theorem tf_X7_readClause {G : GT} {l : Launch} {z n : Nat} (b1 : Nat) (hb1 : BrO b1) (w : Mem) (q : Mem) (hq : f_X7_readClause b1 w = some q) : Mt G l z yX7_readClause cX7_readClause 4 none { frames := 4, cells := 0, slots := 0, locals := 88 } [.ref (z + 1), .ref (z + b1)] (hp G z w) n none (hp G z q) n := by
  refine mt_of (by decide +kernel) (Nat.le_of_ble_eq_true rfl) ?_
  intro p e s m below meth c C hr hlk hnm
  refine (?_ : DX p l e _ s m _ below meth c G z 4 n _ (fun v => v = q) 0 [(0, .ref (z + 1)), (1, .ref (z + b1))] [] w (f_X7_readClause b1 w)) q hq rfl
  unfold f_X7_readClause
  refine dx_aload_n C 0 dX7_readClause_0 rfl rfl ?_
  refine dx_callV1 C cl_X7_nextLetter kmX7_43 (ci := 6) (b := 1) (As := []) (rest := []) rfl (hp_of ly_1) (tf_X7_nextLetter w) rfl rfl (Nat.le_of_ble_eq_true rfl) ⟨Nat.le_of_ble_eq_true rfl, Nat.le_of_ble_eq_true rfl⟩ dX7_readClause_1 (fun r1 => ?_)
  refine dx_istore_n C [(2, .int r1), (0, .ref (z + 1)), (1, .ref (z + b1))] dX7_readClause_4 rfl (by decide) rfl ?_
  refine dx_aload_n C 2 dX7_readClause_5 rfl rfl ?_
  refine dx_iload_n C 0 dX7_readClause_6 rfl rfl ?_
  refine dx_callS1 C cl_X7_faultOfWord kmX7_47 (As := [.ref (z + b1), .int r1]) (rest := []) (tf_X7_faultOfWord b1 hb1 r1 w) rfl rfl (Nat.le_of_ble_eq_true rfl) ⟨Nat.le_of_ble_eq_true rfl, Nat.le_of_ble_eq_true rfl⟩ dX7_readClause_7 (fun r2 => ?_)
  refine dx_istore_n C [(3, .int r2), (2, .int r1), (0, .ref (z + 1)), (1, .ref (z + b1))] dX7_readClause_10 rfl (by decide) rfl ?_
  refine dx_iload_n C 0 dX7_readClause_11 rfl rfl ?_
  refine dx_if_eq C 25 dX7_readClause_12 (by decide) ?_ ?_
  · refine dx_aload_n C 2 dX7_readClause_25 rfl rfl ?_
    refine dx_dup C dX7_readClause_26 rfl ?_
    refine dgX7_19 C dX7_readClause_27 ?_
    refine dx_iconst (v := (1 : Int32)) C dX7_readClause_30 (by decide) ?_
    refine dx_iadd C dX7_readClause_31 ?_
    refine dpX7_19 C dX7_readClause_32 (fun w3 => ?_)
    refine dx_iload_n C 1 dX7_readClause_35 rfl rfl ?_
    refine dx_bipush (v := (107 : Int32)) C dX7_readClause_36 (by decide) ?_
    refine dx_icmp_ne C 49 dX7_readClause_38 (by decide) ?_ ?_
    · refine dx_iload_n C 1 dX7_readClause_49 rfl rfl ?_
      refine dx_bipush (v := (109 : Int32)) C dX7_readClause_50 (by decide) ?_
      refine dx_icmp_ne C 63 dX7_readClause_52 (by decide) ?_ ?_
      · refine dx_aload_n C 2 dX7_readClause_63 rfl rfl ?_
        refine dx_aload_n C 3 dX7_readClause_64 rfl rfl ?_
        refine dx_callV3 C cl_X7_readTraveller kmX7_61 (ci := 6) (b := 1) (As := [.ref (z + b1)]) (rest := []) rfl (hp_of ly_1) (tf_X7_readTraveller b1 hb1 w3) rfl rfl (Nat.le_of_ble_eq_true rfl) ⟨Nat.le_of_ble_eq_true rfl, Nat.le_of_ble_eq_true rfl⟩ dX7_readClause_65 (fun w4 => ?_)
        exact dx_vret C hr hlk dX7_readClause_68 (fun h => h)
      · refine dx_aload_n C 2 dX7_readClause_55 rfl rfl ?_
        refine dx_aload_n C 3 dX7_readClause_56 rfl rfl ?_
        refine dx_callV3 C cl_X7_readMatter kmX7_58 (ci := 6) (b := 1) (As := [.ref (z + b1)]) (rest := []) rfl (hp_of ly_1) (tf_X7_readMatter b1 hb1 w3) rfl rfl (Nat.le_of_ble_eq_true rfl) ⟨Nat.le_of_ble_eq_true rfl, Nat.le_of_ble_eq_true rfl⟩ dX7_readClause_57 (fun w5 => ?_)
        refine dx_goto C 68 dX7_readClause_60 (by decide) ?_
        exact dx_vret C hr hlk dX7_readClause_68 (fun h => h)
    · refine dx_aload_n C 2 dX7_readClause_41 rfl rfl ?_
      refine dx_aload_n C 3 dX7_readClause_42 rfl rfl ?_
      refine dx_callV3 C cl_X7_readRate kmX7_55 (ci := 6) (b := 1) (As := [.ref (z + b1)]) (rest := []) rfl (hp_of ly_1) (tf_X7_readRate b1 hb1 w3) rfl rfl (Nat.le_of_ble_eq_true rfl) ⟨Nat.le_of_ble_eq_true rfl, Nat.le_of_ble_eq_true rfl⟩ dX7_readClause_43 (fun w6 => ?_)
      refine dx_goto C 68 dX7_readClause_46 (by decide) ?_
      exact dx_vret C hr hlk dX7_readClause_68 (fun h => h)
  · refine dx_aload_n C 2 dX7_readClause_15 rfl rfl ?_
    refine dx_iload_n C 0 dX7_readClause_16 rfl rfl ?_
    refine dx_aload_n C 2 dX7_readClause_17 rfl rfl ?_
    refine dgX7_19 C dX7_readClause_18 ?_
    refine dx_callV3 C cl_X7_note kmX7_51 (ci := 6) (b := 1) (As := [.int r2, .int (w 1 2)]) (rest := []) rfl (hp_of ly_1) (tf_X7_note r2 (w 1 2) w) rfl rfl (Nat.le_of_ble_eq_true rfl) ⟨Nat.le_of_ble_eq_true rfl, Nat.le_of_ble_eq_true rfl⟩ dX7_readClause_21 (fun w7 => ?_)
    exact dx_vret C hr hlk dX7_readClause_24 (fun h => h)
def f_X9_setOfFirst (a0 : Int32) : Option (Int32) :=
  some ((((1 : Int32) <<< (a0 &&& 31)) - (1 : Int32)))
set_option maxRecDepth 20000 in
set_option maxHeartbeats 4000000 in
theorem tf_X9_setOfFirst {G : GT} {l : Launch} {z n : Nat} (a0 : Int32) (w : Mem) (q : Int32) (hq : f_X9_setOfFirst a0 = some q) : Mt G l z yX9_setOfFirst cX9_setOfFirst 1 (some .int) { frames := 0, cells := 0, slots := 0, locals := 0 } [.int a0] (hp G z w) n (some (.int q)) (hp G z w) n := by
  refine mt_of (by decide +kernel) (Nat.le_of_ble_eq_true rfl) ?_
  intro p e s m below meth c C hr hlk hnm
  refine (?_ : DX p l e _ s m _ below meth c G z 1 n _ (fun v => v = q) 0 [(0, .int a0)] [] w (f_X9_setOfFirst a0)) q hq rfl
  unfold f_X9_setOfFirst
  refine dx_iconst (v := (1 : Int32)) C dX9_setOfFirst_0 (by decide) ?_
  refine dx_iload_n C 0 dX9_setOfFirst_1 rfl rfl ?_
  refine dx_ishl C dX9_setOfFirst_2 ?_
  refine dx_iconst (v := (1 : Int32)) C dX9_setOfFirst_3 (by decide) ?_
  refine dx_isub C dX9_setOfFirst_4 ?_
  exact dx_iret1 C hr hlk dX9_setOfFirst_5 (fun h => h)
def f_X9_holds (a0 : Int32) (a1 : Int32) : Option (Int32) :=
  (if a1 < 0 then some ((0 : Int32)) else (if a1 < (31 : Int32) then (if ((a0 >>> (a1 &&& 31)) &&& (1 : Int32)) = 0 then some ((0 : Int32)) else some ((1 : Int32))) else some ((0 : Int32))))
set_option maxRecDepth 20000 in
set_option maxHeartbeats 4000000 in
theorem tf_X9_holds {G : GT} {l : Launch} {z n : Nat} (a0 : Int32) (a1 : Int32) (w : Mem) (q : Int32) (hq : f_X9_holds a0 a1 = some q) : Mt G l z yX9_holds cX9_holds 2 (some .boolean) { frames := 0, cells := 0, slots := 0, locals := 0 } [.int a0, .int a1] (hp G z w) n (some (.int q)) (hp G z w) n := by
  refine mt_of (by decide +kernel) (Nat.le_of_ble_eq_true rfl) ?_
  intro p e s m below meth c C hr hlk hnm
  refine (?_ : DX p l e _ s m _ below meth c G z 2 n _ (fun v => v = q) 0 [(0, .int a0), (1, .int a1)] [] w (f_X9_holds a0 a1)) q hq rfl
  unfold f_X9_holds
  refine dx_iload_n C 1 dX9_holds_0 rfl rfl ?_
  refine dx_if_lt C 22 dX9_holds_1 (by decide) ?_ ?_
  · refine dx_iconst (v := (0 : Int32)) C dX9_holds_22 (by decide) ?_
    exact dx_zret1 C hr hlk (by decide) dX9_holds_23 (fun h => h)
  · refine dx_iload_n C 1 dX9_holds_4 rfl rfl ?_
    refine dx_bipush (v := (31 : Int32)) C dX9_holds_5 (by decide) ?_
    refine dx_icmp_ge C 22 dX9_holds_7 (by decide) ?_ ?_
    · refine dx_iconst (v := (0 : Int32)) C dX9_holds_22 (by decide) ?_
      exact dx_zret1 C hr hlk (by decide) dX9_holds_23 (fun h => h)
    · refine dx_iload_n C 0 dX9_holds_10 rfl rfl ?_
      refine dx_iload_n C 1 dX9_holds_11 rfl rfl ?_
      refine dx_ishr C dX9_holds_12 ?_
      refine dx_iconst (v := (1 : Int32)) C dX9_holds_13 (by decide) ?_
      refine dx_iand C dX9_holds_14 ?_
      refine dx_if_eq C 22 dX9_holds_15 (by decide) ?_ ?_
      · refine dx_iconst (v := (0 : Int32)) C dX9_holds_22 (by decide) ?_
        exact dx_zret1 C hr hlk (by decide) dX9_holds_23 (fun h => h)
      · refine dx_iconst (v := (1 : Int32)) C dX9_holds_18 (by decide) ?_
        refine dx_goto C 23 dX9_holds_19 (by decide) ?_
        exact dx_zret1 C hr hlk (by decide) dX9_holds_23 (fun h => h)
def f_X1_beginnersOf (b0 : Nat) (a1 : Int32) (w : Mem) : Option (Int32) :=
  (lp (S := (Int32 × Int32)) (T := Int32) (fun s4 => (if s4.2 < (w b0 2) then lt ((a1 &&& (((1 : Int32) <<< (s4.2 &&& 31)) ^^^ (-1 : Int32)))) fun t1 => (f_X9_holds a1 s4.2).bind fun r2 => ((if r2 = 0 then some (s4.1) else (if t1 = 0 then lt ((s4.1 ||| ((1 : Int32) <<< (s4.2 &&& 31)))) fun t4 => some (t4) else rd 8 (w (b0 + 2)) s4.2 fun x5 => rd 256 (w (b0 + 6)) t1 fun x6 => (if (x5 &&& x6) = 0 then some (s4.1) else lt ((s4.1 ||| ((1 : Int32) <<< (s4.2 &&& 31)))) fun t7 => some (t7)))) : Option Int32).bind fun v3 => some (Sum.inl (v3, (s4.2 + (1 : Int32)))) else some (Sum.inr s4.1))) 5000000000 ((0 : Int32), (0 : Int32))).bind fun v8 => some (v8)
set_option maxRecDepth 20000 in
set_option maxHeartbeats 4000000 in
theorem tf_X1_beginnersOf {G : GT} {l : Launch} {z n : Nat} (b0 : Nat) (hb0 : BrO b0) (a1 : Int32) (w : Mem) (q : Int32) (hq : f_X1_beginnersOf b0 a1 w = some q) : Mt G l z yX1_beginnersOf cX1_beginnersOf 5 (some .int) { frames := 1, cells := 0, slots := 0, locals := 21 } [.ref (z + b0), .int a1] (hp G z w) n (some (.int q)) (hp G z w) n := by
  refine mt_of (by decide +kernel) (Nat.le_of_ble_eq_true rfl) ?_
  intro p e s m below meth c C hr hlk hnm
  refine (?_ : DX p l e _ s m _ below meth c G z 5 n _ (fun v => v = q) 0 [(0, .ref (z + b0)), (1, .int a1)] [] w (f_X1_beginnersOf b0 a1 w)) q hq rfl
  unfold f_X1_beginnersOf
  refine dx_iconst (v := (0 : Int32)) C dX1_beginnersOf_0 (by decide) ?_
  refine dx_istore_n C [(2, .int (0 : Int32)), (0, .ref (z + b0)), (1, .int a1)] dX1_beginnersOf_1 rfl (by decide) rfl ?_
  refine dx_iconst (v := (0 : Int32)) C dX1_beginnersOf_2 (by decide) ?_
  refine dx_istore_n C [(3, .int (0 : Int32)), (2, .int (0 : Int32)), (0, .ref (z + b0)), (1, .int a1)] dX1_beginnersOf_3 rfl (by decide) rfl ?_
  refine dx_mv (lo2 := [(0, .ref (z + b0)), (1, .int a1), (2, .int (0 : Int32)), (3, .int (0 : Int32))]) [2, 3, 1, 0] rfl ?_
  refine dx_bind 63 (fun v8 => [(2, .int v8)]) (fun v8 => []) (fun v8 => w) (fun v8 => (?_ : DX p l e _ s m _ below meth c G z 5 n _ _ 63 [(2, .int v8)] [] w _)) ?_
  · refine dx_iload_n C 0 dX1_beginnersOf_63 rfl rfl ?_
    exact dx_iret1 C hr hlk dX1_beginnersOf_64 (fun h => h)
  · refine dx_lp (fun s4 => [(0, .ref (z + b0)), (1, .int a1), (2, .int s4.1), (3, .int s4.2)]) [] (fun s4 => w) (fun s4 => (?_ : DX p l e _ s m _ below meth c G z 5 n _ _ 4 [(0, .ref (z + b0)), (1, .int a1), (2, .int s4.1), (3, .int s4.2)] [] w _)) 5000000000 ((0 : Int32), (0 : Int32))
    refine dx_iload_n C 3 dX1_beginnersOf_4 rfl rfl ?_
    refine dx_aload_n C 0 dX1_beginnersOf_5 rfl rfl ?_
    refine dgX1_18 C hb0 dX1_beginnersOf_6 ?_
    refine dx_icmp_ge C 63 dX1_beginnersOf_9 (by decide) ?_ ?_
    · refine dx_mv (lo2 := [(2, .int s4.1)]) [2] rfl ?_
      exact dx_end (fun h => h)
    · refine dx_iload_n C 1 dX1_beginnersOf_12 rfl rfl ?_
      refine dx_iconst (v := (1 : Int32)) C dX1_beginnersOf_13 (by decide) ?_
      refine dx_iload_n C 3 dX1_beginnersOf_14 rfl rfl ?_
      refine dx_ishl C dX1_beginnersOf_15 ?_
      refine dx_iconst (v := (-1 : Int32)) C dX1_beginnersOf_16 (by decide) ?_
      refine dx_ixor C dX1_beginnersOf_17 ?_
      refine dx_iand C dX1_beginnersOf_18 ?_
      refine dx_lt (fun t1 => ?_)
      refine dx_istore C [(4, .int t1), (0, .ref (z + b0)), (1, .int a1), (2, .int s4.1), (3, .int s4.2)] dX1_beginnersOf_19 (by decide) rfl ?_
      refine dx_iload_n C 2 dX1_beginnersOf_21 rfl rfl ?_
      refine dx_iload_n C 4 dX1_beginnersOf_22 rfl rfl ?_
      refine dx_callSN1 C cl_X9_holds knX1_50 (As := [.int a1, .int s4.2]) (rest := []) (tf_X9_holds a1 s4.2 w) rfl rfl (Nat.le_of_ble_eq_true rfl) ⟨Nat.le_of_ble_eq_true rfl, Nat.le_of_ble_eq_true rfl⟩ dX1_beginnersOf_23 (fun r2 => ?_)
      refine dx_bind 57 (fun v3 => [(0, .ref (z + b0)), (1, .int a1), (2, .int v3), (3, .int s4.2)]) (fun v3 => []) (fun v3 => w) (fun v3 => (?_ : DX p l e _ s m _ below meth c G z 5 n _ _ 57 [(0, .ref (z + b0)), (1, .int a1), (2, .int v3), (3, .int s4.2)] [] w _)) ?_
      · refine dx_iinc (v := (s4.2 + (1 : Int32))) C 3 [(3, .int (s4.2 + (1 : Int32))), (0, .ref (z + b0)), (1, .int a1), (2, .int v3)] dX1_beginnersOf_57 rfl rfl (by decide) rfl ?_
        refine dx_goto C 4 dX1_beginnersOf_60 (by decide) ?_
        refine dx_mv (lo2 := [(0, .ref (z + b0)), (1, .int a1), (2, .int v3), (3, .int (s4.2 + (1 : Int32)))]) [1, 2, 3, 0] rfl ?_
        exact dx_end (fun h => h)
      · refine dx_if_eq C 57 dX1_beginnersOf_26 (by decide) ?_ ?_
        · refine dx_mv (lo2 := [(0, .ref (z + b0)), (1, .int a1), (2, .int s4.1), (3, .int s4.2)]) [1, 2, 3, 4] rfl ?_
          exact dx_end (fun h => h)
        · refine dx_iload C 0 dX1_beginnersOf_29 rfl ?_
          refine dx_if_eq C 51 dX1_beginnersOf_31 (by decide) ?_ ?_
          · refine dx_iload_n C 3 dX1_beginnersOf_51 rfl rfl ?_
            refine dx_iconst (v := (1 : Int32)) C dX1_beginnersOf_52 (by decide) ?_
            refine dx_iload_n C 4 dX1_beginnersOf_53 rfl rfl ?_
            refine dx_ishl C dX1_beginnersOf_54 ?_
            refine dx_ior C dX1_beginnersOf_55 ?_
            refine dx_lt (fun t4 => ?_)
            refine dx_istore_n C [(2, .int t4), (4, .int t1), (0, .ref (z + b0)), (1, .int a1), (3, .int s4.2)] dX1_beginnersOf_56 rfl (by decide) rfl ?_
            refine dx_mv (lo2 := [(0, .ref (z + b0)), (1, .int a1), (2, .int t4), (3, .int s4.2)]) [2, 3, 0, 4] rfl ?_
            exact dx_end (fun h => h)
          · refine dx_aload_n C 1 dX1_beginnersOf_34 rfl rfl ?_
            refine dgX1_28 C hb0 dX1_beginnersOf_35 ?_
            refine dx_iload_n C 4 dX1_beginnersOf_38 rfl rfl ?_
            refine dx_rd C (lyBr2 hb0) dX1_beginnersOf_39 (fun x5 => ?_)
            refine dx_aload_n C 1 dX1_beginnersOf_40 rfl rfl ?_
            refine dgX1_40 C hb0 dX1_beginnersOf_41 ?_
            refine dx_iload C 0 dX1_beginnersOf_44 rfl ?_
            refine dx_rd C (lyBr6 hb0) dX1_beginnersOf_46 (fun x6 => ?_)
            refine dx_iand C dX1_beginnersOf_47 ?_
            refine dx_if_eq C 57 dX1_beginnersOf_48 (by decide) ?_ ?_
            · refine dx_mv (lo2 := [(0, .ref (z + b0)), (1, .int a1), (2, .int s4.1), (3, .int s4.2)]) [1, 2, 3, 4] rfl ?_
              exact dx_end (fun h => h)
            · refine dx_iload_n C 3 dX1_beginnersOf_51 rfl rfl ?_
              refine dx_iconst (v := (1 : Int32)) C dX1_beginnersOf_52 (by decide) ?_
              refine dx_iload_n C 4 dX1_beginnersOf_53 rfl rfl ?_
              refine dx_ishl C dX1_beginnersOf_54 ?_
              refine dx_ior C dX1_beginnersOf_55 ?_
              refine dx_lt (fun t7 => ?_)
              refine dx_istore_n C [(2, .int t7), (4, .int t1), (0, .ref (z + b0)), (1, .int a1), (3, .int s4.2)] dX1_beginnersOf_56 rfl (by decide) rfl ?_
              refine dx_mv (lo2 := [(0, .ref (z + b0)), (1, .int a1), (2, .int t7), (3, .int s4.2)]) [2, 3, 0, 4] rfl ?_
              exact dx_end (fun h => h)
def f_X1_settle (b0 : Nat) (w : Mem) : Option (Mem) :=
  (f_X9_setOfFirst (w b0 2)).bind fun r1 => (lp (S := (Int32 × Mem)) (T := Mem) (fun s10 => (if s10.1 < (s10.2 b0 2) then rd 8 (s10.2 (b0 + 2)) s10.1 fun x2 => wr 8 (b0 + 2) s10.1 (x2 &&& r1) s10.2 fun w3 => some (Sum.inl ((s10.1 + (1 : Int32)), w3)) else some (Sum.inr s10.2))) 5000000000 ((0 : Int32), w)).bind fun v4 => (lp (S := (Int32 × Mem)) (T := Mem) (fun s36 => (if s36.1 < (s36.2 b0 3) then rd 6 (s36.2 (b0 + 5)) s36.1 fun x5 => wr 6 (b0 + 5) s36.1 (x5 &&& r1) s36.2 fun w6 => some (Sum.inl ((s36.1 + (1 : Int32)), w6)) else some (Sum.inr s36.2))) 5000000000 ((0 : Int32), v4)).bind fun v7 => (lp (S := (Int32 × Mem)) (T := Mem) (fun s62 => (if r1 < s62.1 then some (Sum.inr s62.2) else (f_X1_beginnersOf b0 s62.1 s62.2).bind fun r8 => wr 256 (b0 + 6) s62.1 r8 s62.2 fun w9 => some (Sum.inl ((s62.1 + (1 : Int32)), w9)))) 5000000000 ((1 : Int32), v7)).bind fun v10 => some (v10)
set_option maxRecDepth 20000 in
set_option maxHeartbeats 4000000 in
theorem tf_X1_settle {G : GT} {l : Launch} {z n : Nat} (b0 : Nat) (hb0 : BrO b0) (w : Mem) (q : Mem) (hq : f_X1_settle b0 w = some q) : Mt G l z yX1_settle cX1_settle 3 none { frames := 2, cells := 0, slots := 0, locals := 45 } [.ref (z + b0)] (hp G z w) n none (hp G z q) n := by
  refine mt_of (by decide +kernel) (Nat.le_of_ble_eq_true rfl) ?_
  intro p e s m below meth c C hr hlk hnm
  refine (?_ : DX p l e _ s m _ below meth c G z 3 n _ (fun v => v = q) 0 [(0, .ref (z + b0))] [] w (f_X1_settle b0 w)) q hq rfl
  unfold f_X1_settle
  refine dx_aload_n C 0 dX1_settle_0 rfl rfl ?_
  refine dgX1_18 C hb0 dX1_settle_1 ?_
  refine dx_callSN1 C cl_X9_setOfFirst knX1_43 (As := [.int (w b0 2)]) (rest := []) (tf_X9_setOfFirst (w b0 2) w) rfl rfl (Nat.le_of_ble_eq_true rfl) ⟨Nat.le_of_ble_eq_true rfl, Nat.le_of_ble_eq_true rfl⟩ dX1_settle_4 (fun r1 => ?_)
  refine dx_istore_n C [(1, .int r1), (0, .ref (z + b0))] dX1_settle_7 rfl (by decide) rfl ?_
  refine dx_iconst (v := (0 : Int32)) C dX1_settle_8 (by decide) ?_
  refine dx_istore_n C [(2, .int (0 : Int32)), (1, .int r1), (0, .ref (z + b0))] dX1_settle_9 rfl (by decide) rfl ?_
  refine dx_mv (lo2 := [(0, .ref (z + b0)), (1, .int r1), (2, .int (0 : Int32))]) [2, 1, 0] rfl ?_
  refine dx_bind 34 (fun v4 => [(0, .ref (z + b0)), (1, .int r1)]) (fun v4 => []) (fun v4 => v4) (fun v4 => (?_ : DX p l e _ s m _ below meth c G z 3 n _ _ 34 [(0, .ref (z + b0)), (1, .int r1)] [] v4 _)) ?_
  · refine dx_iconst (v := (0 : Int32)) C dX1_settle_34 (by decide) ?_
    refine dx_istore_n C [(2, .int (0 : Int32)), (0, .ref (z + b0)), (1, .int r1)] dX1_settle_35 rfl (by decide) rfl ?_
    refine dx_mv (lo2 := [(0, .ref (z + b0)), (1, .int r1), (2, .int (0 : Int32))]) [1, 2, 0] rfl ?_
    refine dx_bind 60 (fun v7 => [(0, .ref (z + b0)), (1, .int r1)]) (fun v7 => []) (fun v7 => v7) (fun v7 => (?_ : DX p l e _ s m _ below meth c G z 3 n _ _ 60 [(0, .ref (z + b0)), (1, .int r1)] [] v7 _)) ?_
    · refine dx_iconst (v := (1 : Int32)) C dX1_settle_60 (by decide) ?_
      refine dx_istore_n C [(2, .int (1 : Int32)), (0, .ref (z + b0)), (1, .int r1)] dX1_settle_61 rfl (by decide) rfl ?_
      refine dx_mv (lo2 := [(0, .ref (z + b0)), (1, .int r1), (2, .int (1 : Int32))]) [1, 2, 0] rfl ?_
      refine dx_bind 84 (fun v10 => []) (fun v10 => []) (fun v10 => v10) (fun v10 => (?_ : DX p l e _ s m _ below meth c G z 3 n _ _ 84 [] [] v10 _)) ?_
      · exact dx_vret C hr hlk dX1_settle_84 (fun h => h)
      · refine dx_lp (fun s62 => [(0, .ref (z + b0)), (1, .int r1), (2, .int s62.1)]) [] (fun s62 => s62.2) (fun s62 => (?_ : DX p l e _ s m _ below meth c G z 3 n _ _ 62 [(0, .ref (z + b0)), (1, .int r1), (2, .int s62.1)] [] s62.2 _)) 5000000000 ((1 : Int32), v7)
        refine dx_iload_n C 2 dX1_settle_62 rfl rfl ?_
        refine dx_iload_n C 1 dX1_settle_63 rfl rfl ?_
        refine dx_icmp_gt C 84 dX1_settle_64 (by decide) ?_ ?_
        · refine dx_mv (lo2 := []) [] rfl ?_
          exact dx_end (fun h => h)
        · refine dx_aload_n C 0 dX1_settle_67 rfl rfl ?_
          refine dgX1_40 C hb0 dX1_settle_68 ?_
          refine dx_iload_n C 2 dX1_settle_71 rfl rfl ?_
          refine dx_aload_n C 0 dX1_settle_72 rfl rfl ?_
          refine dx_iload_n C 2 dX1_settle_73 rfl rfl ?_
          refine dx_callV1 C cl_X1_beginnersOf kmX1_47 (ci := 0) (b := b0) (As := [.int s62.1]) (rest := [.int s62.1, .ref (z + (b0 + 6))]) rfl (hp_of (lyBr0 hb0)) (tf_X1_beginnersOf b0 hb0 s62.1 s62.2) rfl rfl (Nat.le_of_ble_eq_true rfl) ⟨Nat.le_of_ble_eq_true rfl, Nat.le_of_ble_eq_true rfl⟩ dX1_settle_74 (fun r8 => ?_)
          refine dx_wr C (lyBr6 hb0) dX1_settle_77 (fun w9 => ?_)
          refine dx_iinc (v := (s62.1 + (1 : Int32))) C 2 [(2, .int (s62.1 + (1 : Int32))), (0, .ref (z + b0)), (1, .int r1)] dX1_settle_78 rfl rfl (by decide) rfl ?_
          refine dx_goto C 62 dX1_settle_81 (by decide) ?_
          refine dx_mv (lo2 := [(0, .ref (z + b0)), (1, .int r1), (2, .int (s62.1 + (1 : Int32)))]) [1, 2, 0] rfl ?_
          exact dx_end (fun h => h)
    · refine dx_lp (fun s36 => [(0, .ref (z + b0)), (1, .int r1), (2, .int s36.1)]) [] (fun s36 => s36.2) (fun s36 => (?_ : DX p l e _ s m _ below meth c G z 3 n _ _ 36 [(0, .ref (z + b0)), (1, .int r1), (2, .int s36.1)] [] s36.2 _)) 5000000000 ((0 : Int32), v4)
      refine dx_iload_n C 2 dX1_settle_36 rfl rfl ?_
      refine dx_aload_n C 0 dX1_settle_37 rfl rfl ?_
      refine dgX1_21 C hb0 dX1_settle_38 ?_
      refine dx_icmp_ge C 60 dX1_settle_41 (by decide) ?_ ?_
      · refine dx_mv (lo2 := [(0, .ref (z + b0)), (1, .int r1)]) [0, 1] rfl ?_
        exact dx_end (fun h => h)
      · refine dx_aload_n C 0 dX1_settle_44 rfl rfl ?_
        refine dgX1_37 C hb0 dX1_settle_45 ?_
        refine dx_iload_n C 2 dX1_settle_48 rfl rfl ?_
        refine dx_dup2 C dX1_settle_49 rfl rfl ?_
        refine dx_rd C (lyBr5 hb0) dX1_settle_50 (fun x5 => ?_)
        refine dx_iload_n C 1 dX1_settle_51 rfl rfl ?_
        refine dx_iand C dX1_settle_52 ?_
        refine dx_wr C (lyBr5 hb0) dX1_settle_53 (fun w6 => ?_)
        refine dx_iinc (v := (s36.1 + (1 : Int32))) C 2 [(2, .int (s36.1 + (1 : Int32))), (0, .ref (z + b0)), (1, .int r1)] dX1_settle_54 rfl rfl (by decide) rfl ?_
        refine dx_goto C 36 dX1_settle_57 (by decide) ?_
        refine dx_mv (lo2 := [(0, .ref (z + b0)), (1, .int r1), (2, .int (s36.1 + (1 : Int32)))]) [1, 2, 0] rfl ?_
        exact dx_end (fun h => h)
  · refine dx_lp (fun s10 => [(0, .ref (z + b0)), (1, .int r1), (2, .int s10.1)]) [] (fun s10 => s10.2) (fun s10 => (?_ : DX p l e _ s m _ below meth c G z 3 n _ _ 10 [(0, .ref (z + b0)), (1, .int r1), (2, .int s10.1)] [] s10.2 _)) 5000000000 ((0 : Int32), w)
    refine dx_iload_n C 2 dX1_settle_10 rfl rfl ?_
    refine dx_aload_n C 0 dX1_settle_11 rfl rfl ?_
    refine dgX1_18 C hb0 dX1_settle_12 ?_
    refine dx_icmp_ge C 34 dX1_settle_15 (by decide) ?_ ?_
    · refine dx_mv (lo2 := [(0, .ref (z + b0)), (1, .int r1)]) [0, 1] rfl ?_
      exact dx_end (fun h => h)
    · refine dx_aload_n C 0 dX1_settle_18 rfl rfl ?_
      refine dgX1_28 C hb0 dX1_settle_19 ?_
      refine dx_iload_n C 2 dX1_settle_22 rfl rfl ?_
      refine dx_dup2 C dX1_settle_23 rfl rfl ?_
      refine dx_rd C (lyBr2 hb0) dX1_settle_24 (fun x2 => ?_)
      refine dx_iload_n C 1 dX1_settle_25 rfl rfl ?_
      refine dx_iand C dX1_settle_26 ?_
      refine dx_wr C (lyBr2 hb0) dX1_settle_27 (fun w3 => ?_)
      refine dx_iinc (v := (s10.1 + (1 : Int32))) C 2 [(2, .int (s10.1 + (1 : Int32))), (0, .ref (z + b0)), (1, .int r1)] dX1_settle_28 rfl rfl (by decide) rfl ?_
      refine dx_goto C 10 dX1_settle_31 (by decide) ?_
      refine dx_mv (lo2 := [(0, .ref (z + b0)), (1, .int r1), (2, .int (s10.1 + (1 : Int32)))]) [1, 2, 0] rfl ?_
      exact dx_end (fun h => h)
def f_X7_readInto (b1 : Nat) (w : Mem) : Option (Mem) :=
  pw 1 2 (0 : Int32) w fun w1 => pw 1 3 (0 : Int32) w1 fun w2 => pw 1 4 (-1 : Int32) w2 fun w3 => (f_X1_clear b1 w3).bind fun w4 => (f_X7_skipBlanks w4).bind fun w5 => (lp (S := (Int32 × Mem)) (T := Mem) (fun s25 => (if s25.1 < (240 : Int32) then (if (s25.2 1 2) < (s25.2 1 1) then (if (s25.2 1 3) = 0 then (f_X7_readClause b1 s25.2).bind fun w6 => (f_X7_skipBlanks w6).bind fun w7 => some (Sum.inl ((s25.1 + (1 : Int32)), w7)) else some (Sum.inr s25.2)) else some (Sum.inr s25.2)) else some (Sum.inr s25.2))) 5000000000 ((0 : Int32), w5)).bind fun v8 => (if (v8 1 3) = 0 then (f_X1_settle b1 v8).bind fun w9 => some (w9) else some (v8))
set_option maxRecDepth 20000 in
set_option maxHeartbeats 4000000 in
theorem tf_X7_readInto {G : GT} {l : Launch} {z n : Nat} (b1 : Nat) (hb1 : BrO b1) (w : Mem) (q : Mem) (hq : f_X7_readInto b1 w = some q) : Mt G l z yX7_readInto cX7_readInto 3 none { frames := 5, cells := 0, slots := 0, locals := 111 } [.ref (z + 1), .ref (z + b1)] (hp G z w) n none (hp G z q) n := by
  refine mt_of (by decide +kernel) (Nat.le_of_ble_eq_true rfl) ?_
  intro p e s m below meth c C hr hlk hnm
  refine (?_ : DX p l e _ s m _ below meth c G z 3 n _ (fun v => v = q) 0 [(0, .ref (z + 1)), (1, .ref (z + b1))] [] w (f_X7_readInto b1 w)) q hq rfl
  unfold f_X7_readInto
  refine dx_aload_n C 0 dX7_readInto_0 rfl rfl ?_
  refine dx_iconst (v := (0 : Int32)) C dX7_readInto_1 (by decide) ?_
  refine dpX7_19 C dX7_readInto_2 (fun w1 => ?_)
  refine dx_aload_n C 0 dX7_readInto_5 rfl rfl ?_
  refine dx_iconst (v := (0 : Int32)) C dX7_readInto_6 (by decide) ?_
  refine dpX7_22 C dX7_readInto_7 (fun w2 => ?_)
  refine dx_aload_n C 0 dX7_readInto_10 rfl rfl ?_
  refine dx_iconst (v := (-1 : Int32)) C dX7_readInto_11 (by decide) ?_
  refine dpX7_25 C dX7_readInto_12 (fun w3 => ?_)
  refine dx_aload_n C 1 dX7_readInto_15 rfl rfl ?_
  refine dx_callV3 C cl_X1_clear kmX7_28 (ci := 0) (b := b1) (As := []) (rest := []) rfl (hp_of (lyBr0 hb1)) (tf_X1_clear b1 hb1 w3) rfl rfl (Nat.le_of_ble_eq_true rfl) ⟨Nat.le_of_ble_eq_true rfl, Nat.le_of_ble_eq_true rfl⟩ dX7_readInto_16 (fun w4 => ?_)
  refine dx_aload_n C 0 dX7_readInto_19 rfl rfl ?_
  refine dx_callV3 C cl_X7_skipBlanks kmX7_33 (ci := 6) (b := 1) (As := []) (rest := []) rfl (hp_of ly_1) (tf_X7_skipBlanks w4) rfl rfl (Nat.le_of_ble_eq_true rfl) ⟨Nat.le_of_ble_eq_true rfl, Nat.le_of_ble_eq_true rfl⟩ dX7_readInto_20 (fun w5 => ?_)
  refine dx_iconst (v := (0 : Int32)) C dX7_readInto_23 (by decide) ?_
  refine dx_istore_n C [(2, .int (0 : Int32)), (0, .ref (z + 1)), (1, .ref (z + b1))] dX7_readInto_24 rfl (by decide) rfl ?_
  refine dx_mv (lo2 := [(0, .ref (z + 1)), (1, .ref (z + b1)), (2, .int (0 : Int32))]) [1, 2, 0] rfl ?_
  refine dx_bind 65 (fun v8 => [(0, .ref (z + 1)), (1, .ref (z + b1))]) (fun v8 => []) (fun v8 => v8) (fun v8 => (?_ : DX p l e _ s m _ below meth c G z 3 n _ _ 65 [(0, .ref (z + 1)), (1, .ref (z + b1))] [] v8 _)) ?_
  · refine dx_aload_n C 0 dX7_readInto_65 rfl rfl ?_
    refine dgX7_22 C dX7_readInto_66 ?_
    refine dx_if_ne C 76 dX7_readInto_69 (by decide) ?_ ?_
    · exact dx_vret C hr hlk dX7_readInto_76 (fun h => h)
    · refine dx_aload_n C 1 dX7_readInto_72 rfl rfl ?_
      refine dx_callV3 C cl_X1_settle kmX7_40 (ci := 0) (b := b1) (As := []) (rest := []) rfl (hp_of (lyBr0 hb1)) (tf_X1_settle b1 hb1 v8) rfl rfl (Nat.le_of_ble_eq_true rfl) ⟨Nat.le_of_ble_eq_true rfl, Nat.le_of_ble_eq_true rfl⟩ dX7_readInto_73 (fun w9 => ?_)
      exact dx_vret C hr hlk dX7_readInto_76 (fun h => h)
  · refine dx_lp (fun s25 => [(0, .ref (z + 1)), (1, .ref (z + b1)), (2, .int s25.1)]) [] (fun s25 => s25.2) (fun s25 => (?_ : DX p l e _ s m _ below meth c G z 3 n _ _ 25 [(0, .ref (z + 1)), (1, .ref (z + b1)), (2, .int s25.1)] [] s25.2 _)) 5000000000 ((0 : Int32), w5)
    refine dx_iload_n C 2 dX7_readInto_25 rfl rfl ?_
    refine dx_sipush (v := (240 : Int32)) C dX7_readInto_26 (by decide) ?_
    refine dx_icmp_ge C 65 dX7_readInto_29 (by decide) ?_ ?_
    · refine dx_mv (lo2 := [(0, .ref (z + 1)), (1, .ref (z + b1))]) [0, 1] rfl ?_
      exact dx_end (fun h => h)
    · refine dx_aload_n C 0 dX7_readInto_32 rfl rfl ?_
      refine dgX7_19 C dX7_readInto_33 ?_
      refine dx_aload_n C 0 dX7_readInto_36 rfl rfl ?_
      refine dgX7_15 C dX7_readInto_37 ?_
      refine dx_icmp_ge C 65 dX7_readInto_40 (by decide) ?_ ?_
      · refine dx_mv (lo2 := [(0, .ref (z + 1)), (1, .ref (z + b1))]) [0, 1] rfl ?_
        exact dx_end (fun h => h)
      · refine dx_aload_n C 0 dX7_readInto_43 rfl rfl ?_
        refine dgX7_22 C dX7_readInto_44 ?_
        refine dx_if_ne C 65 dX7_readInto_47 (by decide) ?_ ?_
        · refine dx_mv (lo2 := [(0, .ref (z + 1)), (1, .ref (z + b1))]) [0, 1] rfl ?_
          exact dx_end (fun h => h)
        · refine dx_aload_n C 0 dX7_readInto_50 rfl rfl ?_
          refine dx_aload_n C 1 dX7_readInto_51 rfl rfl ?_
          refine dx_callV3 C cl_X7_readClause kmX7_36 (ci := 6) (b := 1) (As := [.ref (z + b1)]) (rest := []) rfl (hp_of ly_1) (tf_X7_readClause b1 hb1 s25.2) rfl rfl (Nat.le_of_ble_eq_true rfl) ⟨Nat.le_of_ble_eq_true rfl, Nat.le_of_ble_eq_true rfl⟩ dX7_readInto_52 (fun w6 => ?_)
          refine dx_aload_n C 0 dX7_readInto_55 rfl rfl ?_
          refine dx_callV3 C cl_X7_skipBlanks kmX7_33 (ci := 6) (b := 1) (As := []) (rest := []) rfl (hp_of ly_1) (tf_X7_skipBlanks w6) rfl rfl (Nat.le_of_ble_eq_true rfl) ⟨Nat.le_of_ble_eq_true rfl, Nat.le_of_ble_eq_true rfl⟩ dX7_readInto_56 (fun w7 => ?_)
          refine dx_iinc (v := (s25.1 + (1 : Int32))) C 2 [(2, .int (s25.1 + (1 : Int32))), (0, .ref (z + 1)), (1, .ref (z + b1))] dX7_readInto_59 rfl rfl (by decide) rfl ?_
          refine dx_goto C 25 dX7_readInto_62 (by decide) ?_
          refine dx_mv (lo2 := [(0, .ref (z + 1)), (1, .ref (z + b1)), (2, .int (s25.1 + (1 : Int32)))]) [1, 2, 0] rfl ?_
          exact dx_end (fun h => h)
def f_X7_empty (w : Mem) : Option (Mem) :=
  pw 1 1 (0 : Int32) w fun w1 => some (w1)
set_option maxRecDepth 20000 in
set_option maxHeartbeats 4000000 in
theorem tf_X7_empty {G : GT} {l : Launch} {z n : Nat} (w : Mem) (q : Mem) (hq : f_X7_empty w = some q) : Mt G l z yX7_empty cX7_empty 1 none { frames := 0, cells := 0, slots := 0, locals := 0 } [.ref (z + 1)] (hp G z w) n none (hp G z q) n := by
  refine mt_of (by decide +kernel) (Nat.le_of_ble_eq_true rfl) ?_
  intro p e s m below meth c C hr hlk hnm
  refine (?_ : DX p l e _ s m _ below meth c G z 1 n _ (fun v => v = q) 0 [(0, .ref (z + 1))] [] w (f_X7_empty w)) q hq rfl
  unfold f_X7_empty
  refine dx_aload_n C 0 dX7_empty_0 rfl rfl ?_
  refine dx_iconst (v := (0 : Int32)) C dX7_empty_1 (by decide) ?_
  refine dpX7_15 C dX7_empty_2 (fun w1 => ?_)
  exact dx_vret C hr hlk dX7_empty_5 (fun h => h)
def f_X3_emptySeat (w : Mem) : Option (Mem) :=
  pw 3 4 (-1 : Int32) w fun w1 => pw 3 5 (0 : Int32) w1 fun w2 => pw 3 6 (-1 : Int32) w2 fun w3 => some (w3)
set_option maxRecDepth 20000 in
set_option maxHeartbeats 4000000 in
theorem tf_X3_emptySeat {G : GT} {l : Launch} {z n : Nat} (w : Mem) (q : Mem) (hq : f_X3_emptySeat w = some q) : Mt G l z yX3_emptySeat cX3_emptySeat 1 none { frames := 0, cells := 0, slots := 0, locals := 0 } [.ref (z + 3)] (hp G z w) n none (hp G z q) n := by
  refine mt_of (by decide +kernel) (Nat.le_of_ble_eq_true rfl) ?_
  intro p e s m below meth c C hr hlk hnm
  refine (?_ : DX p l e _ s m _ below meth c G z 1 n _ (fun v => v = q) 0 [(0, .ref (z + 3))] [] w (f_X3_emptySeat w)) q hq rfl
  unfold f_X3_emptySeat
  refine dx_aload_n C 0 dX3_emptySeat_0 rfl rfl ?_
  refine dx_iconst (v := (-1 : Int32)) C dX3_emptySeat_1 (by decide) ?_
  refine dpX3_24 C (Or.inl rfl) dX3_emptySeat_2 (fun w1 => ?_)
  refine dx_aload_n C 0 dX3_emptySeat_5 rfl rfl ?_
  refine dx_iconst (v := (0 : Int32)) C dX3_emptySeat_6 (by decide) ?_
  refine dpX3_27 C (Or.inl rfl) dX3_emptySeat_7 (fun w2 => ?_)
  refine dx_aload_n C 0 dX3_emptySeat_10 rfl rfl ?_
  refine dx_iconst (v := (-1 : Int32)) C dX3_emptySeat_11 (by decide) ?_
  refine dpX3_30 C (Or.inl rfl) dX3_emptySeat_12 (fun w3 => ?_)
  exact dx_vret C hr hlk dX3_emptySeat_15 (fun h => h)
def f_X3_gather (b1 : Nat) (w : Mem) : Option (Mem) :=
  (f_X3_emptySeat w).bind fun w1 => (f_X9_setOfFirst (w1 b1 3)).bind fun r2 => pw 3 7 r2 w1 fun w3 => pw 3 8 (0 : Int32) w3 fun w4 => pw 3 9 (0 : Int32) w4 fun w5 => (lp (S := (Int32 × Mem)) (T := Mem) (fun s27 => (if s27.1 < (6 : Int32) then wr 6 4 s27.1 (0 : Int32) s27.2 fun w6 => wr 6 5 s27.1 (0 : Int32) w6 fun w7 => some (Sum.inl ((s27.1 + (1 : Int32)), w7)) else some (Sum.inr s27.2))) 5000000000 ((0 : Int32), w5)).bind fun v8 => some (v8)
set_option maxRecDepth 20000 in
set_option maxHeartbeats 4000000 in
theorem tf_X3_gather {G : GT} {l : Launch} {z n : Nat} (b1 : Nat) (hb1 : BrO b1) (w : Mem) (q : Mem) (hq : f_X3_gather b1 w = some q) : Mt G l z yX3_gather cX3_gather 3 none { frames := 1, cells := 0, slots := 0, locals := 20 } [.ref (z + 3), .ref (z + b1)] (hp G z w) n none (hp G z q) n := by
  refine mt_of (by decide +kernel) (Nat.le_of_ble_eq_true rfl) ?_
  intro p e s m below meth c C hr hlk hnm
  refine (?_ : DX p l e _ s m _ below meth c G z 3 n _ (fun v => v = q) 0 [(0, .ref (z + 3)), (1, .ref (z + b1))] [] w (f_X3_gather b1 w)) q hq rfl
  unfold f_X3_gather
  refine dx_aload_n C 0 dX3_gather_0 rfl rfl ?_
  refine dx_callV3 C cl_X3_emptySeat kmX3_58 (ci := 2) (b := 3) (As := []) (rest := []) rfl (hp_of ly_3) (tf_X3_emptySeat w) rfl rfl (Nat.le_of_ble_eq_true rfl) ⟨Nat.le_of_ble_eq_true rfl, Nat.le_of_ble_eq_true rfl⟩ dX3_gather_1 (fun w1 => ?_)
  refine dx_aload_n C 0 dX3_gather_4 rfl rfl ?_
  refine dx_aload_n C 1 dX3_gather_5 rfl rfl ?_
  refine dgX3_61 C hb1 dX3_gather_6 ?_
  refine dx_callSN1 C cl_X9_setOfFirst knX3_64 (As := [.int (w1 b1 3)]) (rest := [.ref (z + 3)]) (tf_X9_setOfFirst (w1 b1 3) w1) rfl rfl (Nat.le_of_ble_eq_true rfl) ⟨Nat.le_of_ble_eq_true rfl, Nat.le_of_ble_eq_true rfl⟩ dX3_gather_9 (fun r2 => ?_)
  refine dpX3_33 C (Or.inl rfl) dX3_gather_12 (fun w3 => ?_)
  refine dx_aload_n C 0 dX3_gather_15 rfl rfl ?_
  refine dx_iconst (v := (0 : Int32)) C dX3_gather_16 (by decide) ?_
  refine dpX3_36 C (Or.inl rfl) dX3_gather_17 (fun w4 => ?_)
  refine dx_aload_n C 0 dX3_gather_20 rfl rfl ?_
  refine dx_iconst (v := (0 : Int32)) C dX3_gather_21 (by decide) ?_
  refine dpX3_39 C (Or.inl rfl) dX3_gather_22 (fun w5 => ?_)
  refine dx_iconst (v := (0 : Int32)) C dX3_gather_25 (by decide) ?_
  refine dx_istore_n C [(2, .int (0 : Int32)), (0, .ref (z + 3)), (1, .ref (z + b1))] dX3_gather_26 rfl (by decide) rfl ?_
  refine dx_mv (lo2 := [(0, .ref (z + 3)), (2, .int (0 : Int32))]) [1, 0] rfl ?_
  refine dx_bind 53 (fun v8 => []) (fun v8 => []) (fun v8 => v8) (fun v8 => (?_ : DX p l e _ s m _ below meth c G z 3 n _ _ 53 [] [] v8 _)) ?_
  · exact dx_vret C hr hlk dX3_gather_53 (fun h => h)
  · refine dx_lp (fun s27 => [(0, .ref (z + 3)), (2, .int s27.1)]) [] (fun s27 => s27.2) (fun s27 => (?_ : DX p l e _ s m _ below meth c G z 3 n _ _ 27 [(0, .ref (z + 3)), (2, .int s27.1)] [] s27.2 _)) 5000000000 ((0 : Int32), w5)
    refine dx_iload_n C 1 dX3_gather_27 rfl rfl ?_
    refine dx_bipush (v := (6 : Int32)) C dX3_gather_28 (by decide) ?_
    refine dx_icmp_ge C 53 dX3_gather_30 (by decide) ?_ ?_
    · refine dx_mv (lo2 := []) [] rfl ?_
      exact dx_end (fun h => h)
    · refine dx_aload_n C 0 dX3_gather_33 rfl rfl ?_
      refine dgX3_42 C (Or.inl rfl) dX3_gather_34 ?_
      refine dx_iload_n C 1 dX3_gather_37 rfl rfl ?_
      refine dx_iconst (v := (0 : Int32)) C dX3_gather_38 (by decide) ?_
      refine dx_wr C ly_4 dX3_gather_39 (fun w6 => ?_)
      refine dx_aload_n C 0 dX3_gather_40 rfl rfl ?_
      refine dgX3_46 C (Or.inl rfl) dX3_gather_41 ?_
      refine dx_iload_n C 1 dX3_gather_44 rfl rfl ?_
      refine dx_iconst (v := (0 : Int32)) C dX3_gather_45 (by decide) ?_
      refine dx_wr C ly_5 dX3_gather_46 (fun w7 => ?_)
      refine dx_iinc (v := (s27.1 + (1 : Int32))) C 1 [(2, .int (s27.1 + (1 : Int32))), (0, .ref (z + 3))] dX3_gather_47 rfl rfl (by decide) rfl ?_
      refine dx_goto C 27 dX3_gather_50 (by decide) ?_
      refine dx_mv (lo2 := [(0, .ref (z + 3)), (2, .int (s27.1 + (1 : Int32)))]) [1, 0] rfl ?_
      exact dx_end (fun h => h)
def f_X3_begin (b1 : Nat) (w : Mem) : Option (Mem) :=
  pw 3 0 (0 : Int32) w fun w1 => pw 3 1 (0 : Int32) w1 fun w2 => pw 3 2 (0 : Int32) w2 fun w3 => ((if 0 < (w3 b1 2) then some ((1 : Int32)) else some ((0 : Int32))) : Option Int32).bind fun v4 => pw 3 3 v4 w3 fun w5 => (f_X3_gather b1 w5).bind fun w6 => some (w6)
set_option maxRecDepth 20000 in
set_option maxHeartbeats 4000000 in
theorem tf_X3_begin {G : GT} {l : Launch} {z n : Nat} (b1 : Nat) (hb1 : BrO b1) (w : Mem) (q : Mem) (hq : f_X3_begin b1 w = some q) : Mt G l z yX3_begin cX3_begin 2 none { frames := 2, cells := 0, slots := 0, locals := 42 } [.ref (z + 3), .ref (z + b1)] (hp G z w) n none (hp G z q) n := by
  refine mt_of (by decide +kernel) (Nat.le_of_ble_eq_true rfl) ?_
  intro p e s m below meth c C hr hlk hnm
  refine (?_ : DX p l e _ s m _ below meth c G z 2 n _ (fun v => v = q) 0 [(0, .ref (z + 3)), (1, .ref (z + b1))] [] w (f_X3_begin b1 w)) q hq rfl
  unfold f_X3_begin
  refine dx_aload_n C 0 dX3_begin_0 rfl rfl ?_
  refine dx_iconst (v := (0 : Int32)) C dX3_begin_1 (by decide) ?_
  refine dpX3_9 C (Or.inl rfl) dX3_begin_2 (fun w1 => ?_)
  refine dx_aload_n C 0 dX3_begin_5 rfl rfl ?_
  refine dx_iconst (v := (0 : Int32)) C dX3_begin_6 (by decide) ?_
  refine dpX3_15 C (Or.inl rfl) dX3_begin_7 (fun w2 => ?_)
  refine dx_aload_n C 0 dX3_begin_10 rfl rfl ?_
  refine dx_iconst (v := (0 : Int32)) C dX3_begin_11 (by decide) ?_
  refine dpX3_18 C (Or.inl rfl) dX3_begin_12 (fun w3 => ?_)
  refine dx_aload_n C 0 dX3_begin_15 rfl rfl ?_
  refine dx_aload_n C 1 dX3_begin_16 rfl rfl ?_
  refine dgX3_49 C hb1 dX3_begin_17 ?_
  refine dx_bind 28 (fun v4 => [(0, .ref (z + 3)), (1, .ref (z + b1))]) (fun v4 => [.int v4, .ref (z + 3)]) (fun v4 => w3) (fun v4 => (?_ : DX p l e _ s m _ below meth c G z 2 n _ _ 28 [(0, .ref (z + 3)), (1, .ref (z + b1))] [.int v4, .ref (z + 3)] w3 _)) ?_
  · refine dpX3_21 C (Or.inl rfl) dX3_begin_28 (fun w5 => ?_)
    refine dx_aload_n C 0 dX3_begin_31 rfl rfl ?_
    refine dx_aload_n C 1 dX3_begin_32 rfl rfl ?_
    refine dx_callV3 C cl_X3_gather kmX3_54 (ci := 2) (b := 3) (As := [.ref (z + b1)]) (rest := []) rfl (hp_of ly_3) (tf_X3_gather b1 hb1 w5) rfl rfl (Nat.le_of_ble_eq_true rfl) ⟨Nat.le_of_ble_eq_true rfl, Nat.le_of_ble_eq_true rfl⟩ dX3_begin_33 (fun w6 => ?_)
    exact dx_vret C hr hlk dX3_begin_36 (fun h => h)
  · refine dx_if_le C 27 dX3_begin_20 (by decide) ?_ ?_
    · refine dx_iconst (v := (0 : Int32)) C dX3_begin_27 (by decide) ?_
      exact dx_end (fun h => h)
    · refine dx_iconst (v := (1 : Int32)) C dX3_begin_23 (by decide) ?_
      refine dx_goto C 28 dX3_begin_24 (by decide) ?_
      exact dx_end (fun h => h)
def f_X6_forget (w : Mem) : Option (Mem) :=
  pw 6 1 (0 : Int32) w fun w1 => some (w1)
set_option maxRecDepth 20000 in
set_option maxHeartbeats 4000000 in
theorem tf_X6_forget {G : GT} {l : Launch} {z n : Nat} (w : Mem) (q : Mem) (hq : f_X6_forget w = some q) : Mt G l z yX6_forget cX6_forget 1 none { frames := 0, cells := 0, slots := 0, locals := 0 } [.ref (z + 6)] (hp G z w) n none (hp G z q) n := by
  refine mt_of (by decide +kernel) (Nat.le_of_ble_eq_true rfl) ?_
  intro p e s m below meth c C hr hlk hnm
  refine (?_ : DX p l e _ s m _ below meth c G z 1 n _ (fun v => v = q) 0 [(0, .ref (z + 6))] [] w (f_X6_forget w)) q hq rfl
  unfold f_X6_forget
  refine dx_aload_n C 0 dX6_forget_0 rfl rfl ?_
  refine dx_iconst (v := (0 : Int32)) C dX6_forget_1 (by decide) ?_
  refine dpX6_17 C dX6_forget_2 (fun w1 => ?_)
  exact dx_vret C hr hlk dX6_forget_5 (fun h => h)
def f_X2_forget_106 (w : Mem) : Option (Mem) :=
  pw 106 2 (0 : Int32) w fun w1 => some (w1)
set_option maxRecDepth 20000 in
set_option maxHeartbeats 4000000 in
theorem tf_X2_forget_106 {G : GT} {l : Launch} {z n : Nat} (w : Mem) (q : Mem) (hq : f_X2_forget_106 w = some q) : Mt G l z yX2_forget cX2_forget 1 none { frames := 0, cells := 0, slots := 0, locals := 0 } [.ref (z + 106)] (hp G z w) n none (hp G z q) n := by
  refine mt_of (by decide +kernel) (Nat.le_of_ble_eq_true rfl) ?_
  intro p e s m below meth c C hr hlk hnm
  refine (?_ : DX p l e _ s m _ below meth c G z 1 n _ (fun v => v = q) 0 [(0, .ref (z + 106))] [] w (f_X2_forget_106 w)) q hq rfl
  unfold f_X2_forget_106
  refine dx_aload_n C 0 dX2_forget_0 rfl rfl ?_
  refine dx_iconst (v := (0 : Int32)) C dX2_forget_1 (by decide) ?_
  refine dpX2_9_106 C dX2_forget_2 (fun w1 => ?_)
  exact dx_vret C hr hlk dX2_forget_5 (fun h => h)
def f_X2_forget_109 (w : Mem) : Option (Mem) :=
  pw 109 2 (0 : Int32) w fun w1 => some (w1)
set_option maxRecDepth 20000 in
set_option maxHeartbeats 4000000 in
theorem tf_X2_forget_109 {G : GT} {l : Launch} {z n : Nat} (w : Mem) (q : Mem) (hq : f_X2_forget_109 w = some q) : Mt G l z yX2_forget cX2_forget 1 none { frames := 0, cells := 0, slots := 0, locals := 0 } [.ref (z + 109)] (hp G z w) n none (hp G z q) n := by
  refine mt_of (by decide +kernel) (Nat.le_of_ble_eq_true rfl) ?_
  intro p e s m below meth c C hr hlk hnm
  refine (?_ : DX p l e _ s m _ below meth c G z 1 n _ (fun v => v = q) 0 [(0, .ref (z + 109))] [] w (f_X2_forget_109 w)) q hq rfl
  unfold f_X2_forget_109
  refine dx_aload_n C 0 dX2_forget_0 rfl rfl ?_
  refine dx_iconst (v := (0 : Int32)) C dX2_forget_1 (by decide) ?_
  refine dpX2_9_109 C dX2_forget_2 (fun w1 => ?_)
  exact dx_vret C hr hlk dX2_forget_5 (fun h => h)
def f_X9_beginBridge (w : Mem) : Option (Mem) :=
  (f_X3_begin (brp (w 0 8)) w).bind fun w1 => (f_X6_forget w1).bind fun w2 => (f_X2_forget_106 w2).bind fun w3 => (f_X2_forget_109 w3).bind fun w4 => (lp (S := (Int32 × Mem)) (T := Mem) (fun s34 => (if s34.1 < (2 : Int32) then ri s34.1 fun o5 => pw o5 2 (0 : Int32) s34.2 fun w6 => some (Sum.inl ((s34.1 + (1 : Int32)), w6)) else some (Sum.inr s34.2))) 5000000000 ((0 : Int32), w4)).bind fun v7 => some (v7)
set_option maxRecDepth 20000 in
set_option maxHeartbeats 4000000 in
theorem tf_X9_beginBridge {G : GT} {l : Launch} {z n : Nat} (w : Mem) (q : Mem) (hq : f_X9_beginBridge w = some q) : Mt G l z yX9_beginBridge cX9_beginBridge 2 none { frames := 3, cells := 0, slots := 0, locals := 63 } [.ref (z + 0)] (hp G z w) n none (hp G z q) n := by
  refine mt_of (by decide +kernel) (Nat.le_of_ble_eq_true rfl) ?_
  intro p e s m below meth c C hr hlk hnm
  refine (?_ : DX p l e _ s m _ below meth c G z 2 n _ (fun v => v = q) 0 [(0, .ref (z + 0))] [] w (f_X9_beginBridge w)) q hq rfl
  unfold f_X9_beginBridge
  refine dx_aload_n C 0 dX9_beginBridge_0 rfl rfl ?_
  refine dgX9_19 C dX9_beginBridge_1 ?_
  refine dx_aload_n C 0 dX9_beginBridge_4 rfl rfl ?_
  refine dgX9_65 C dX9_beginBridge_5 ?_
  refine dx_callV3 C cl_X3_begin kmX9_106 (ci := 2) (b := 3) (As := [.ref (z + (brp (w 0 8)))]) (rest := []) rfl (hp_of ly_3) (tf_X3_begin (brp (w 0 8)) (brp_ok (w 0 8)) w) rfl rfl (Nat.le_of_ble_eq_true rfl) ⟨Nat.le_of_ble_eq_true rfl, Nat.le_of_ble_eq_true rfl⟩ dX9_beginBridge_8 (fun w1 => ?_)
  refine dx_aload_n C 0 dX9_beginBridge_11 rfl rfl ?_
  refine dgX9_26 C dX9_beginBridge_12 ?_
  refine dx_callV3 C cl_X6_forget kmX9_109 (ci := 5) (b := 6) (As := []) (rest := []) rfl (hp_of ly_6) (tf_X6_forget w1) rfl rfl (Nat.le_of_ble_eq_true rfl) ⟨Nat.le_of_ble_eq_true rfl, Nat.le_of_ble_eq_true rfl⟩ dX9_beginBridge_15 (fun w2 => ?_)
  refine dx_aload_n C 0 dX9_beginBridge_18 rfl rfl ?_
  refine dgX9_55 C dX9_beginBridge_19 ?_
  refine dx_callV3 C cl_X2_forget kmX9_112 (ci := 1) (b := 106) (As := []) (rest := []) rfl (hp_of ly_106) (tf_X2_forget_106 w2) rfl rfl (Nat.le_of_ble_eq_true rfl) ⟨Nat.le_of_ble_eq_true rfl, Nat.le_of_ble_eq_true rfl⟩ dX9_beginBridge_22 (fun w3 => ?_)
  refine dx_aload_n C 0 dX9_beginBridge_25 rfl rfl ?_
  refine dgX9_59 C dX9_beginBridge_26 ?_
  refine dx_callV3 C cl_X2_forget kmX9_112 (ci := 1) (b := 109) (As := []) (rest := []) rfl (hp_of ly_109) (tf_X2_forget_109 w3) rfl rfl (Nat.le_of_ble_eq_true rfl) ⟨Nat.le_of_ble_eq_true rfl, Nat.le_of_ble_eq_true rfl⟩ dX9_beginBridge_29 (fun w4 => ?_)
  refine dx_iconst (v := (0 : Int32)) C dX9_beginBridge_32 (by decide) ?_
  refine dx_istore_n C [(1, .int (0 : Int32)), (0, .ref (z + 0))] dX9_beginBridge_33 rfl (by decide) rfl ?_
  refine dx_mv (lo2 := [(0, .ref (z + 0)), (1, .int (0 : Int32))]) [1, 0] rfl ?_
  refine dx_bind 59 (fun v7 => []) (fun v7 => []) (fun v7 => v7) (fun v7 => (?_ : DX p l e _ s m _ below meth c G z 2 n _ _ 59 [] [] v7 _)) ?_
  · exact dx_vret C hr hlk dX9_beginBridge_59 (fun h => h)
  · refine dx_lp (fun s34 => [(0, .ref (z + 0)), (1, .int s34.1)]) [] (fun s34 => s34.2) (fun s34 => (?_ : DX p l e _ s m _ below meth c G z 2 n _ _ 34 [(0, .ref (z + 0)), (1, .int s34.1)] [] s34.2 _)) 5000000000 ((0 : Int32), w4)
    refine dx_iload_n C 1 dX9_beginBridge_34 rfl rfl ?_
    refine dx_aload_n C 0 dX9_beginBridge_35 rfl rfl ?_
    refine dgX9_32 C dX9_beginBridge_36 ?_
    refine dx_alen (v := (2 : Int32)) C 4 ly_98 rfl rfl rfl dX9_beginBridge_39 ?_
    refine dx_icmp_ge C 59 dX9_beginBridge_40 (by decide) ?_ ?_
    · refine dx_mv (lo2 := []) [] rfl ?_
      exact dx_end (fun h => h)
    · refine dx_aload_n C 0 dX9_beginBridge_43 rfl rfl ?_
      refine dgX9_32 C dX9_beginBridge_44 ?_
      refine dx_iload_n C 1 dX9_beginBridge_47 rfl rfl ?_
      refine dx_imgs C dX9_beginBridge_48 (fun o5 ho5 => ?_)
      refine dx_iconst (v := (0 : Int32)) C dX9_beginBridge_49 (by decide) ?_
      refine dpX9_113 C ho5 dX9_beginBridge_50 (by decide) (by decide) (fun w6 => ?_)
      refine dx_iinc (v := (s34.1 + (1 : Int32))) C 1 [(1, .int (s34.1 + (1 : Int32))), (0, .ref (z + 0))] dX9_beginBridge_53 rfl rfl (by decide) rfl ?_
      refine dx_goto C 34 dX9_beginBridge_56 (by decide) ?_
      refine dx_mv (lo2 := [(0, .ref (z + 0)), (1, .int (s34.1 + (1 : Int32)))]) [1, 0] rfl ?_
      exact dx_end (fun h => h)
