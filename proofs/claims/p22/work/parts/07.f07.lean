def f_X10_tell (a1 : Int32) (w : Mem) : Option (Int32 × Mem) :=
  (f_X10_isMatter a1 w).bind fun r1 => (if r1 = 0 then some (((-1000000001 : Int32), w)) else (f_X10_isTellable a1 w).bind fun r2 => (if r2 = 0 then some (((-1000000003 : Int32), w)) else (f_X10_remember w).bind fun w3 => (f_X10_tells a1 w3).bind fun q4 => some ((q4.1, q4.2))))
set_option maxRecDepth 20000 in
set_option maxHeartbeats 4000000 in
theorem tf_X10_tell {G : GT} {l : Launch} {z n : Nat} (a1 : Int32) (w : Mem) (q : Int32 × Mem) (hq : f_X10_tell a1 w = some q) : Mt G l z yX10_tell cX10_tell 2 (some .int) { frames := 3, cells := 0, slots := 0, locals := 68 } [.ref (z + 134), .int a1] (hp G z w) n (some (.int q.1)) (hp G z q.2) n := by
  refine mt_of (by decide +kernel) (Nat.le_of_ble_eq_true rfl) ?_
  intro p e s m below meth c C hr hlk hnm
  refine (?_ : DX p l e _ s m _ below meth c G z 2 n _ (fun v => v = q) 0 [(0, .ref (z + 134)), (1, .int a1)] [] w (f_X10_tell a1 w)) q hq rfl
  unfold f_X10_tell
  refine dx_aload_n C 0 dX10_tell_0 rfl rfl ?_
  refine dx_iload_n C 1 dX10_tell_1 rfl rfl ?_
  refine dx_callV1 C cl_X10_isMatter kmX10_190 (ci := 9) (b := 134) (As := [.int a1]) (rest := []) rfl (hp_of ly_134) (tf_X10_isMatter a1 w) rfl rfl (Nat.le_of_ble_eq_true rfl) ⟨Nat.le_of_ble_eq_true rfl, Nat.le_of_ble_eq_true rfl⟩ dX10_tell_2 (fun r1 => ?_)
  refine dx_if_ne C 11 dX10_tell_5 (by decide) ?_ ?_
  · refine dx_aload_n C 0 dX10_tell_11 rfl rfl ?_
    refine dx_iload_n C 1 dX10_tell_12 rfl rfl ?_
    refine dx_callV1 C cl_X10_isTellable kmX10_233 (ci := 9) (b := 134) (As := [.int a1]) (rest := []) rfl (hp_of ly_134) (tf_X10_isTellable a1 w) rfl rfl (Nat.le_of_ble_eq_true rfl) ⟨Nat.le_of_ble_eq_true rfl, Nat.le_of_ble_eq_true rfl⟩ dX10_tell_13 (fun r2 => ?_)
    refine dx_if_ne C 22 dX10_tell_16 (by decide) ?_ ?_
    · refine dx_aload_n C 0 dX10_tell_22 rfl rfl ?_
      refine dx_callV3 C cl_X10_remember kmX10_216 (ci := 9) (b := 134) (As := []) (rest := []) rfl (hp_of ly_134) (tf_X10_remember w) rfl rfl (Nat.le_of_ble_eq_true rfl) ⟨Nat.le_of_ble_eq_true rfl, Nat.le_of_ble_eq_true rfl⟩ dX10_tell_23 (fun w3 => ?_)
      refine dx_aload_n C 0 dX10_tell_26 rfl rfl ?_
      refine dx_iload_n C 1 dX10_tell_27 rfl rfl ?_
      refine dx_callV2 C cl_X10_tells kmX10_236 (ci := 9) (b := 134) (As := [.int a1]) (rest := []) rfl (hp_of ly_134) (tf_X10_tells a1 w3) rfl rfl (Nat.le_of_ble_eq_true rfl) ⟨Nat.le_of_ble_eq_true rfl, Nat.le_of_ble_eq_true rfl⟩ dX10_tell_28 (fun q4 => ?_)
      exact dx_iret2 C hr hlk dX10_tell_31 (fun h => h)
    · refine dx_ldc C kcX10_215 dX10_tell_19 ?_
      exact dx_iret2 C hr hlk dX10_tell_21 (fun h => h)
  · refine dx_ldc C kcX10_193 dX10_tell_8 ?_
    exact dx_iret2 C hr hlk dX10_tell_10 (fun h => h)
def f_X10_rise (w : Mem) : Option (Int32 × Mem) :=
  rd 25 (w 146) (4 : Int32) fun x1 => (if x1 = (-1 : Int32) then some (((-1000000003 : Int32), w)) else (f_X10_remember w).bind fun w2 => (f_X10_rises w2).bind fun q3 => some ((q3.1, q3.2)))
set_option maxRecDepth 20000 in
set_option maxHeartbeats 4000000 in
theorem tf_X10_rise {G : GT} {l : Launch} {z n : Nat} (w : Mem) (q : Int32 × Mem) (hq : f_X10_rise w = some q) : Mt G l z yX10_rise cX10_rise 1 (some .int) { frames := 2, cells := 0, slots := 0, locals := 44 } [.ref (z + 134)] (hp G z w) n (some (.int q.1)) (hp G z q.2) n := by
  refine mt_of (by decide +kernel) (Nat.le_of_ble_eq_true rfl) ?_
  intro p e s m below meth c C hr hlk hnm
  refine (?_ : DX p l e _ s m _ below meth c G z 1 n _ (fun v => v = q) 0 [(0, .ref (z + 134))] [] w (f_X10_rise w)) q hq rfl
  unfold f_X10_rise
  refine dx_aload_n C 0 dX10_rise_0 rfl rfl ?_
  refine dgX10_47 C dX10_rise_1 ?_
  refine dx_iconst (v := (4 : Int32)) C dX10_rise_4 (by decide) ?_
  refine dx_rd C ly_146 dX10_rise_5 (fun x1 => ?_)
  refine dx_iconst (v := (-1 : Int32)) C dX10_rise_6 (by decide) ?_
  refine dx_icmp_ne C 13 dX10_rise_7 (by decide) ?_ ?_
  · refine dx_aload_n C 0 dX10_rise_13 rfl rfl ?_
    refine dx_callV3 C cl_X10_remember kmX10_216 (ci := 9) (b := 134) (As := []) (rest := []) rfl (hp_of ly_134) (tf_X10_remember w) rfl rfl (Nat.le_of_ble_eq_true rfl) ⟨Nat.le_of_ble_eq_true rfl, Nat.le_of_ble_eq_true rfl⟩ dX10_rise_14 (fun w2 => ?_)
    refine dx_aload_n C 0 dX10_rise_17 rfl rfl ?_
    refine dx_callV2 C cl_X10_rises kmX10_227 (ci := 9) (b := 134) (As := []) (rest := []) rfl (hp_of ly_134) (tf_X10_rises w2) rfl rfl (Nat.le_of_ble_eq_true rfl) ⟨Nat.le_of_ble_eq_true rfl, Nat.le_of_ble_eq_true rfl⟩ dX10_rise_18 (fun q3 => ?_)
    exact dx_iret2 C hr hlk dX10_rise_21 (fun h => h)
  · refine dx_ldc C kcX10_215 dX10_rise_10 ?_
    exact dx_iret2 C hr hlk dX10_rise_12 (fun h => h)
def f_X10_learn (a1 : Int32) (w : Mem) : Option (Int32 × Mem) :=
  (f_X10_isMatter a1 w).bind fun r1 => (if r1 = 0 then some (((-1000000001 : Int32), w)) else rd 25 (w 146) (3 : Int32) fun x2 => (f_X10_has x2 a1).bind fun r3 => (if r3 = 0 then (f_X10_remember w).bind fun w4 => rd 25 (w4 146) (3 : Int32) fun x5 => wr 25 146 (3 : Int32) (x5 ||| ((1 : Int32) <<< (a1 &&& 31))) w4 fun w6 => (f_X10_passes (60 : Int32) w6).bind fun w7 => rd 25 (w7 146) (3 : Int32) fun x8 => (f_X10_bits x8).bind fun r9 => some ((r9, w7)) else some (((-1000000003 : Int32), w))))
set_option maxRecDepth 20000 in
set_option maxHeartbeats 4000000 in
theorem tf_X10_learn {G : GT} {l : Launch} {z n : Nat} (a1 : Int32) (w : Mem) (q : Int32 × Mem) (hq : f_X10_learn a1 w = some q) : Mt G l z yX10_learn cX10_learn 2 (some .int) { frames := 2, cells := 0, slots := 0, locals := 45 } [.ref (z + 134), .int a1] (hp G z w) n (some (.int q.1)) (hp G z q.2) n := by
  refine mt_of (by decide +kernel) (Nat.le_of_ble_eq_true rfl) ?_
  intro p e s m below meth c C hr hlk hnm
  refine (?_ : DX p l e _ s m _ below meth c G z 2 n _ (fun v => v = q) 0 [(0, .ref (z + 134)), (1, .int a1)] [] w (f_X10_learn a1 w)) q hq rfl
  unfold f_X10_learn
  refine dx_aload_n C 0 dX10_learn_0 rfl rfl ?_
  refine dx_iload_n C 1 dX10_learn_1 rfl rfl ?_
  refine dx_callV1 C cl_X10_isMatter kmX10_190 (ci := 9) (b := 134) (As := [.int a1]) (rest := []) rfl (hp_of ly_134) (tf_X10_isMatter a1 w) rfl rfl (Nat.le_of_ble_eq_true rfl) ⟨Nat.le_of_ble_eq_true rfl, Nat.le_of_ble_eq_true rfl⟩ dX10_learn_2 (fun r1 => ?_)
  refine dx_if_ne C 11 dX10_learn_5 (by decide) ?_ ?_
  · refine dx_aload_n C 0 dX10_learn_11 rfl rfl ?_
    refine dgX10_47 C dX10_learn_12 ?_
    refine dx_iconst (v := (3 : Int32)) C dX10_learn_15 (by decide) ?_
    refine dx_rd C ly_146 dX10_learn_16 (fun x2 => ?_)
    refine dx_iload_n C 1 dX10_learn_17 rfl rfl ?_
    refine dx_callS1 C cl_X10_has kmX10_168 (As := [.int x2, .int a1]) (rest := []) (tf_X10_has x2 a1 w) rfl rfl (Nat.le_of_ble_eq_true rfl) ⟨Nat.le_of_ble_eq_true rfl, Nat.le_of_ble_eq_true rfl⟩ dX10_learn_18 (fun r3 => ?_)
    refine dx_if_eq C 27 dX10_learn_21 (by decide) ?_ ?_
    · refine dx_aload_n C 0 dX10_learn_27 rfl rfl ?_
      refine dx_callV3 C cl_X10_remember kmX10_216 (ci := 9) (b := 134) (As := []) (rest := []) rfl (hp_of ly_134) (tf_X10_remember w) rfl rfl (Nat.le_of_ble_eq_true rfl) ⟨Nat.le_of_ble_eq_true rfl, Nat.le_of_ble_eq_true rfl⟩ dX10_learn_28 (fun w4 => ?_)
      refine dx_aload_n C 0 dX10_learn_31 rfl rfl ?_
      refine dgX10_47 C dX10_learn_32 ?_
      refine dx_iconst (v := (3 : Int32)) C dX10_learn_35 (by decide) ?_
      refine dx_dup2 C dX10_learn_36 rfl rfl ?_
      refine dx_rd C ly_146 dX10_learn_37 (fun x5 => ?_)
      refine dx_iconst (v := (1 : Int32)) C dX10_learn_38 (by decide) ?_
      refine dx_iload_n C 1 dX10_learn_39 rfl rfl ?_
      refine dx_ishl C dX10_learn_40 ?_
      refine dx_ior C dX10_learn_41 ?_
      refine dx_wr C ly_146 dX10_learn_42 (fun w6 => ?_)
      refine dx_aload_n C 0 dX10_learn_43 rfl rfl ?_
      refine dx_bipush (v := (60 : Int32)) C dX10_learn_44 (by decide) ?_
      refine dx_callV3 C cl_X10_passes kmX10_230 (ci := 9) (b := 134) (As := [.int (60 : Int32)]) (rest := []) rfl (hp_of ly_134) (tf_X10_passes (60 : Int32) w6) rfl rfl (Nat.le_of_ble_eq_true rfl) ⟨Nat.le_of_ble_eq_true rfl, Nat.le_of_ble_eq_true rfl⟩ dX10_learn_46 (fun w7 => ?_)
      refine dx_aload_n C 0 dX10_learn_49 rfl rfl ?_
      refine dgX10_47 C dX10_learn_50 ?_
      refine dx_iconst (v := (3 : Int32)) C dX10_learn_53 (by decide) ?_
      refine dx_rd C ly_146 dX10_learn_54 (fun x8 => ?_)
      refine dx_callS1 C cl_X10_bits kmX10_172 (As := [.int x8]) (rest := []) (tf_X10_bits x8 w7) rfl rfl (Nat.le_of_ble_eq_true rfl) ⟨Nat.le_of_ble_eq_true rfl, Nat.le_of_ble_eq_true rfl⟩ dX10_learn_55 (fun r9 => ?_)
      exact dx_iret2 C hr hlk dX10_learn_58 (fun h => h)
    · refine dx_ldc C kcX10_215 dX10_learn_24 ?_
      exact dx_iret2 C hr hlk dX10_learn_26 (fun h => h)
  · refine dx_ldc C kcX10_193 dX10_learn_8 ?_
    exact dx_iret2 C hr hlk dX10_learn_10 (fun h => h)
def f_X10_isBridge (w : Mem) : Option (Int32) :=
  (if 0 < (w 134 16) then some ((1 : Int32)) else some ((0 : Int32)))
set_option maxRecDepth 20000 in
set_option maxHeartbeats 4000000 in
theorem tf_X10_isBridge {G : GT} {l : Launch} {z n : Nat} (w : Mem) (q : Int32) (hq : f_X10_isBridge w = some q) : Mt G l z yX10_isBridge cX10_isBridge 1 (some .boolean) { frames := 0, cells := 0, slots := 0, locals := 0 } [.ref (z + 134)] (hp G z w) n (some (.int q)) (hp G z w) n := by
  refine mt_of (by decide +kernel) (Nat.le_of_ble_eq_true rfl) ?_
  intro p e s m below meth c C hr hlk hnm
  refine (?_ : DX p l e _ s m _ below meth c G z 1 n _ (fun v => v = q) 0 [(0, .ref (z + 134))] [] w (f_X10_isBridge w)) q hq rfl
  unfold f_X10_isBridge
  refine dx_aload_n C 0 dX10_isBridge_0 rfl rfl ?_
  refine dgX10_150 C dX10_isBridge_1 ?_
  refine dx_if_le C 11 dX10_isBridge_4 (by decide) ?_ ?_
  · refine dx_iconst (v := (0 : Int32)) C dX10_isBridge_11 (by decide) ?_
    exact dx_zret1 C hr hlk (by decide) dX10_isBridge_12 (fun h => h)
  · refine dx_iconst (v := (1 : Int32)) C dX10_isBridge_7 (by decide) ?_
    refine dx_goto C 12 dX10_isBridge_8 (by decide) ?_
    exact dx_zret1 C hr hlk (by decide) dX10_isBridge_12 (fun h => h)
def f_X10_minute (a1 : Int32) (w : Mem) : Option (Int32 × Mem) :=
  (f_X10_in a1 (1 : Int32) (60 : Int32)).bind fun r1 => (if r1 = 0 then some (((-1000000002 : Int32), w)) else (f_X10_isBridge w).bind fun r2 => (if r2 = 0 then some (((-1000000003 : Int32), w)) else rd 25 (w 146) (0 : Int32) fun x3 => (if (900000 : Int32) < x3 then some (((-1000000004 : Int32), w)) else (f_X10_remember w).bind fun w4 => (f_X10_passes a1 w4).bind fun w5 => rd 25 (w5 146) (0 : Int32) fun x6 => some ((x6, w5)))))
set_option maxRecDepth 20000 in
set_option maxHeartbeats 4000000 in
theorem tf_X10_minute {G : GT} {l : Launch} {z n : Nat} (a1 : Int32) (w : Mem) (q : Int32 × Mem) (hq : f_X10_minute a1 w = some q) : Mt G l z yX10_minute cX10_minute 2 (some .int) { frames := 2, cells := 0, slots := 0, locals := 45 } [.ref (z + 134), .int a1] (hp G z w) n (some (.int q.1)) (hp G z q.2) n := by
  refine mt_of (by decide +kernel) (Nat.le_of_ble_eq_true rfl) ?_
  intro p e s m below meth c C hr hlk hnm
  refine (?_ : DX p l e _ s m _ below meth c G z 2 n _ (fun v => v = q) 0 [(0, .ref (z + 134)), (1, .int a1)] [] w (f_X10_minute a1 w)) q hq rfl
  unfold f_X10_minute
  refine dx_iload_n C 1 dX10_minute_0 rfl rfl ?_
  refine dx_iconst (v := (1 : Int32)) C dX10_minute_1 (by decide) ?_
  refine dx_bipush (v := (60 : Int32)) C dX10_minute_2 (by decide) ?_
  refine dx_callS1 C cl_X10_in kmX10_82 (As := [.int a1, .int (1 : Int32), .int (60 : Int32)]) (rest := []) (tf_X10_in a1 (1 : Int32) (60 : Int32) w) rfl rfl (Nat.le_of_ble_eq_true rfl) ⟨Nat.le_of_ble_eq_true rfl, Nat.le_of_ble_eq_true rfl⟩ dX10_minute_4 (fun r1 => ?_)
  refine dx_if_ne C 13 dX10_minute_7 (by decide) ?_ ?_
  · refine dx_aload_n C 0 dX10_minute_13 rfl rfl ?_
    refine dx_callV1 C cl_X10_isBridge kmX10_239 (ci := 9) (b := 134) (As := []) (rest := []) rfl (hp_of ly_134) (tf_X10_isBridge w) rfl rfl (Nat.le_of_ble_eq_true rfl) ⟨Nat.le_of_ble_eq_true rfl, Nat.le_of_ble_eq_true rfl⟩ dX10_minute_14 (fun r2 => ?_)
    refine dx_if_ne C 23 dX10_minute_17 (by decide) ?_ ?_
    · refine dx_aload_n C 0 dX10_minute_23 rfl rfl ?_
      refine dgX10_47 C dX10_minute_24 ?_
      refine dx_iconst (v := (0 : Int32)) C dX10_minute_27 (by decide) ?_
      refine dx_rd C ly_146 dX10_minute_28 (fun x3 => ?_)
      refine dx_ldc C kcX10_242 dX10_minute_29 ?_
      refine dx_icmp_le C 37 dX10_minute_31 (by decide) ?_ ?_
      · refine dx_aload_n C 0 dX10_minute_37 rfl rfl ?_
        refine dx_callV3 C cl_X10_remember kmX10_216 (ci := 9) (b := 134) (As := []) (rest := []) rfl (hp_of ly_134) (tf_X10_remember w) rfl rfl (Nat.le_of_ble_eq_true rfl) ⟨Nat.le_of_ble_eq_true rfl, Nat.le_of_ble_eq_true rfl⟩ dX10_minute_38 (fun w4 => ?_)
        refine dx_aload_n C 0 dX10_minute_41 rfl rfl ?_
        refine dx_iload_n C 1 dX10_minute_42 rfl rfl ?_
        refine dx_callV3 C cl_X10_passes kmX10_230 (ci := 9) (b := 134) (As := [.int a1]) (rest := []) rfl (hp_of ly_134) (tf_X10_passes a1 w4) rfl rfl (Nat.le_of_ble_eq_true rfl) ⟨Nat.le_of_ble_eq_true rfl, Nat.le_of_ble_eq_true rfl⟩ dX10_minute_43 (fun w5 => ?_)
        refine dx_aload_n C 0 dX10_minute_46 rfl rfl ?_
        refine dgX10_47 C dX10_minute_47 ?_
        refine dx_iconst (v := (0 : Int32)) C dX10_minute_50 (by decide) ?_
        refine dx_rd C ly_146 dX10_minute_51 (fun x6 => ?_)
        exact dx_iret2 C hr hlk dX10_minute_52 (fun h => h)
      · refine dx_ldc C kcX10_90 dX10_minute_34 ?_
        exact dx_iret2 C hr hlk dX10_minute_36 (fun h => h)
    · refine dx_ldc C kcX10_215 dX10_minute_20 ?_
      exact dx_iret2 C hr hlk dX10_minute_22 (fun h => h)
  · refine dx_ldc C kcX10_86 dX10_minute_10 ?_
    exact dx_iret2 C hr hlk dX10_minute_12 (fun h => h)
def f_X10_anew (w : Mem) : Option (Int32 × Mem) :=
  (f_X10_isBridge w).bind fun r1 => (if r1 = 0 then some (((-1000000003 : Int32), w)) else rd 25 (w 146) (1 : Int32) fun x2 => (if x2 = (9000 : Int32) then some (((-1000000004 : Int32), w)) else (f_X10_remember w).bind fun w3 => (lp (S := (Int32 × Mem)) (T := Mem) (fun s31 => (if s31.1 < (s31.2 134 18) then wr 25 146 ((7 : Int32) + s31.1) (0 : Int32) s31.2 fun w4 => wr 25 146 ((13 : Int32) + s31.1) (0 : Int32) w4 fun w5 => wr 25 146 ((19 : Int32) + s31.1) (0 : Int32) w5 fun w6 => some (Sum.inl ((s31.1 + (1 : Int32)), w6)) else some (Sum.inr s31.2))) 5000000000 ((0 : Int32), w3)).bind fun v7 => wr 25 146 (4 : Int32) (-1 : Int32) v7 fun w8 => wr 25 146 (5 : Int32) (0 : Int32) w8 fun w9 => wr 25 146 (6 : Int32) (-1 : Int32) w9 fun w10 => rd 25 (w10 146) (1 : Int32) fun x11 => wr 25 146 (1 : Int32) (x11 + (1 : Int32)) w10 fun w12 => rd 25 (w12 146) (1 : Int32) fun x13 => some ((x13, w12))))
set_option maxRecDepth 20000 in
set_option maxHeartbeats 4000000 in
theorem tf_X10_anew {G : GT} {l : Launch} {z n : Nat} (w : Mem) (q : Int32 × Mem) (hq : f_X10_anew w = some q) : Mt G l z yX10_anew cX10_anew 2 (some .int) { frames := 1, cells := 0, slots := 0, locals := 21 } [.ref (z + 134)] (hp G z w) n (some (.int q.1)) (hp G z q.2) n := by
  refine mt_of (by decide +kernel) (Nat.le_of_ble_eq_true rfl) ?_
  intro p e s m below meth c C hr hlk hnm
  refine (?_ : DX p l e _ s m _ below meth c G z 2 n _ (fun v => v = q) 0 [(0, .ref (z + 134))] [] w (f_X10_anew w)) q hq rfl
  unfold f_X10_anew
  refine dx_aload_n C 0 dX10_anew_0 rfl rfl ?_
  refine dx_callV1 C cl_X10_isBridge kmX10_239 (ci := 9) (b := 134) (As := []) (rest := []) rfl (hp_of ly_134) (tf_X10_isBridge w) rfl rfl (Nat.le_of_ble_eq_true rfl) ⟨Nat.le_of_ble_eq_true rfl, Nat.le_of_ble_eq_true rfl⟩ dX10_anew_1 (fun r1 => ?_)
  refine dx_if_ne C 10 dX10_anew_4 (by decide) ?_ ?_
  · refine dx_aload_n C 0 dX10_anew_10 rfl rfl ?_
    refine dgX10_47 C dX10_anew_11 ?_
    refine dx_iconst (v := (1 : Int32)) C dX10_anew_14 (by decide) ?_
    refine dx_rd C ly_146 dX10_anew_15 (fun x2 => ?_)
    refine dx_sipush (v := (9000 : Int32)) C dX10_anew_16 (by decide) ?_
    refine dx_icmp_ne C 25 dX10_anew_19 (by decide) ?_ ?_
    · refine dx_aload_n C 0 dX10_anew_25 rfl rfl ?_
      refine dx_callV3 C cl_X10_remember kmX10_216 (ci := 9) (b := 134) (As := []) (rest := []) rfl (hp_of ly_134) (tf_X10_remember w) rfl rfl (Nat.le_of_ble_eq_true rfl) ⟨Nat.le_of_ble_eq_true rfl, Nat.le_of_ble_eq_true rfl⟩ dX10_anew_26 (fun w3 => ?_)
      refine dx_iconst (v := (0 : Int32)) C dX10_anew_29 (by decide) ?_
      refine dx_istore_n C [(1, .int (0 : Int32)), (0, .ref (z + 134))] dX10_anew_30 rfl (by decide) rfl ?_
      refine dx_mv (lo2 := [(0, .ref (z + 134)), (1, .int (0 : Int32))]) [1, 0] rfl ?_
      refine dx_bind 75 (fun v7 => [(0, .ref (z + 134))]) (fun v7 => []) (fun v7 => v7) (fun v7 => (?_ : DX p l e _ s m _ below meth c G z 2 n _ _ 75 [(0, .ref (z + 134))] [] v7 _)) ?_
      · refine dx_aload_n C 0 dX10_anew_75 rfl rfl ?_
        refine dgX10_47 C dX10_anew_76 ?_
        refine dx_iconst (v := (4 : Int32)) C dX10_anew_79 (by decide) ?_
        refine dx_iconst (v := (-1 : Int32)) C dX10_anew_80 (by decide) ?_
        refine dx_wr C ly_146 dX10_anew_81 (fun w8 => ?_)
        refine dx_aload_n C 0 dX10_anew_82 rfl rfl ?_
        refine dgX10_47 C dX10_anew_83 ?_
        refine dx_iconst (v := (5 : Int32)) C dX10_anew_86 (by decide) ?_
        refine dx_iconst (v := (0 : Int32)) C dX10_anew_87 (by decide) ?_
        refine dx_wr C ly_146 dX10_anew_88 (fun w9 => ?_)
        refine dx_aload_n C 0 dX10_anew_89 rfl rfl ?_
        refine dgX10_47 C dX10_anew_90 ?_
        refine dx_bipush (v := (6 : Int32)) C dX10_anew_93 (by decide) ?_
        refine dx_iconst (v := (-1 : Int32)) C dX10_anew_95 (by decide) ?_
        refine dx_wr C ly_146 dX10_anew_96 (fun w10 => ?_)
        refine dx_aload_n C 0 dX10_anew_97 rfl rfl ?_
        refine dgX10_47 C dX10_anew_98 ?_
        refine dx_iconst (v := (1 : Int32)) C dX10_anew_101 (by decide) ?_
        refine dx_dup2 C dX10_anew_102 rfl rfl ?_
        refine dx_rd C ly_146 dX10_anew_103 (fun x11 => ?_)
        refine dx_iconst (v := (1 : Int32)) C dX10_anew_104 (by decide) ?_
        refine dx_iadd C dX10_anew_105 ?_
        refine dx_wr C ly_146 dX10_anew_106 (fun w12 => ?_)
        refine dx_aload_n C 0 dX10_anew_107 rfl rfl ?_
        refine dgX10_47 C dX10_anew_108 ?_
        refine dx_iconst (v := (1 : Int32)) C dX10_anew_111 (by decide) ?_
        refine dx_rd C ly_146 dX10_anew_112 (fun x13 => ?_)
        exact dx_iret2 C hr hlk dX10_anew_113 (fun h => h)
      · refine dx_lp (fun s31 => [(0, .ref (z + 134)), (1, .int s31.1)]) [] (fun s31 => s31.2) (fun s31 => (?_ : DX p l e _ s m _ below meth c G z 2 n _ _ 31 [(0, .ref (z + 134)), (1, .int s31.1)] [] s31.2 _)) 5000000000 ((0 : Int32), w3)
        refine dx_iload_n C 1 dX10_anew_31 rfl rfl ?_
        refine dx_aload_n C 0 dX10_anew_32 rfl rfl ?_
        refine dgX10_156 C dX10_anew_33 ?_
        refine dx_icmp_ge C 75 dX10_anew_36 (by decide) ?_ ?_
        · refine dx_mv (lo2 := [(0, .ref (z + 134))]) [0] rfl ?_
          exact dx_end (fun h => h)
        · refine dx_aload_n C 0 dX10_anew_39 rfl rfl ?_
          refine dgX10_47 C dX10_anew_40 ?_
          refine dx_bipush (v := (7 : Int32)) C dX10_anew_43 (by decide) ?_
          refine dx_iload_n C 1 dX10_anew_45 rfl rfl ?_
          refine dx_iadd C dX10_anew_46 ?_
          refine dx_iconst (v := (0 : Int32)) C dX10_anew_47 (by decide) ?_
          refine dx_wr C ly_146 dX10_anew_48 (fun w4 => ?_)
          refine dx_aload_n C 0 dX10_anew_49 rfl rfl ?_
          refine dgX10_47 C dX10_anew_50 ?_
          refine dx_bipush (v := (13 : Int32)) C dX10_anew_53 (by decide) ?_
          refine dx_iload_n C 1 dX10_anew_55 rfl rfl ?_
          refine dx_iadd C dX10_anew_56 ?_
          refine dx_iconst (v := (0 : Int32)) C dX10_anew_57 (by decide) ?_
          refine dx_wr C ly_146 dX10_anew_58 (fun w5 => ?_)
          refine dx_aload_n C 0 dX10_anew_59 rfl rfl ?_
          refine dgX10_47 C dX10_anew_60 ?_
          refine dx_bipush (v := (19 : Int32)) C dX10_anew_63 (by decide) ?_
          refine dx_iload_n C 1 dX10_anew_65 rfl rfl ?_
          refine dx_iadd C dX10_anew_66 ?_
          refine dx_iconst (v := (0 : Int32)) C dX10_anew_67 (by decide) ?_
          refine dx_wr C ly_146 dX10_anew_68 (fun w6 => ?_)
          refine dx_iinc (v := (s31.1 + (1 : Int32))) C 1 [(1, .int (s31.1 + (1 : Int32))), (0, .ref (z + 134))] dX10_anew_69 rfl rfl (by decide) rfl ?_
          refine dx_goto C 31 dX10_anew_72 (by decide) ?_
          refine dx_mv (lo2 := [(0, .ref (z + 134)), (1, .int (s31.1 + (1 : Int32)))]) [1, 0] rfl ?_
          exact dx_end (fun h => h)
    · refine dx_ldc C kcX10_90 dX10_anew_22 ?_
      exact dx_iret2 C hr hlk dX10_anew_24 (fun h => h)
  · refine dx_ldc C kcX10_215 dX10_anew_7 ?_
    exact dx_iret2 C hr hlk dX10_anew_9 (fun h => h)
def f_X10_draw (a1 : Int32) (w : Mem) : Option (Int32 × Mem) :=
  pl 134 28 ((((w 134 28).toInt64 * (1103515245 : Int64)) + (12345 : Int64)) - (((w 134 28).toInt64 * (1103515245 : Int64)) + (12345 : Int64)) / (2147483648 : Int64) * (2147483648 : Int64)) w fun w1 => nzl ((a1).toInt64) (some ((((((w1 134 28).toInt64 / (65536 : Int64)) - ((w1 134 28).toInt64 / (65536 : Int64)) / (a1).toInt64 * (a1).toInt64)).toInt32, w1)))
set_option maxRecDepth 20000 in
set_option maxHeartbeats 4000000 in
theorem tf_X10_draw {G : GT} {l : Launch} {z n : Nat} (a1 : Int32) (w : Mem) (q : Int32 × Mem) (hq : f_X10_draw a1 w = some q) : Mt G l z yX10_draw cX10_draw 2 (some .int) { frames := 0, cells := 0, slots := 0, locals := 0 } [.ref (z + 134), .int a1] (hp G z w) n (some (.int q.1)) (hp G z q.2) n := by
  refine mt_of (by decide +kernel) (Nat.le_of_ble_eq_true rfl) ?_
  intro p e s m below meth c C hr hlk hnm
  refine (?_ : DX p l e _ s m _ below meth c G z 2 n _ (fun v => v = q) 0 [(0, .ref (z + 134)), (1, .int a1)] [] w (f_X10_draw a1 w)) q hq rfl
  unfold f_X10_draw
  refine dx_aload_n C 0 dX10_draw_0 rfl rfl ?_
  refine dx_aload_n C 0 dX10_draw_1 rfl rfl ?_
  refine dgX10_243 C dX10_draw_2 ?_
  refine dx_ldc2 C kcX10_247 dX10_draw_5 ?_
  refine dx_lmul C dX10_draw_8 ?_
  refine dx_ldc2 C kcX10_249 dX10_draw_9 ?_
  refine dx_ladd C dX10_draw_12 ?_
  refine dx_ldc2 C kcX10_251 dX10_draw_13 ?_
  refine dx_lrem C dX10_draw_16 (by decide) ?_
  refine dpX10_243 C dX10_draw_17 (fun w1 => ?_)
  refine dx_aload_n C 0 dX10_draw_20 rfl rfl ?_
  refine dgX10_243 C dX10_draw_21 ?_
  refine dx_ldc2 C kcX10_253 dX10_draw_24 ?_
  refine dx_ldiv C dX10_draw_27 (by decide) ?_
  refine dx_iload_n C 1 dX10_draw_28 rfl rfl ?_
  refine dx_i2l C dX10_draw_29 ?_
  refine dx_nzl (fun hn2 => ?_)
  refine dx_lrem C dX10_draw_30 hn2 ?_
  refine dx_l2i C dX10_draw_31 ?_
  exact dx_iret2 C hr hlk dX10_draw_32 (fun h => h)
def f_X10_draws (w : Mem) : Option (Mem) :=
  rd 25 (w 146) (4 : Int32) fun x1 => (if x1 = (-1 : Int32) then ((if 0 < (w 134 18) then (f_X10_draw (w 134 18) w).bind fun q11 => some ((q11.1, q11.2)) else some (((-1 : Int32), w))) : Option (Int32 × Mem)).bind fun v7 => ((if v7.1 = (-1 : Int32) then some (v7.2) else rd 25 (v7.2 146) ((7 : Int32) + v7.1) fun x9 => (if x9 = 0 then (f_X10_seats v7.1 v7.2).bind fun w10 => some (w10) else some (v7.2))) : Option Mem).bind fun v8 => some (v8) else (f_X10_draw (4 : Int32) w).bind fun q2 => (if q2.1 = 0 then (f_X10_rises q2.2).bind fun q6 => some (q6.2) else (if 0 < (q2.2 134 17) then (f_X10_draw (q2.2 134 17) q2.2).bind fun q3 => (f_X10_isTellable q3.1 q3.2).bind fun r4 => (if r4 = 0 then some (q3.2) else (f_X10_tells q3.1 q3.2).bind fun q5 => some (q5.2)) else some (q2.2))))
set_option maxRecDepth 20000 in
set_option maxHeartbeats 4000000 in
theorem tf_X10_draws {G : GT} {l : Launch} {z n : Nat} (w : Mem) (q : Mem) (hq : f_X10_draws w = some q) : Mt G l z yX10_draws cX10_draws 2 none { frames := 3, cells := 0, slots := 0, locals := 68 } [.ref (z + 134)] (hp G z w) n none (hp G z q) n := by
  refine mt_of (by decide +kernel) (Nat.le_of_ble_eq_true rfl) ?_
  intro p e s m below meth c C hr hlk hnm
  refine (?_ : DX p l e _ s m _ below meth c G z 2 n _ (fun v => v = q) 0 [(0, .ref (z + 134))] [] w (f_X10_draws w)) q hq rfl
  unfold f_X10_draws
  refine dx_aload_n C 0 dX10_draws_0 rfl rfl ?_
  refine dgX10_47 C dX10_draws_1 ?_
  refine dx_iconst (v := (4 : Int32)) C dX10_draws_4 (by decide) ?_
  refine dx_rd C ly_146 dX10_draws_5 (fun x1 => ?_)
  refine dx_iconst (v := (-1 : Int32)) C dX10_draws_6 (by decide) ?_
  refine dx_icmp_ne C 55 dX10_draws_7 (by decide) ?_ ?_
  · refine dx_aload_n C 0 dX10_draws_55 rfl rfl ?_
    refine dx_iconst (v := (4 : Int32)) C dX10_draws_56 (by decide) ?_
    refine dx_callV2 C cl_X10_draw kmX10_255 (ci := 9) (b := 134) (As := [.int (4 : Int32)]) (rest := []) rfl (hp_of ly_134) (tf_X10_draw (4 : Int32) w) rfl rfl (Nat.le_of_ble_eq_true rfl) ⟨Nat.le_of_ble_eq_true rfl, Nat.le_of_ble_eq_true rfl⟩ dX10_draws_57 (fun q2 => ?_)
    refine dx_if_ne C 71 dX10_draws_60 (by decide) ?_ ?_
    · refine dx_aload_n C 0 dX10_draws_71 rfl rfl ?_
      refine dgX10_153 C dX10_draws_72 ?_
      refine dx_if_le C 101 dX10_draws_75 (by decide) ?_ ?_
      · exact dx_vret C hr hlk dX10_draws_101 (fun h => h)
      · refine dx_aload_n C 0 dX10_draws_78 rfl rfl ?_
        refine dx_aload_n C 0 dX10_draws_79 rfl rfl ?_
        refine dgX10_153 C dX10_draws_80 ?_
        refine dx_callV2 C cl_X10_draw kmX10_255 (ci := 9) (b := 134) (As := [.int (q2.2 134 17)]) (rest := []) rfl (hp_of ly_134) (tf_X10_draw (q2.2 134 17) q2.2) rfl rfl (Nat.le_of_ble_eq_true rfl) ⟨Nat.le_of_ble_eq_true rfl, Nat.le_of_ble_eq_true rfl⟩ dX10_draws_83 (fun q3 => ?_)
        refine dx_istore_n C [(1, .int q3.1), (0, .ref (z + 134))] dX10_draws_86 rfl (by decide) rfl ?_
        refine dx_aload_n C 1 dX10_draws_87 rfl rfl ?_
        refine dx_iload_n C 0 dX10_draws_88 rfl rfl ?_
        refine dx_callV1 C cl_X10_isTellable kmX10_233 (ci := 9) (b := 134) (As := [.int q3.1]) (rest := []) rfl (hp_of ly_134) (tf_X10_isTellable q3.1 q3.2) rfl rfl (Nat.le_of_ble_eq_true rfl) ⟨Nat.le_of_ble_eq_true rfl, Nat.le_of_ble_eq_true rfl⟩ dX10_draws_89 (fun r4 => ?_)
        refine dx_if_eq C 101 dX10_draws_92 (by decide) ?_ ?_
        · exact dx_vret C hr hlk dX10_draws_101 (fun h => h)
        · refine dx_aload_n C 1 dX10_draws_95 rfl rfl ?_
          refine dx_iload_n C 0 dX10_draws_96 rfl rfl ?_
          refine dx_callV2 C cl_X10_tells kmX10_236 (ci := 9) (b := 134) (As := [.int q3.1]) (rest := []) rfl (hp_of ly_134) (tf_X10_tells q3.1 q3.2) rfl rfl (Nat.le_of_ble_eq_true rfl) ⟨Nat.le_of_ble_eq_true rfl, Nat.le_of_ble_eq_true rfl⟩ dX10_draws_97 (fun q5 => ?_)
          refine dx_pop C dX10_draws_100 rfl ?_
          exact dx_vret C hr hlk dX10_draws_101 (fun h => h)
    · refine dx_aload_n C 0 dX10_draws_63 rfl rfl ?_
      refine dx_callV2 C cl_X10_rises kmX10_227 (ci := 9) (b := 134) (As := []) (rest := []) rfl (hp_of ly_134) (tf_X10_rises q2.2) rfl rfl (Nat.le_of_ble_eq_true rfl) ⟨Nat.le_of_ble_eq_true rfl, Nat.le_of_ble_eq_true rfl⟩ dX10_draws_64 (fun q6 => ?_)
      refine dx_pop C dX10_draws_67 rfl ?_
      refine dx_goto C 101 dX10_draws_68 (by decide) ?_
      exact dx_vret C hr hlk dX10_draws_101 (fun h => h)
  · refine dx_aload_n C 0 dX10_draws_10 rfl rfl ?_
    refine dgX10_156 C dX10_draws_11 ?_
    refine dx_bind 29 (fun v7 => [(0, .ref (z + 134))]) (fun v7 => [.int v7.1]) (fun v7 => v7.2) (fun v7 => (?_ : DX p l e _ s m _ below meth c G z 2 n _ _ 29 [(0, .ref (z + 134))] [.int v7.1] v7.2 _)) ?_
    · refine dx_istore_n C [(1, .int v7.1), (0, .ref (z + 134))] dX10_draws_29 rfl (by decide) rfl ?_
      refine dx_iload_n C 0 dX10_draws_30 rfl rfl ?_
      refine dx_iconst (v := (-1 : Int32)) C dX10_draws_31 (by decide) ?_
      refine dx_bind 52 (fun v8 => []) (fun v8 => []) (fun v8 => v8) (fun v8 => (?_ : DX p l e _ s m _ below meth c G z 2 n _ _ 52 [] [] v8 _)) ?_
      · refine dx_goto C 101 dX10_draws_52 (by decide) ?_
        exact dx_vret C hr hlk dX10_draws_101 (fun h => h)
      · refine dx_icmp_eq C 52 dX10_draws_32 (by decide) ?_ ?_
        · refine dx_mv (lo2 := []) [] rfl ?_
          exact dx_end (fun h => h)
        · refine dx_aload_n C 1 dX10_draws_35 rfl rfl ?_
          refine dgX10_47 C dX10_draws_36 ?_
          refine dx_bipush (v := (7 : Int32)) C dX10_draws_39 (by decide) ?_
          refine dx_iload_n C 0 dX10_draws_41 rfl rfl ?_
          refine dx_iadd C dX10_draws_42 ?_
          refine dx_rd C ly_146 dX10_draws_43 (fun x9 => ?_)
          refine dx_if_ne C 52 dX10_draws_44 (by decide) ?_ ?_
          · refine dx_mv (lo2 := []) [] rfl ?_
            exact dx_end (fun h => h)
          · refine dx_aload_n C 1 dX10_draws_47 rfl rfl ?_
            refine dx_iload_n C 0 dX10_draws_48 rfl rfl ?_
            refine dx_callV3 C cl_X10_seats kmX10_219 (ci := 9) (b := 134) (As := [.int v7.1]) (rest := []) rfl (hp_of ly_134) (tf_X10_seats v7.1 v7.2) rfl rfl (Nat.le_of_ble_eq_true rfl) ⟨Nat.le_of_ble_eq_true rfl, Nat.le_of_ble_eq_true rfl⟩ dX10_draws_49 (fun w10 => ?_)
            refine dx_mv (lo2 := []) [] rfl ?_
            exact dx_end (fun h => h)
    · refine dx_if_le C 28 dX10_draws_14 (by decide) ?_ ?_
      · refine dx_iconst (v := (-1 : Int32)) C dX10_draws_28 (by decide) ?_
        exact dx_end (fun h => h)
      · refine dx_aload_n C 0 dX10_draws_17 rfl rfl ?_
        refine dx_aload_n C 0 dX10_draws_18 rfl rfl ?_
        refine dgX10_156 C dX10_draws_19 ?_
        refine dx_callV2 C cl_X10_draw kmX10_255 (ci := 9) (b := 134) (As := [.int (w 134 18)]) (rest := []) rfl (hp_of ly_134) (tf_X10_draw (w 134 18) w) rfl rfl (Nat.le_of_ble_eq_true rfl) ⟨Nat.le_of_ble_eq_true rfl, Nat.le_of_ble_eq_true rfl⟩ dX10_draws_22 (fun q11 => ?_)
        refine dx_goto C 29 dX10_draws_25 (by decide) ?_
        exact dx_end (fun h => h)
def f_X10_drift (a1 : Int32) (w : Mem) : Option (Int32 × Mem) :=
  (f_X10_in a1 (1 : Int32) (30 : Int32)).bind fun r1 => (if r1 = 0 then some (((-1000000002 : Int32), w)) else (f_X10_isBridge w).bind fun r2 => (if r2 = 0 then some (((-1000000003 : Int32), w)) else rd 25 (w 146) (0 : Int32) fun x3 => (if (900000 : Int32) < x3 then some (((-1000000004 : Int32), w)) else (lp (S := (Int32 × Mem)) (T := Mem) (fun s39 => (if s39.1 < a1 then (f_X10_remember s39.2).bind fun w4 => (f_X10_draws w4).bind fun w5 => (f_X10_passes (1 : Int32) w5).bind fun w6 => some (Sum.inl ((s39.1 + (1 : Int32)), w6)) else some (Sum.inr s39.2))) 5000000000 ((0 : Int32), w)).bind fun v7 => rd 25 (v7 146) (0 : Int32) fun x8 => some ((x8, v7)))))
set_option maxRecDepth 20000 in
set_option maxHeartbeats 4000000 in
theorem tf_X10_drift {G : GT} {l : Launch} {z n : Nat} (a1 : Int32) (w : Mem) (q : Int32 × Mem) (hq : f_X10_drift a1 w = some q) : Mt G l z yX10_drift cX10_drift 3 (some .int) { frames := 4, cells := 0, slots := 0, locals := 89 } [.ref (z + 134), .int a1] (hp G z w) n (some (.int q.1)) (hp G z q.2) n := by
  refine mt_of (by decide +kernel) (Nat.le_of_ble_eq_true rfl) ?_
  intro p e s m below meth c C hr hlk hnm
  refine (?_ : DX p l e _ s m _ below meth c G z 3 n _ (fun v => v = q) 0 [(0, .ref (z + 134)), (1, .int a1)] [] w (f_X10_drift a1 w)) q hq rfl
  unfold f_X10_drift
  refine dx_iload_n C 1 dX10_drift_0 rfl rfl ?_
  refine dx_iconst (v := (1 : Int32)) C dX10_drift_1 (by decide) ?_
  refine dx_bipush (v := (30 : Int32)) C dX10_drift_2 (by decide) ?_
  refine dx_callS1 C cl_X10_in kmX10_82 (As := [.int a1, .int (1 : Int32), .int (30 : Int32)]) (rest := []) (tf_X10_in a1 (1 : Int32) (30 : Int32) w) rfl rfl (Nat.le_of_ble_eq_true rfl) ⟨Nat.le_of_ble_eq_true rfl, Nat.le_of_ble_eq_true rfl⟩ dX10_drift_4 (fun r1 => ?_)
  refine dx_if_ne C 13 dX10_drift_7 (by decide) ?_ ?_
  · refine dx_aload_n C 0 dX10_drift_13 rfl rfl ?_
    refine dx_callV1 C cl_X10_isBridge kmX10_239 (ci := 9) (b := 134) (As := []) (rest := []) rfl (hp_of ly_134) (tf_X10_isBridge w) rfl rfl (Nat.le_of_ble_eq_true rfl) ⟨Nat.le_of_ble_eq_true rfl, Nat.le_of_ble_eq_true rfl⟩ dX10_drift_14 (fun r2 => ?_)
    refine dx_if_ne C 23 dX10_drift_17 (by decide) ?_ ?_
    · refine dx_aload_n C 0 dX10_drift_23 rfl rfl ?_
      refine dgX10_47 C dX10_drift_24 ?_
      refine dx_iconst (v := (0 : Int32)) C dX10_drift_27 (by decide) ?_
      refine dx_rd C ly_146 dX10_drift_28 (fun x3 => ?_)
      refine dx_ldc C kcX10_242 dX10_drift_29 ?_
      refine dx_icmp_le C 37 dX10_drift_31 (by decide) ?_ ?_
      · refine dx_iconst (v := (0 : Int32)) C dX10_drift_37 (by decide) ?_
        refine dx_istore_n C [(2, .int (0 : Int32)), (0, .ref (z + 134)), (1, .int a1)] dX10_drift_38 rfl (by decide) rfl ?_
        refine dx_mv (lo2 := [(0, .ref (z + 134)), (1, .int a1), (2, .int (0 : Int32))]) [1, 2, 0] rfl ?_
        refine dx_bind 63 (fun v7 => [(0, .ref (z + 134))]) (fun v7 => []) (fun v7 => v7) (fun v7 => (?_ : DX p l e _ s m _ below meth c G z 3 n _ _ 63 [(0, .ref (z + 134))] [] v7 _)) ?_
        · refine dx_aload_n C 0 dX10_drift_63 rfl rfl ?_
          refine dgX10_47 C dX10_drift_64 ?_
          refine dx_iconst (v := (0 : Int32)) C dX10_drift_67 (by decide) ?_
          refine dx_rd C ly_146 dX10_drift_68 (fun x8 => ?_)
          exact dx_iret2 C hr hlk dX10_drift_69 (fun h => h)
        · refine dx_lp (fun s39 => [(0, .ref (z + 134)), (1, .int a1), (2, .int s39.1)]) [] (fun s39 => s39.2) (fun s39 => (?_ : DX p l e _ s m _ below meth c G z 3 n _ _ 39 [(0, .ref (z + 134)), (1, .int a1), (2, .int s39.1)] [] s39.2 _)) 5000000000 ((0 : Int32), w)
          refine dx_iload_n C 2 dX10_drift_39 rfl rfl ?_
          refine dx_iload_n C 1 dX10_drift_40 rfl rfl ?_
          refine dx_icmp_ge C 63 dX10_drift_41 (by decide) ?_ ?_
          · refine dx_mv (lo2 := [(0, .ref (z + 134))]) [0] rfl ?_
            exact dx_end (fun h => h)
          · refine dx_aload_n C 0 dX10_drift_44 rfl rfl ?_
            refine dx_callV3 C cl_X10_remember kmX10_216 (ci := 9) (b := 134) (As := []) (rest := []) rfl (hp_of ly_134) (tf_X10_remember s39.2) rfl rfl (Nat.le_of_ble_eq_true rfl) ⟨Nat.le_of_ble_eq_true rfl, Nat.le_of_ble_eq_true rfl⟩ dX10_drift_45 (fun w4 => ?_)
            refine dx_aload_n C 0 dX10_drift_48 rfl rfl ?_
            refine dx_callV3 C cl_X10_draws kmX10_258 (ci := 9) (b := 134) (As := []) (rest := []) rfl (hp_of ly_134) (tf_X10_draws w4) rfl rfl (Nat.le_of_ble_eq_true rfl) ⟨Nat.le_of_ble_eq_true rfl, Nat.le_of_ble_eq_true rfl⟩ dX10_drift_49 (fun w5 => ?_)
            refine dx_aload_n C 0 dX10_drift_52 rfl rfl ?_
            refine dx_iconst (v := (1 : Int32)) C dX10_drift_53 (by decide) ?_
            refine dx_callV3 C cl_X10_passes kmX10_230 (ci := 9) (b := 134) (As := [.int (1 : Int32)]) (rest := []) rfl (hp_of ly_134) (tf_X10_passes (1 : Int32) w5) rfl rfl (Nat.le_of_ble_eq_true rfl) ⟨Nat.le_of_ble_eq_true rfl, Nat.le_of_ble_eq_true rfl⟩ dX10_drift_54 (fun w6 => ?_)
            refine dx_iinc (v := (s39.1 + (1 : Int32))) C 2 [(2, .int (s39.1 + (1 : Int32))), (0, .ref (z + 134)), (1, .int a1)] dX10_drift_57 rfl rfl (by decide) rfl ?_
            refine dx_goto C 39 dX10_drift_60 (by decide) ?_
            refine dx_mv (lo2 := [(0, .ref (z + 134)), (1, .int a1), (2, .int (s39.1 + (1 : Int32)))]) [1, 2, 0] rfl ?_
            exact dx_end (fun h => h)
      · refine dx_ldc C kcX10_90 dX10_drift_34 ?_
        exact dx_iret2 C hr hlk dX10_drift_36 (fun h => h)
    · refine dx_ldc C kcX10_215 dX10_drift_20 ?_
      exact dx_iret2 C hr hlk dX10_drift_22 (fun h => h)
  · refine dx_ldc C kcX10_86 dX10_drift_10 ?_
    exact dx_iret2 C hr hlk dX10_drift_12 (fun h => h)
def f_X10_undo (a1 : Int32) (w : Mem) : Option (Int32 × Mem) :=
  (f_X10_in a1 (1 : Int32) (30 : Int32)).bind fun r1 => (if r1 = 0 then some (((-1000000002 : Int32), w)) else (if (w 134 25) < a1 then some (((-1000000003 : Int32), w)) else pw 134 26 ((((w 134 26) + (30 : Int32)) - a1) - (((w 134 26) + (30 : Int32)) - a1) / (30 : Int32) * (30 : Int32)) w fun w2 => pw 134 25 ((w2 134 25) - a1) w2 fun w3 => (lp (S := (Int32 × Mem)) (T := Mem) (fun s52 => (if s52.1 < (25 : Int32) then rd 750 (s52.2 147) (((25 : Int32) * (s52.2 134 26)) + s52.1) fun x4 => wr 25 146 s52.1 x4 s52.2 fun w5 => some (Sum.inl ((s52.1 + (1 : Int32)), w5)) else some (Sum.inr s52.2))) 5000000000 ((0 : Int32), w3)).bind fun v6 => rd 25 (v6 146) (0 : Int32) fun x7 => some ((x7, v6))))
set_option maxRecDepth 20000 in
set_option maxHeartbeats 4000000 in
theorem tf_X10_undo {G : GT} {l : Launch} {z n : Nat} (a1 : Int32) (w : Mem) (q : Int32 × Mem) (hq : f_X10_undo a1 w = some q) : Mt G l z yX10_undo cX10_undo 3 (some .int) { frames := 1, cells := 0, slots := 0, locals := 22 } [.ref (z + 134), .int a1] (hp G z w) n (some (.int q.1)) (hp G z q.2) n := by
  refine mt_of (by decide +kernel) (Nat.le_of_ble_eq_true rfl) ?_
  intro p e s m below meth c C hr hlk hnm
  refine (?_ : DX p l e _ s m _ below meth c G z 3 n _ (fun v => v = q) 0 [(0, .ref (z + 134)), (1, .int a1)] [] w (f_X10_undo a1 w)) q hq rfl
  unfold f_X10_undo
  refine dx_iload_n C 1 dX10_undo_0 rfl rfl ?_
  refine dx_iconst (v := (1 : Int32)) C dX10_undo_1 (by decide) ?_
  refine dx_bipush (v := (30 : Int32)) C dX10_undo_2 (by decide) ?_
  refine dx_callS1 C cl_X10_in kmX10_82 (As := [.int a1, .int (1 : Int32), .int (30 : Int32)]) (rest := []) (tf_X10_in a1 (1 : Int32) (30 : Int32) w) rfl rfl (Nat.le_of_ble_eq_true rfl) ⟨Nat.le_of_ble_eq_true rfl, Nat.le_of_ble_eq_true rfl⟩ dX10_undo_4 (fun r1 => ?_)
  refine dx_if_ne C 13 dX10_undo_7 (by decide) ?_ ?_
  · refine dx_iload_n C 1 dX10_undo_13 rfl rfl ?_
    refine dx_aload_n C 0 dX10_undo_14 rfl rfl ?_
    refine dgX10_159 C dX10_undo_15 ?_
    refine dx_icmp_le C 24 dX10_undo_18 (by decide) ?_ ?_
    · refine dx_aload_n C 0 dX10_undo_24 rfl rfl ?_
      refine dx_aload_n C 0 dX10_undo_25 rfl rfl ?_
      refine dgX10_212 C dX10_undo_26 ?_
      refine dx_bipush (v := (30 : Int32)) C dX10_undo_29 (by decide) ?_
      refine dx_iadd C dX10_undo_31 ?_
      refine dx_iload_n C 1 dX10_undo_32 rfl rfl ?_
      refine dx_isub C dX10_undo_33 ?_
      refine dx_bipush (v := (30 : Int32)) C dX10_undo_34 (by decide) ?_
      refine dx_irem C dX10_undo_36 (by decide) ?_
      refine dpX10_212 C dX10_undo_37 (fun w2 => ?_)
      refine dx_aload_n C 0 dX10_undo_40 rfl rfl ?_
      refine dx_dup C dX10_undo_41 rfl ?_
      refine dgX10_159 C dX10_undo_42 ?_
      refine dx_iload_n C 1 dX10_undo_45 rfl rfl ?_
      refine dx_isub C dX10_undo_46 ?_
      refine dpX10_159 C dX10_undo_47 (fun w3 => ?_)
      refine dx_iconst (v := (0 : Int32)) C dX10_undo_50 (by decide) ?_
      refine dx_istore_n C [(2, .int (0 : Int32)), (0, .ref (z + 134)), (1, .int a1)] dX10_undo_51 rfl (by decide) rfl ?_
      refine dx_mv (lo2 := [(0, .ref (z + 134)), (2, .int (0 : Int32))]) [1, 0] rfl ?_
      refine dx_bind 84 (fun v6 => [(0, .ref (z + 134))]) (fun v6 => []) (fun v6 => v6) (fun v6 => (?_ : DX p l e _ s m _ below meth c G z 3 n _ _ 84 [(0, .ref (z + 134))] [] v6 _)) ?_
      · refine dx_aload_n C 0 dX10_undo_84 rfl rfl ?_
        refine dgX10_47 C dX10_undo_85 ?_
        refine dx_iconst (v := (0 : Int32)) C dX10_undo_88 (by decide) ?_
        refine dx_rd C ly_146 dX10_undo_89 (fun x7 => ?_)
        exact dx_iret2 C hr hlk dX10_undo_90 (fun h => h)
      · refine dx_lp (fun s52 => [(0, .ref (z + 134)), (2, .int s52.1)]) [] (fun s52 => s52.2) (fun s52 => (?_ : DX p l e _ s m _ below meth c G z 3 n _ _ 52 [(0, .ref (z + 134)), (2, .int s52.1)] [] s52.2 _)) 5000000000 ((0 : Int32), w3)
        refine dx_iload_n C 1 dX10_undo_52 rfl rfl ?_
        refine dx_bipush (v := (25 : Int32)) C dX10_undo_53 (by decide) ?_
        refine dx_icmp_ge C 84 dX10_undo_55 (by decide) ?_ ?_
        · refine dx_mv (lo2 := [(0, .ref (z + 134))]) [0] rfl ?_
          exact dx_end (fun h => h)
        · refine dx_aload_n C 0 dX10_undo_58 rfl rfl ?_
          refine dgX10_47 C dX10_undo_59 ?_
          refine dx_iload_n C 1 dX10_undo_62 rfl rfl ?_
          refine dx_aload_n C 0 dX10_undo_63 rfl rfl ?_
          refine dgX10_50 C dX10_undo_64 ?_
          refine dx_bipush (v := (25 : Int32)) C dX10_undo_67 (by decide) ?_
          refine dx_aload_n C 0 dX10_undo_69 rfl rfl ?_
          refine dgX10_212 C dX10_undo_70 ?_
          refine dx_imul C dX10_undo_73 ?_
          refine dx_iload_n C 1 dX10_undo_74 rfl rfl ?_
          refine dx_iadd C dX10_undo_75 ?_
          refine dx_rd C ly_147 dX10_undo_76 (fun x4 => ?_)
          refine dx_wr C ly_146 dX10_undo_77 (fun w5 => ?_)
          refine dx_iinc (v := (s52.1 + (1 : Int32))) C 1 [(2, .int (s52.1 + (1 : Int32))), (0, .ref (z + 134))] dX10_undo_78 rfl rfl (by decide) rfl ?_
          refine dx_goto C 52 dX10_undo_81 (by decide) ?_
          refine dx_mv (lo2 := [(0, .ref (z + 134)), (2, .int (s52.1 + (1 : Int32)))]) [1, 0] rfl ?_
          exact dx_end (fun h => h)
    · refine dx_ldc C kcX10_215 dX10_undo_21 ?_
      exact dx_iret2 C hr hlk dX10_undo_23 (fun h => h)
  · refine dx_ldc C kcX10_86 dX10_undo_10 ?_
    exact dx_iret2 C hr hlk dX10_undo_12 (fun h => h)
def f_X10_stay (a1 : Int32) (a2 : Int32) (w : Mem) : Option (Int32) :=
  (f_X10_isTraveller a1 w).bind fun r1 => (if r1 = 0 then some ((-1000000001 : Int32)) else (f_X10_isMatter a2 w).bind fun r2 => (if r2 = 0 then some ((-1000000001 : Int32)) else (f_X10_stayOf a1 a2 w).bind fun r3 => some (r3)))
set_option maxRecDepth 20000 in
set_option maxHeartbeats 4000000 in
theorem tf_X10_stay {G : GT} {l : Launch} {z n : Nat} (a1 : Int32) (a2 : Int32) (w : Mem) (q : Int32) (hq : f_X10_stay a1 a2 w = some q) : Mt G l z yX10_stay cX10_stay 3 (some .int) { frames := 2, cells := 0, slots := 0, locals := 45 } [.ref (z + 134), .int a1, .int a2] (hp G z w) n (some (.int q)) (hp G z w) n := by
  refine mt_of (by decide +kernel) (Nat.le_of_ble_eq_true rfl) ?_
  intro p e s m below meth c C hr hlk hnm
  refine (?_ : DX p l e _ s m _ below meth c G z 3 n _ (fun v => v = q) 0 [(0, .ref (z + 134)), (1, .int a1), (2, .int a2)] [] w (f_X10_stay a1 a2 w)) q hq rfl
  unfold f_X10_stay
  refine dx_aload_n C 0 dX10_stay_0 rfl rfl ?_
  refine dx_iload_n C 1 dX10_stay_1 rfl rfl ?_
  refine dx_callV1 C cl_X10_isTraveller kmX10_203 (ci := 9) (b := 134) (As := [.int a1]) (rest := []) rfl (hp_of ly_134) (tf_X10_isTraveller a1 w) rfl rfl (Nat.le_of_ble_eq_true rfl) ⟨Nat.le_of_ble_eq_true rfl, Nat.le_of_ble_eq_true rfl⟩ dX10_stay_2 (fun r1 => ?_)
  refine dx_if_eq C 25 dX10_stay_5 (by decide) ?_ ?_
  · refine dx_ldc C kcX10_193 dX10_stay_25 ?_
    exact dx_iret1 C hr hlk dX10_stay_27 (fun h => h)
  · refine dx_aload_n C 0 dX10_stay_8 rfl rfl ?_
    refine dx_iload_n C 2 dX10_stay_9 rfl rfl ?_
    refine dx_callV1 C cl_X10_isMatter kmX10_190 (ci := 9) (b := 134) (As := [.int a2]) (rest := []) rfl (hp_of ly_134) (tf_X10_isMatter a2 w) rfl rfl (Nat.le_of_ble_eq_true rfl) ⟨Nat.le_of_ble_eq_true rfl, Nat.le_of_ble_eq_true rfl⟩ dX10_stay_10 (fun r2 => ?_)
    refine dx_if_eq C 25 dX10_stay_13 (by decide) ?_ ?_
    · refine dx_ldc C kcX10_193 dX10_stay_25 ?_
      exact dx_iret1 C hr hlk dX10_stay_27 (fun h => h)
    · refine dx_aload_n C 0 dX10_stay_16 rfl rfl ?_
      refine dx_iload_n C 1 dX10_stay_17 rfl rfl ?_
      refine dx_iload_n C 2 dX10_stay_18 rfl rfl ?_
      refine dx_callV1 C cl_X10_stayOf kmX10_200 (ci := 9) (b := 134) (As := [.int a1, .int a2]) (rest := []) rfl (hp_of ly_134) (tf_X10_stayOf a1 a2 w) rfl rfl (Nat.le_of_ble_eq_true rfl) ⟨Nat.le_of_ble_eq_true rfl, Nat.le_of_ble_eq_true rfl⟩ dX10_stay_19 (fun r3 => ?_)
      refine dx_goto C 27 dX10_stay_22 (by decide) ?_
      exact dx_iret1 C hr hlk dX10_stay_27 (fun h => h)
def f_X10_talk (a1 : Int32) (a2 : Int32) (w : Mem) : Option (Int32 × Mem) :=
  (f_X10_isTraveller a1 w).bind fun r1 => (if r1 = 0 then some (((-1000000001 : Int32), w)) else (f_X10_in a2 (0 : Int32) (3 : Int32)).bind fun r2 => (if r2 = 0 then some (((-1000000002 : Int32), w)) else rd 25 (w 146) (3 : Int32) fun x3 => (f_X10_layTalk a1 x3 w).bind fun w4 => (if a2 = 0 then some (((w4 134 30), w4)) else (if a2 = (1 : Int32) then some (((w4 134 31), w4)) else (if a2 = (2 : Int32) then some (((w4 134 32), w4)) else (f_X10_payFor (w4 134 30) w4).bind fun r5 => some ((r5, w4)))))))
set_option maxRecDepth 20000 in
set_option maxHeartbeats 4000000 in
theorem tf_X10_talk {G : GT} {l : Launch} {z n : Nat} (a1 : Int32) (a2 : Int32) (w : Mem) (q : Int32 × Mem) (hq : f_X10_talk a1 a2 w = some q) : Mt G l z yX10_talk cX10_talk 3 (some .int) { frames := 3, cells := 0, slots := 0, locals := 74 } [.ref (z + 134), .int a1, .int a2] (hp G z w) n (some (.int q.1)) (hp G z q.2) n := by
  refine mt_of (by decide +kernel) (Nat.le_of_ble_eq_true rfl) ?_
  intro p e s m below meth c C hr hlk hnm
  refine (?_ : DX p l e _ s m _ below meth c G z 3 n _ (fun v => v = q) 0 [(0, .ref (z + 134)), (1, .int a1), (2, .int a2)] [] w (f_X10_talk a1 a2 w)) q hq rfl
  unfold f_X10_talk
  refine dx_aload_n C 0 dX10_talk_0 rfl rfl ?_
  refine dx_iload_n C 1 dX10_talk_1 rfl rfl ?_
  refine dx_callV1 C cl_X10_isTraveller kmX10_203 (ci := 9) (b := 134) (As := [.int a1]) (rest := []) rfl (hp_of ly_134) (tf_X10_isTraveller a1 w) rfl rfl (Nat.le_of_ble_eq_true rfl) ⟨Nat.le_of_ble_eq_true rfl, Nat.le_of_ble_eq_true rfl⟩ dX10_talk_2 (fun r1 => ?_)
  refine dx_if_ne C 11 dX10_talk_5 (by decide) ?_ ?_
  · refine dx_iload_n C 2 dX10_talk_11 rfl rfl ?_
    refine dx_iconst (v := (0 : Int32)) C dX10_talk_12 (by decide) ?_
    refine dx_iconst (v := (3 : Int32)) C dX10_talk_13 (by decide) ?_
    refine dx_callS1 C cl_X10_in kmX10_82 (As := [.int a2, .int (0 : Int32), .int (3 : Int32)]) (rest := []) (tf_X10_in a2 (0 : Int32) (3 : Int32) w) rfl rfl (Nat.le_of_ble_eq_true rfl) ⟨Nat.le_of_ble_eq_true rfl, Nat.le_of_ble_eq_true rfl⟩ dX10_talk_14 (fun r2 => ?_)
    refine dx_if_ne C 23 dX10_talk_17 (by decide) ?_ ?_
    · refine dx_aload_n C 0 dX10_talk_23 rfl rfl ?_
      refine dx_iload_n C 1 dX10_talk_24 rfl rfl ?_
      refine dx_aload_n C 0 dX10_talk_25 rfl rfl ?_
      refine dgX10_47 C dX10_talk_26 ?_
      refine dx_iconst (v := (3 : Int32)) C dX10_talk_29 (by decide) ?_
      refine dx_rd C ly_146 dX10_talk_30 (fun x3 => ?_)
      refine dx_callV3 C cl_X10_layTalk kmX10_273 (ci := 9) (b := 134) (As := [.int a1, .int x3]) (rest := []) rfl (hp_of ly_134) (tf_X10_layTalk a1 x3 w) rfl rfl (Nat.le_of_ble_eq_true rfl) ⟨Nat.le_of_ble_eq_true rfl, Nat.le_of_ble_eq_true rfl⟩ dX10_talk_31 (fun w4 => ?_)
      refine dx_iload_n C 2 dX10_talk_34 rfl rfl ?_
      refine dx_if_ne C 45 dX10_talk_35 (by decide) ?_ ?_
      · refine dx_iload_n C 2 dX10_talk_45 rfl rfl ?_
        refine dx_iconst (v := (1 : Int32)) C dX10_talk_46 (by decide) ?_
        refine dx_icmp_ne C 57 dX10_talk_47 (by decide) ?_ ?_
        · refine dx_iload_n C 2 dX10_talk_57 rfl rfl ?_
          refine dx_iconst (v := (2 : Int32)) C dX10_talk_58 (by decide) ?_
          refine dx_icmp_ne C 69 dX10_talk_59 (by decide) ?_ ?_
          · refine dx_aload_n C 0 dX10_talk_69 rfl rfl ?_
            refine dx_aload_n C 0 dX10_talk_70 rfl rfl ?_
            refine dgX10_264 C dX10_talk_71 ?_
            refine dx_callV1 C cl_X10_payFor kmX10_223 (ci := 9) (b := 134) (As := [.int (w4 134 30)]) (rest := []) rfl (hp_of ly_134) (tf_X10_payFor (w4 134 30) w4) rfl rfl (Nat.le_of_ble_eq_true rfl) ⟨Nat.le_of_ble_eq_true rfl, Nat.le_of_ble_eq_true rfl⟩ dX10_talk_74 (fun r5 => ?_)
            exact dx_iret2 C hr hlk dX10_talk_77 (fun h => h)
          · refine dx_aload_n C 0 dX10_talk_62 rfl rfl ?_
            refine dgX10_270 C dX10_talk_63 ?_
            refine dx_goto C 77 dX10_talk_66 (by decide) ?_
            exact dx_iret2 C hr hlk dX10_talk_77 (fun h => h)
        · refine dx_aload_n C 0 dX10_talk_50 rfl rfl ?_
          refine dgX10_267 C dX10_talk_51 ?_
          refine dx_goto C 77 dX10_talk_54 (by decide) ?_
          exact dx_iret2 C hr hlk dX10_talk_77 (fun h => h)
      · refine dx_aload_n C 0 dX10_talk_38 rfl rfl ?_
        refine dgX10_264 C dX10_talk_39 ?_
        refine dx_goto C 77 dX10_talk_42 (by decide) ?_
        exact dx_iret2 C hr hlk dX10_talk_77 (fun h => h)
    · refine dx_ldc C kcX10_86 dX10_talk_20 ?_
      exact dx_iret2 C hr hlk dX10_talk_22 (fun h => h)
  · refine dx_ldc C kcX10_193 dX10_talk_8 ?_
    exact dx_iret2 C hr hlk dX10_talk_10 (fun h => h)
def f_X10_paidBy (a1 : Int32) (a2 : Int32) (w : Mem) : Option (Int32) :=
  (lp (S := (Int32 × Int32)) (T := Int32) (fun s14 => (f_X10_bits a2).bind fun r1 => (if s14.2 < r1 then some (Sum.inl ((s14.1 * (10 : Int32)), (s14.2 + (1 : Int32)))) else some (Sum.inr s14.1))) 5000000000 ((1 : Int32), (1 : Int32))).bind fun v2 => (f_X10_bits a2).bind fun r3 => lp (S := (Int32 × Int32 × Int32 × Int32 × Int32)) (T := Int32) (fun s42 => (if 0 < s42.2.2.2.2 then nz s42.2.2.2.1 (lt ((((a1 / s42.2.2.2.1) - (a1 / s42.2.2.2.1) / (10 : Int32) * (10 : Int32)) - (1 : Int32))) fun t5 => lt ((s42.2.2.2.1 / (10 : Int32))) fun t6 => (if t5 < 0 then some (Sum.inr ((-1 : Int32))) else (f_X10_has s42.1 t5).bind fun r7 => (if r7 = 0 then some (Sum.inr ((-1 : Int32))) else lt ((s42.1 &&& (((1 : Int32) <<< (t5 &&& 31)) ^^^ (-1 : Int32)))) fun t8 => rd 25 (w 146) ((19 : Int32) + t5) fun x9 => (f_X10_limit t5 w).bind fun r10 => ((if r10 < (x9 + s42.2.1) then some ((0 : Int32)) else some ((1 : Int32))) : Option Int32).bind fun v11 => ((if v11 = 0 then some ((0 : Int32)) else rd 6 (w 149) t5 fun x15 => (f_X10_payFor x15 w).bind fun r16 => some (r16)) : Option Int32).bind fun v12 => ((if v11 = 0 then some ((0 : Int32)) else rd 6 (w 149) t5 fun x14 => some (x14)) : Option Int32).bind fun v13 => some (Sum.inl (t8, (s42.2.1 + v13), (s42.2.2.1 + v12), t6, (s42.2.2.2.2 + (-1 : Int32))))))) else some (Sum.inr (s42.2.2.1)))) 5000000000 (a2, (0 : Int32), (0 : Int32), v2, r3)
set_option maxRecDepth 20000 in
set_option maxHeartbeats 4000000 in
theorem tf_X10_paidBy {G : GT} {l : Launch} {z n : Nat} (a1 : Int32) (a2 : Int32) (w : Mem) (q : Int32) (hq : f_X10_paidBy a1 a2 w = some q) : Mt G l z yX10_paidBy cX10_paidBy 10 (some .int) { frames := 1, cells := 0, slots := 0, locals := 22 } [.ref (z + 134), .int a1, .int a2] (hp G z w) n (some (.int q)) (hp G z w) n := by
  refine mt_of (by decide +kernel) (Nat.le_of_ble_eq_true rfl) ?_
  intro p e s m below meth c C hr hlk hnm
  refine (?_ : DX p l e _ s m _ below meth c G z 10 n _ (fun v => v = q) 0 [(0, .ref (z + 134)), (1, .int a1), (2, .int a2)] [] w (f_X10_paidBy a1 a2 w)) q hq rfl
  unfold f_X10_paidBy
  refine dx_iload_n C 2 dX10_paidBy_0 rfl rfl ?_
  refine dx_istore_n C [(3, .int a2), (0, .ref (z + 134)), (1, .int a1), (2, .int a2)] dX10_paidBy_1 rfl (by decide) rfl ?_
  refine dx_iconst (v := (0 : Int32)) C dX10_paidBy_2 (by decide) ?_
  refine dx_istore C [(4, .int (0 : Int32)), (3, .int a2), (0, .ref (z + 134)), (1, .int a1), (2, .int a2)] dX10_paidBy_3 (by decide) rfl ?_
  refine dx_iconst (v := (0 : Int32)) C dX10_paidBy_5 (by decide) ?_
  refine dx_istore C [(5, .int (0 : Int32)), (4, .int (0 : Int32)), (3, .int a2), (0, .ref (z + 134)), (1, .int a1), (2, .int a2)] dX10_paidBy_6 (by decide) rfl ?_
  refine dx_iconst (v := (1 : Int32)) C dX10_paidBy_8 (by decide) ?_
  refine dx_istore C [(6, .int (1 : Int32)), (5, .int (0 : Int32)), (4, .int (0 : Int32)), (3, .int a2), (0, .ref (z + 134)), (1, .int a1), (2, .int a2)] dX10_paidBy_9 (by decide) rfl ?_
  refine dx_iconst (v := (1 : Int32)) C dX10_paidBy_11 (by decide) ?_
  refine dx_istore C [(7, .int (1 : Int32)), (6, .int (1 : Int32)), (5, .int (0 : Int32)), (4, .int (0 : Int32)), (3, .int a2), (0, .ref (z + 134)), (1, .int a1), (2, .int a2)] dX10_paidBy_12 (by decide) rfl ?_
  refine dx_mv (lo2 := [(0, .ref (z + 134)), (1, .int a1), (2, .int a2), (3, .int a2), (4, .int (0 : Int32)), (5, .int (0 : Int32)), (6, .int (1 : Int32)), (7, .int (1 : Int32))]) [5, 6, 7, 4, 3, 2, 1, 0] rfl ?_
  refine dx_bind 36 (fun v2 => [(0, .ref (z + 134)), (1, .int a1), (2, .int a2), (3, .int a2), (4, .int (0 : Int32)), (5, .int (0 : Int32)), (6, .int v2)]) (fun v2 => []) (fun v2 => w) (fun v2 => (?_ : DX p l e _ s m _ below meth c G z 10 n _ _ 36 [(0, .ref (z + 134)), (1, .int a1), (2, .int a2), (3, .int a2), (4, .int (0 : Int32)), (5, .int (0 : Int32)), (6, .int v2)] [] w _)) ?_
  · refine dx_iload_n C 2 dX10_paidBy_36 rfl rfl ?_
    refine dx_callS1 C cl_X10_bits kmX10_172 (As := [.int a2]) (rest := []) (tf_X10_bits a2 w) rfl rfl (Nat.le_of_ble_eq_true rfl) ⟨Nat.le_of_ble_eq_true rfl, Nat.le_of_ble_eq_true rfl⟩ dX10_paidBy_37 (fun r3 => ?_)
    refine dx_istore C [(7, .int r3), (0, .ref (z + 134)), (1, .int a1), (2, .int a2), (3, .int a2), (4, .int (0 : Int32)), (5, .int (0 : Int32)), (6, .int v2)] dX10_paidBy_40 (by decide) rfl ?_
    refine dx_mv (lo2 := [(0, .ref (z + 134)), (1, .int a1), (3, .int a2), (4, .int (0 : Int32)), (5, .int (0 : Int32)), (6, .int v2), (7, .int r3)]) [1, 2, 4, 5, 6, 7, 0] rfl ?_
    refine dx_lp (fun s42 => [(0, .ref (z + 134)), (1, .int a1), (3, .int s42.1), (4, .int s42.2.1), (5, .int s42.2.2.1), (6, .int s42.2.2.2.1), (7, .int s42.2.2.2.2)]) [] (fun s42 => w) (fun s42 => (?_ : DX p l e _ s m _ below meth c G z 10 n _ _ 42 [(0, .ref (z + 134)), (1, .int a1), (3, .int s42.1), (4, .int s42.2.1), (5, .int s42.2.2.1), (6, .int s42.2.2.2.1), (7, .int s42.2.2.2.2)] [] w _)) 5000000000 (a2, (0 : Int32), (0 : Int32), v2, r3)
    refine dx_iload C 6 dX10_paidBy_42 rfl ?_
    refine dx_if_le C 171 dX10_paidBy_44 (by decide) ?_ ?_
    · refine dx_iload C 4 dX10_paidBy_171 rfl ?_
      exact dx_iret1 C hr hlk dX10_paidBy_173 (fun h => h)
    · refine dx_iload_n C 1 dX10_paidBy_47 rfl rfl ?_
      refine dx_iload C 5 dX10_paidBy_48 rfl ?_
      refine dx_nz (fun hn4 => ?_)
      refine dx_idiv C dX10_paidBy_50 hn4 ?_
      refine dx_bipush (v := (10 : Int32)) C dX10_paidBy_51 (by decide) ?_
      refine dx_irem C dX10_paidBy_53 (by decide) ?_
      refine dx_iconst (v := (1 : Int32)) C dX10_paidBy_54 (by decide) ?_
      refine dx_isub C dX10_paidBy_55 ?_
      refine dx_lt (fun t5 => ?_)
      refine dx_istore C [(8, .int t5), (0, .ref (z + 134)), (1, .int a1), (3, .int s42.1), (4, .int s42.2.1), (5, .int s42.2.2.1), (6, .int s42.2.2.2.1), (7, .int s42.2.2.2.2)] dX10_paidBy_56 (by decide) rfl ?_
      refine dx_iload C 6 dX10_paidBy_58 rfl ?_
      refine dx_bipush (v := (10 : Int32)) C dX10_paidBy_60 (by decide) ?_
      refine dx_idiv C dX10_paidBy_62 (by decide) ?_
      refine dx_lt (fun t6 => ?_)
      refine dx_istore C [(6, .int t6), (8, .int t5), (0, .ref (z + 134)), (1, .int a1), (3, .int s42.1), (4, .int s42.2.1), (5, .int s42.2.2.1), (7, .int s42.2.2.2.2)] dX10_paidBy_63 (by decide) rfl ?_
      refine dx_iload C 1 dX10_paidBy_65 rfl ?_
      refine dx_if_lt C 79 dX10_paidBy_67 (by decide) ?_ ?_
      · refine dx_iconst (v := (-1 : Int32)) C dX10_paidBy_79 (by decide) ?_
        exact dx_iret1 C hr hlk dX10_paidBy_80 (fun h => h)
      · refine dx_iload_n C 4 dX10_paidBy_70 rfl rfl ?_
        refine dx_iload C 1 dX10_paidBy_71 rfl ?_
        refine dx_callS1 C cl_X10_has kmX10_168 (As := [.int s42.1, .int t5]) (rest := []) (tf_X10_has s42.1 t5 w) rfl rfl (Nat.le_of_ble_eq_true rfl) ⟨Nat.le_of_ble_eq_true rfl, Nat.le_of_ble_eq_true rfl⟩ dX10_paidBy_73 (fun r7 => ?_)
        refine dx_if_ne C 81 dX10_paidBy_76 (by decide) ?_ ?_
        · refine dx_iload_n C 4 dX10_paidBy_81 rfl rfl ?_
          refine dx_iconst (v := (1 : Int32)) C dX10_paidBy_82 (by decide) ?_
          refine dx_iload C 1 dX10_paidBy_83 rfl ?_
          refine dx_ishl C dX10_paidBy_85 ?_
          refine dx_iconst (v := (-1 : Int32)) C dX10_paidBy_86 (by decide) ?_
          refine dx_ixor C dX10_paidBy_87 ?_
          refine dx_iand C dX10_paidBy_88 ?_
          refine dx_lt (fun t8 => ?_)
          refine dx_istore_n C [(3, .int t8), (6, .int t6), (8, .int t5), (0, .ref (z + 134)), (1, .int a1), (4, .int s42.2.1), (5, .int s42.2.2.1), (7, .int s42.2.2.2.2)] dX10_paidBy_89 rfl (by decide) rfl ?_
          refine dx_aload_n C 3 dX10_paidBy_90 rfl rfl ?_
          refine dgX10_47 C dX10_paidBy_91 ?_
          refine dx_bipush (v := (19 : Int32)) C dX10_paidBy_94 (by decide) ?_
          refine dx_iload C 2 dX10_paidBy_96 rfl ?_
          refine dx_iadd C dX10_paidBy_98 ?_
          refine dx_rd C ly_146 dX10_paidBy_99 (fun x9 => ?_)
          refine dx_iload C 5 dX10_paidBy_100 rfl ?_
          refine dx_iadd C dX10_paidBy_102 ?_
          refine dx_aload_n C 3 dX10_paidBy_103 rfl rfl ?_
          refine dx_iload C 2 dX10_paidBy_104 rfl ?_
          refine dx_callV1 C cl_X10_limit kmX10_206 (ci := 9) (b := 134) (As := [.int t5]) (rest := [.int (x9 + s42.2.1)]) rfl (hp_of ly_134) (tf_X10_limit t5 w) rfl rfl (Nat.le_of_ble_eq_true rfl) ⟨Nat.le_of_ble_eq_true rfl, Nat.le_of_ble_eq_true rfl⟩ dX10_paidBy_106 (fun r10 => ?_)
          refine dx_bind 117 (fun v11 => [(0, .ref (z + 134)), (1, .int a1), (3, .int t8), (4, .int s42.2.1), (5, .int s42.2.2.1), (6, .int t6), (7, .int s42.2.2.2.2), (8, .int t5)]) (fun v11 => [.int v11]) (fun v11 => w) (fun v11 => (?_ : DX p l e _ s m _ below meth c G z 10 n _ _ 117 [(0, .ref (z + 134)), (1, .int a1), (3, .int t8), (4, .int s42.2.1), (5, .int s42.2.2.1), (6, .int t6), (7, .int s42.2.2.2.2), (8, .int t5)] [.int v11] w _)) ?_
          · refine dx_istore C [(9, .int v11), (0, .ref (z + 134)), (1, .int a1), (3, .int t8), (4, .int s42.2.1), (5, .int s42.2.2.1), (6, .int t6), (7, .int s42.2.2.2.2), (8, .int t5)] dX10_paidBy_117 (by decide) rfl ?_
            refine dx_iload C 5 dX10_paidBy_119 rfl ?_
            refine dx_iload C 0 dX10_paidBy_121 rfl ?_
            refine dx_bind 141 (fun v12 => [(0, .ref (z + 134)), (1, .int a1), (3, .int t8), (4, .int s42.2.1), (6, .int t6), (7, .int s42.2.2.2.2), (8, .int t5), (9, .int v11)]) (fun v12 => [.int v12, .int s42.2.2.1]) (fun v12 => w) (fun v12 => (?_ : DX p l e _ s m _ below meth c G z 10 n _ _ 141 [(0, .ref (z + 134)), (1, .int a1), (3, .int t8), (4, .int s42.2.1), (6, .int t6), (7, .int s42.2.2.2.2), (8, .int t5), (9, .int v11)] [.int v12, .int s42.2.2.1] w _)) ?_
            · refine dx_iadd C dX10_paidBy_141 ?_
              refine dx_istore C [(5, .int (s42.2.2.1 + v12)), (0, .ref (z + 134)), (1, .int a1), (3, .int t8), (4, .int s42.2.1), (6, .int t6), (7, .int s42.2.2.2.2), (8, .int t5), (9, .int v11)] dX10_paidBy_142 (by decide) rfl ?_
              refine dx_iload C 4 dX10_paidBy_144 rfl ?_
              refine dx_iload C 8 dX10_paidBy_146 rfl ?_
              refine dx_bind 162 (fun v13 => [(0, .ref (z + 134)), (1, .int a1), (3, .int t8), (5, .int (s42.2.2.1 + v12)), (6, .int t6), (7, .int s42.2.2.2.2)]) (fun v13 => [.int v13, .int s42.2.1]) (fun v13 => w) (fun v13 => (?_ : DX p l e _ s m _ below meth c G z 10 n _ _ 162 [(0, .ref (z + 134)), (1, .int a1), (3, .int t8), (5, .int (s42.2.2.1 + v12)), (6, .int t6), (7, .int s42.2.2.2.2)] [.int v13, .int s42.2.1] w _)) ?_
              · refine dx_iadd C dX10_paidBy_162 ?_
                refine dx_istore C [(4, .int (s42.2.1 + v13)), (0, .ref (z + 134)), (1, .int a1), (3, .int t8), (5, .int (s42.2.2.1 + v12)), (6, .int t6), (7, .int s42.2.2.2.2)] dX10_paidBy_163 (by decide) rfl ?_
                refine dx_iinc (v := (s42.2.2.2.2 + (-1 : Int32))) C 6 [(7, .int (s42.2.2.2.2 + (-1 : Int32))), (4, .int (s42.2.1 + v13)), (0, .ref (z + 134)), (1, .int a1), (3, .int t8), (5, .int (s42.2.2.1 + v12)), (6, .int t6)] dX10_paidBy_165 rfl rfl (by decide) rfl ?_
                refine dx_goto C 42 dX10_paidBy_168 (by decide) ?_
                refine dx_mv (lo2 := [(0, .ref (z + 134)), (1, .int a1), (3, .int t8), (4, .int (s42.2.1 + v13)), (5, .int (s42.2.2.1 + v12)), (6, .int t6), (7, .int (s42.2.2.2.2 + (-1 : Int32)))]) [2, 3, 4, 1, 5, 6, 0] rfl ?_
                exact dx_end (fun h => h)
              · refine dx_if_eq C 161 dX10_paidBy_148 (by decide) ?_ ?_
                · refine dx_iconst (v := (0 : Int32)) C dX10_paidBy_161 (by decide) ?_
                  refine dx_mv (lo2 := [(0, .ref (z + 134)), (1, .int a1), (3, .int t8), (5, .int (s42.2.2.1 + v12)), (6, .int t6), (7, .int s42.2.2.2.2)]) [1, 2, 3, 0, 5, 6] rfl ?_
                  exact dx_end (fun h => h)
                · refine dx_aload_n C 1 dX10_paidBy_151 rfl rfl ?_
                  refine dgX10_56 C dX10_paidBy_152 ?_
                  refine dx_iload C 7 dX10_paidBy_155 rfl ?_
                  refine dx_rd C ly_149 dX10_paidBy_157 (fun x14 => ?_)
                  refine dx_goto C 162 dX10_paidBy_158 (by decide) ?_
                  refine dx_mv (lo2 := [(0, .ref (z + 134)), (1, .int a1), (3, .int t8), (5, .int (s42.2.2.1 + v12)), (6, .int t6), (7, .int s42.2.2.2.2)]) [1, 2, 3, 0, 5, 6] rfl ?_
                  exact dx_end (fun h => h)
            · refine dx_if_eq C 140 dX10_paidBy_123 (by decide) ?_ ?_
              · refine dx_iconst (v := (0 : Int32)) C dX10_paidBy_140 (by decide) ?_
                refine dx_mv (lo2 := [(0, .ref (z + 134)), (1, .int a1), (3, .int t8), (4, .int s42.2.1), (6, .int t6), (7, .int s42.2.2.2.2), (8, .int t5), (9, .int v11)]) [1, 2, 3, 4, 6, 7, 8, 0] rfl ?_
                exact dx_end (fun h => h)
              · refine dx_aload_n C 1 dX10_paidBy_126 rfl rfl ?_
                refine dx_aload_n C 1 dX10_paidBy_127 rfl rfl ?_
                refine dgX10_56 C dX10_paidBy_128 ?_
                refine dx_iload C 8 dX10_paidBy_131 rfl ?_
                refine dx_rd C ly_149 dX10_paidBy_133 (fun x15 => ?_)
                refine dx_callV1 C cl_X10_payFor kmX10_223 (ci := 9) (b := 134) (As := [.int x15]) (rest := [.int s42.2.2.1]) rfl (hp_of ly_134) (tf_X10_payFor x15 w) rfl rfl (Nat.le_of_ble_eq_true rfl) ⟨Nat.le_of_ble_eq_true rfl, Nat.le_of_ble_eq_true rfl⟩ dX10_paidBy_134 (fun r16 => ?_)
                refine dx_goto C 141 dX10_paidBy_137 (by decide) ?_
                refine dx_mv (lo2 := [(0, .ref (z + 134)), (1, .int a1), (3, .int t8), (4, .int s42.2.1), (6, .int t6), (7, .int s42.2.2.2.2), (8, .int t5), (9, .int v11)]) [1, 2, 3, 4, 6, 7, 8, 0] rfl ?_
                exact dx_end (fun h => h)
          · refine dx_icmp_gt C 116 dX10_paidBy_109 (by decide) ?_ ?_
            · refine dx_iconst (v := (0 : Int32)) C dX10_paidBy_116 (by decide) ?_
              refine dx_mv (lo2 := [(0, .ref (z + 134)), (1, .int a1), (3, .int t8), (4, .int s42.2.1), (5, .int s42.2.2.1), (6, .int t6), (7, .int s42.2.2.2.2), (8, .int t5)]) [3, 4, 0, 5, 6, 1, 7, 2] rfl ?_
              exact dx_end (fun h => h)
            · refine dx_iconst (v := (1 : Int32)) C dX10_paidBy_112 (by decide) ?_
              refine dx_goto C 117 dX10_paidBy_113 (by decide) ?_
              refine dx_mv (lo2 := [(0, .ref (z + 134)), (1, .int a1), (3, .int t8), (4, .int s42.2.1), (5, .int s42.2.2.1), (6, .int t6), (7, .int s42.2.2.2.2), (8, .int t5)]) [3, 4, 0, 5, 6, 1, 7, 2] rfl ?_
              exact dx_end (fun h => h)
        · refine dx_iconst (v := (-1 : Int32)) C dX10_paidBy_79 (by decide) ?_
          exact dx_iret1 C hr hlk dX10_paidBy_80 (fun h => h)
  · refine dx_lp (fun s14 => [(0, .ref (z + 134)), (1, .int a1), (2, .int a2), (3, .int a2), (4, .int (0 : Int32)), (5, .int (0 : Int32)), (6, .int s14.1), (7, .int s14.2)]) [] (fun s14 => w) (fun s14 => (?_ : DX p l e _ s m _ below meth c G z 10 n _ _ 14 [(0, .ref (z + 134)), (1, .int a1), (2, .int a2), (3, .int a2), (4, .int (0 : Int32)), (5, .int (0 : Int32)), (6, .int s14.1), (7, .int s14.2)] [] w _)) 5000000000 ((1 : Int32), (1 : Int32))
    refine dx_iload C 7 dX10_paidBy_14 rfl ?_
    refine dx_iload_n C 2 dX10_paidBy_16 rfl rfl ?_
    refine dx_callS1 C cl_X10_bits kmX10_172 (As := [.int a2]) (rest := [.int s14.2]) (tf_X10_bits a2 w) rfl rfl (Nat.le_of_ble_eq_true rfl) ⟨Nat.le_of_ble_eq_true rfl, Nat.le_of_ble_eq_true rfl⟩ dX10_paidBy_17 (fun r1 => ?_)
    refine dx_icmp_ge C 36 dX10_paidBy_20 (by decide) ?_ ?_
    · refine dx_mv (lo2 := [(0, .ref (z + 134)), (1, .int a1), (2, .int a2), (3, .int a2), (4, .int (0 : Int32)), (5, .int (0 : Int32)), (6, .int s14.1)]) [0, 1, 2, 3, 4, 5, 6] rfl ?_
      exact dx_end (fun h => h)
    · refine dx_iload C 6 dX10_paidBy_23 rfl ?_
      refine dx_bipush (v := (10 : Int32)) C dX10_paidBy_25 (by decide) ?_
      refine dx_imul C dX10_paidBy_27 ?_
      refine dx_istore C [(6, .int (s14.1 * (10 : Int32))), (0, .ref (z + 134)), (1, .int a1), (2, .int a2), (3, .int a2), (4, .int (0 : Int32)), (5, .int (0 : Int32)), (7, .int s14.2)] dX10_paidBy_28 (by decide) rfl ?_
      refine dx_iinc (v := (s14.2 + (1 : Int32))) C 7 [(7, .int (s14.2 + (1 : Int32))), (6, .int (s14.1 * (10 : Int32))), (0, .ref (z + 134)), (1, .int a1), (2, .int a2), (3, .int a2), (4, .int (0 : Int32)), (5, .int (0 : Int32))] dX10_paidBy_30 rfl rfl (by decide) rfl ?_
      refine dx_goto C 14 dX10_paidBy_33 (by decide) ?_
      refine dx_mv (lo2 := [(0, .ref (z + 134)), (1, .int a1), (2, .int a2), (3, .int a2), (4, .int (0 : Int32)), (5, .int (0 : Int32)), (6, .int (s14.1 * (10 : Int32))), (7, .int (s14.2 + (1 : Int32)))]) [2, 3, 4, 5, 6, 7, 1, 0] rfl ?_
      exact dx_end (fun h => h)
def f_X10_nextFigures (a0 : Int32) (a1 : Int32) : Option (Int32) :=
  (lp (S := (Int32 × Int32)) (T := Int32) (fun s6 => nz s6.2 ((if a1 < ((s6.1 / s6.2) - (s6.1 / s6.2) / (10 : Int32) * (10 : Int32)) then nz s6.2 (lt ((s6.1 + ((s6.2 * ((10 : Int32) - ((s6.1 / s6.2) - (s6.1 / s6.2) / (10 : Int32) * (10 : Int32)))) + s6.2))) fun t3 => some (Sum.inl (t3, (s6.2 * (10 : Int32))))) else some (Sum.inr s6.1)))) 5000000000 ((a0 + (1 : Int32)), (1 : Int32))).bind fun v4 => some (v4)
set_option maxRecDepth 20000 in
set_option maxHeartbeats 4000000 in
theorem tf_X10_nextFigures {G : GT} {l : Launch} {z n : Nat} (a0 : Int32) (a1 : Int32) (w : Mem) (q : Int32) (hq : f_X10_nextFigures a0 a1 = some q) : Mt G l z yX10_nextFigures cX10_nextFigures 4 (some .int) { frames := 0, cells := 0, slots := 0, locals := 0 } [.int a0, .int a1] (hp G z w) n (some (.int q)) (hp G z w) n := by
  refine mt_of (by decide +kernel) (Nat.le_of_ble_eq_true rfl) ?_
  intro p e s m below meth c C hr hlk hnm
  refine (?_ : DX p l e _ s m _ below meth c G z 4 n _ (fun v => v = q) 0 [(0, .int a0), (1, .int a1)] [] w (f_X10_nextFigures a0 a1)) q hq rfl
  unfold f_X10_nextFigures
  refine dx_iload_n C 0 dX10_nextFigures_0 rfl rfl ?_
  refine dx_iconst (v := (1 : Int32)) C dX10_nextFigures_1 (by decide) ?_
  refine dx_iadd C dX10_nextFigures_2 ?_
  refine dx_istore_n C [(2, .int (a0 + (1 : Int32))), (0, .int a0), (1, .int a1)] dX10_nextFigures_3 rfl (by decide) rfl ?_
  refine dx_iconst (v := (1 : Int32)) C dX10_nextFigures_4 (by decide) ?_
  refine dx_istore_n C [(3, .int (1 : Int32)), (2, .int (a0 + (1 : Int32))), (0, .int a0), (1, .int a1)] dX10_nextFigures_5 rfl (by decide) rfl ?_
  refine dx_mv (lo2 := [(1, .int a1), (2, .int (a0 + (1 : Int32))), (3, .int (1 : Int32))]) [3, 1, 0] rfl ?_
  refine dx_bind 40 (fun v4 => [(2, .int v4)]) (fun v4 => []) (fun v4 => w) (fun v4 => (?_ : DX p l e _ s m _ below meth c G z 4 n _ _ 40 [(2, .int v4)] [] w _)) ?_
  · refine dx_iload_n C 0 dX10_nextFigures_40 rfl rfl ?_
    exact dx_iret1 C hr hlk dX10_nextFigures_41 (fun h => h)
  · refine dx_lp (fun s6 => [(1, .int a1), (2, .int s6.1), (3, .int s6.2)]) [] (fun s6 => w) (fun s6 => (?_ : DX p l e _ s m _ below meth c G z 4 n _ _ 6 [(1, .int a1), (2, .int s6.1), (3, .int s6.2)] [] w _)) 5000000000 ((a0 + (1 : Int32)), (1 : Int32))
    refine dx_iload_n C 1 dX10_nextFigures_6 rfl rfl ?_
    refine dx_iload_n C 2 dX10_nextFigures_7 rfl rfl ?_
    refine dx_nz (fun hn1 => ?_)
    refine dx_idiv C dX10_nextFigures_8 hn1 ?_
    refine dx_bipush (v := (10 : Int32)) C dX10_nextFigures_9 (by decide) ?_
    refine dx_irem C dX10_nextFigures_11 (by decide) ?_
    refine dx_iload_n C 0 dX10_nextFigures_12 rfl rfl ?_
    refine dx_icmp_le C 40 dX10_nextFigures_13 (by decide) ?_ ?_
    · refine dx_mv (lo2 := [(2, .int s6.1)]) [1] rfl ?_
      exact dx_end (fun h => h)
    · refine dx_iload_n C 1 dX10_nextFigures_16 rfl rfl ?_
      refine dx_iload_n C 2 dX10_nextFigures_17 rfl rfl ?_
      refine dx_bipush (v := (10 : Int32)) C dX10_nextFigures_18 (by decide) ?_
      refine dx_iload_n C 1 dX10_nextFigures_20 rfl rfl ?_
      refine dx_iload_n C 2 dX10_nextFigures_21 rfl rfl ?_
      refine dx_nz (fun hn2 => ?_)
      refine dx_idiv C dX10_nextFigures_22 hn2 ?_
      refine dx_bipush (v := (10 : Int32)) C dX10_nextFigures_23 (by decide) ?_
      refine dx_irem C dX10_nextFigures_25 (by decide) ?_
      refine dx_isub C dX10_nextFigures_26 ?_
      refine dx_imul C dX10_nextFigures_27 ?_
      refine dx_iload_n C 2 dX10_nextFigures_28 rfl rfl ?_
      refine dx_iadd C dX10_nextFigures_29 ?_
      refine dx_iadd C dX10_nextFigures_30 ?_
      refine dx_lt (fun t3 => ?_)
      refine dx_istore_n C [(2, .int t3), (1, .int a1), (3, .int s6.2)] dX10_nextFigures_31 rfl (by decide) rfl ?_
      refine dx_iload_n C 2 dX10_nextFigures_32 rfl rfl ?_
      refine dx_bipush (v := (10 : Int32)) C dX10_nextFigures_33 (by decide) ?_
      refine dx_imul C dX10_nextFigures_35 ?_
      refine dx_istore_n C [(3, .int (s6.2 * (10 : Int32))), (2, .int t3), (1, .int a1)] dX10_nextFigures_36 rfl (by decide) rfl ?_
      refine dx_goto C 6 dX10_nextFigures_37 (by decide) ?_
      refine dx_mv (lo2 := [(1, .int a1), (2, .int t3), (3, .int (s6.2 * (10 : Int32)))]) [2, 1, 0] rfl ?_
      exact dx_end (fun h => h)
def f_X10_queue (a1 : Int32) (w : Mem) : Option (Int32 × Mem) :=
  (f_X10_in a1 (0 : Int32) (1 : Int32)).bind fun r1 => (if r1 = 0 then some (((-1000000002 : Int32), w)) else rd 25 (w 146) (4 : Int32) fun x2 => (if x2 = (-1 : Int32) then (f_X10_are (0 : Int32) w).bind fun r3 => (if r3 = 0 then some (((0 : Int32), w)) else (lp (S := (Int32 × Mem)) (T := Mem) (fun s39 => (if s39.1 < (s39.2 134 18) then rd 25 (s39.2 146) (3 : Int32) fun x4 => (f_X10_layTalk s39.1 x4 s39.2).bind fun w5 => wr 6 149 s39.1 (w5 134 30) w5 fun w6 => some (Sum.inl ((s39.1 + (1 : Int32)), w6)) else some (Sum.inr s39.2))) 5000000000 ((0 : Int32), w)).bind fun v7 => (lp (S := (Int32 × Int32 × Int32)) (T := (Int32 × Int32)) (fun s83 => (f_X10_bits r3).bind fun r8 => (if s83.2.2 < r8 then lt ((((10 : Int32) * s83.1) + (1 : Int32))) fun t9 => some (Sum.inl (t9, (s83.2.1 * (10 : Int32)), (s83.2.2 + (1 : Int32)))) else some (Sum.inr (s83.1, s83.2.1)))) 5000000000 ((1 : Int32), (10 : Int32), (1 : Int32))).bind fun v10 => (lp (S := (Int32 × Int32 × Int32)) (T := (Int32 × Int32)) (fun s118 => (if s118.1 < v10.2 then (f_X10_paidBy s118.1 r3 v7).bind fun r11 => ((if s118.2.2 < r11 then some (s118.1) else some (s118.2.1)) : Option Int32).bind fun v12 => ((if s118.2.2 < r11 then some (r11) else some (s118.2.2)) : Option Int32).bind fun v13 => (f_X10_nextFigures s118.1 (v7 134 18)).bind fun r14 => some (Sum.inl (r14, v12, v13)) else some (Sum.inr (s118.2.1, s118.2.2)))) 5000000000 (v10.1, (0 : Int32), (-1 : Int32))).bind fun v15 => (if a1 = 0 then some ((v15.2, v7)) else some ((v15.1, v7)))) else some (((-1000000003 : Int32), w))))
set_option maxRecDepth 20000 in
set_option maxHeartbeats 4000000 in
theorem tf_X10_queue {G : GT} {l : Launch} {z n : Nat} (a1 : Int32) (w : Mem) (q : Int32 × Mem) (hq : f_X10_queue a1 w = some q) : Mt G l z yX10_queue cX10_queue 8 (some .int) { frames := 3, cells := 0, slots := 0, locals := 74 } [.ref (z + 134), .int a1] (hp G z w) n (some (.int q.1)) (hp G z q.2) n := by
  refine mt_of (by decide +kernel) (Nat.le_of_ble_eq_true rfl) ?_
  intro p e s m below meth c C hr hlk hnm
  refine (?_ : DX p l e _ s m _ below meth c G z 8 n _ (fun v => v = q) 0 [(0, .ref (z + 134)), (1, .int a1)] [] w (f_X10_queue a1 w)) q hq rfl
  unfold f_X10_queue
  refine dx_iload_n C 1 dX10_queue_0 rfl rfl ?_
  refine dx_iconst (v := (0 : Int32)) C dX10_queue_1 (by decide) ?_
  refine dx_iconst (v := (1 : Int32)) C dX10_queue_2 (by decide) ?_
  refine dx_callS1 C cl_X10_in kmX10_82 (As := [.int a1, .int (0 : Int32), .int (1 : Int32)]) (rest := []) (tf_X10_in a1 (0 : Int32) (1 : Int32) w) rfl rfl (Nat.le_of_ble_eq_true rfl) ⟨Nat.le_of_ble_eq_true rfl, Nat.le_of_ble_eq_true rfl⟩ dX10_queue_3 (fun r1 => ?_)
  refine dx_if_ne C 12 dX10_queue_6 (by decide) ?_ ?_
  · refine dx_aload_n C 0 dX10_queue_12 rfl rfl ?_
    refine dgX10_47 C dX10_queue_13 ?_
    refine dx_iconst (v := (4 : Int32)) C dX10_queue_16 (by decide) ?_
    refine dx_rd C ly_146 dX10_queue_17 (fun x2 => ?_)
    refine dx_iconst (v := (-1 : Int32)) C dX10_queue_18 (by decide) ?_
    refine dx_icmp_eq C 25 dX10_queue_19 (by decide) ?_ ?_
    · refine dx_aload_n C 0 dX10_queue_25 rfl rfl ?_
      refine dx_iconst (v := (0 : Int32)) C dX10_queue_26 (by decide) ?_
      refine dx_callV1 C cl_X10_are kmX10_175 (ci := 9) (b := 134) (As := [.int (0 : Int32)]) (rest := []) rfl (hp_of ly_134) (tf_X10_are (0 : Int32) w) rfl rfl (Nat.le_of_ble_eq_true rfl) ⟨Nat.le_of_ble_eq_true rfl, Nat.le_of_ble_eq_true rfl⟩ dX10_queue_27 (fun r3 => ?_)
      refine dx_istore_n C [(2, .int r3), (0, .ref (z + 134)), (1, .int a1)] dX10_queue_30 rfl (by decide) rfl ?_
      refine dx_iload_n C 0 dX10_queue_31 rfl rfl ?_
      refine dx_if_ne C 37 dX10_queue_32 (by decide) ?_ ?_
      · refine dx_iconst (v := (0 : Int32)) C dX10_queue_37 (by decide) ?_
        refine dx_istore_n C [(3, .int (0 : Int32)), (2, .int r3), (0, .ref (z + 134)), (1, .int a1)] dX10_queue_38 rfl (by decide) rfl ?_
        refine dx_mv (lo2 := [(0, .ref (z + 134)), (1, .int a1), (2, .int r3), (3, .int (0 : Int32))]) [2, 3, 1, 0] rfl ?_
        refine dx_bind 74 (fun v7 => [(0, .ref (z + 134)), (1, .int a1), (2, .int r3)]) (fun v7 => []) (fun v7 => v7) (fun v7 => (?_ : DX p l e _ s m _ below meth c G z 8 n _ _ 74 [(0, .ref (z + 134)), (1, .int a1), (2, .int r3)] [] v7 _)) ?_
        · refine dx_iconst (v := (1 : Int32)) C dX10_queue_74 (by decide) ?_
          refine dx_istore_n C [(3, .int (1 : Int32)), (0, .ref (z + 134)), (1, .int a1), (2, .int r3)] dX10_queue_75 rfl (by decide) rfl ?_
          refine dx_bipush (v := (10 : Int32)) C dX10_queue_76 (by decide) ?_
          refine dx_istore C [(4, .int (10 : Int32)), (3, .int (1 : Int32)), (0, .ref (z + 134)), (1, .int a1), (2, .int r3)] dX10_queue_78 (by decide) rfl ?_
          refine dx_iconst (v := (1 : Int32)) C dX10_queue_80 (by decide) ?_
          refine dx_istore C [(5, .int (1 : Int32)), (4, .int (10 : Int32)), (3, .int (1 : Int32)), (0, .ref (z + 134)), (1, .int a1), (2, .int r3)] dX10_queue_81 (by decide) rfl ?_
          refine dx_mv (lo2 := [(0, .ref (z + 134)), (1, .int a1), (2, .int r3), (3, .int (1 : Int32)), (4, .int (10 : Int32)), (5, .int (1 : Int32))]) [3, 4, 5, 2, 1, 0] rfl ?_
          refine dx_bind 112 (fun v10 => [(0, .ref (z + 134)), (1, .int a1), (2, .int r3), (3, .int v10.1), (4, .int v10.2)]) (fun v10 => []) (fun v10 => v7) (fun v10 => (?_ : DX p l e _ s m _ below meth c G z 8 n _ _ 112 [(0, .ref (z + 134)), (1, .int a1), (2, .int r3), (3, .int v10.1), (4, .int v10.2)] [] v7 _)) ?_
          · refine dx_iconst (v := (0 : Int32)) C dX10_queue_112 (by decide) ?_
            refine dx_istore C [(5, .int (0 : Int32)), (0, .ref (z + 134)), (1, .int a1), (2, .int r3), (3, .int v10.1), (4, .int v10.2)] dX10_queue_113 (by decide) rfl ?_
            refine dx_iconst (v := (-1 : Int32)) C dX10_queue_115 (by decide) ?_
            refine dx_istore C [(6, .int (-1 : Int32)), (5, .int (0 : Int32)), (0, .ref (z + 134)), (1, .int a1), (2, .int r3), (3, .int v10.1), (4, .int v10.2)] dX10_queue_116 (by decide) rfl ?_
            refine dx_mv (lo2 := [(0, .ref (z + 134)), (1, .int a1), (2, .int r3), (3, .int v10.1), (4, .int v10.2), (5, .int (0 : Int32)), (6, .int (-1 : Int32))]) [2, 3, 4, 5, 6, 1, 0] rfl ?_
            refine dx_bind 175 (fun v15 => [(1, .int a1), (5, .int v15.1), (6, .int v15.2)]) (fun v15 => []) (fun v15 => v7) (fun v15 => (?_ : DX p l e _ s m _ below meth c G z 8 n _ _ 175 [(1, .int a1), (5, .int v15.1), (6, .int v15.2)] [] v7 _)) ?_
            · refine dx_iload_n C 0 dX10_queue_175 rfl rfl ?_
              refine dx_if_ne C 184 dX10_queue_176 (by decide) ?_ ?_
              · refine dx_iload C 1 dX10_queue_184 rfl ?_
                exact dx_iret2 C hr hlk dX10_queue_186 (fun h => h)
              · refine dx_iload C 2 dX10_queue_179 rfl ?_
                refine dx_goto C 186 dX10_queue_181 (by decide) ?_
                exact dx_iret2 C hr hlk dX10_queue_186 (fun h => h)
            · refine dx_lp (fun s118 => [(0, .ref (z + 134)), (1, .int a1), (2, .int r3), (3, .int s118.1), (4, .int v10.2), (5, .int s118.2.1), (6, .int s118.2.2)]) [] (fun s118 => v7) (fun s118 => (?_ : DX p l e _ s m _ below meth c G z 8 n _ _ 118 [(0, .ref (z + 134)), (1, .int a1), (2, .int r3), (3, .int s118.1), (4, .int v10.2), (5, .int s118.2.1), (6, .int s118.2.2)] [] v7 _)) 5000000000 (v10.1, (0 : Int32), (-1 : Int32))
              refine dx_iload_n C 3 dX10_queue_118 rfl rfl ?_
              refine dx_iload C 4 dX10_queue_119 rfl ?_
              refine dx_icmp_ge C 175 dX10_queue_121 (by decide) ?_ ?_
              · refine dx_mv (lo2 := [(1, .int a1), (5, .int s118.2.1), (6, .int s118.2.2)]) [1, 5, 6] rfl ?_
                exact dx_end (fun h => h)
              · refine dx_aload_n C 0 dX10_queue_124 rfl rfl ?_
                refine dx_iload_n C 3 dX10_queue_125 rfl rfl ?_
                refine dx_iload_n C 2 dX10_queue_126 rfl rfl ?_
                refine dx_callV1 C cl_X10_paidBy kmX10_280 (ci := 9) (b := 134) (As := [.int s118.1, .int r3]) (rest := []) rfl (hp_of ly_134) (tf_X10_paidBy s118.1 r3 v7) rfl rfl (Nat.le_of_ble_eq_true rfl) ⟨Nat.le_of_ble_eq_true rfl, Nat.le_of_ble_eq_true rfl⟩ dX10_queue_127 (fun r11 => ?_)
                refine dx_istore C [(7, .int r11), (0, .ref (z + 134)), (1, .int a1), (2, .int r3), (3, .int s118.1), (4, .int v10.2), (5, .int s118.2.1), (6, .int s118.2.2)] dX10_queue_130 (by decide) rfl ?_
                refine dx_iload C 0 dX10_queue_132 rfl ?_
                refine dx_iload C 7 dX10_queue_134 rfl ?_
                refine dx_bind 145 (fun v12 => [(0, .ref (z + 134)), (1, .int a1), (2, .int r3), (3, .int s118.1), (4, .int v10.2), (6, .int s118.2.2), (7, .int r11)]) (fun v12 => [.int v12]) (fun v12 => v7) (fun v12 => (?_ : DX p l e _ s m _ below meth c G z 8 n _ _ 145 [(0, .ref (z + 134)), (1, .int a1), (2, .int r3), (3, .int s118.1), (4, .int v10.2), (6, .int s118.2.2), (7, .int r11)] [.int v12] v7 _)) ?_
                · refine dx_istore C [(5, .int v12), (0, .ref (z + 134)), (1, .int a1), (2, .int r3), (3, .int s118.1), (4, .int v10.2), (6, .int s118.2.2), (7, .int r11)] dX10_queue_145 (by decide) rfl ?_
                  refine dx_iload C 7 dX10_queue_147 rfl ?_
                  refine dx_iload C 6 dX10_queue_149 rfl ?_
                  refine dx_bind 161 (fun v13 => [(0, .ref (z + 134)), (1, .int a1), (2, .int r3), (3, .int s118.1), (4, .int v10.2), (5, .int v12)]) (fun v13 => [.int v13]) (fun v13 => v7) (fun v13 => (?_ : DX p l e _ s m _ below meth c G z 8 n _ _ 161 [(0, .ref (z + 134)), (1, .int a1), (2, .int r3), (3, .int s118.1), (4, .int v10.2), (5, .int v12)] [.int v13] v7 _)) ?_
                  · refine dx_istore C [(6, .int v13), (0, .ref (z + 134)), (1, .int a1), (2, .int r3), (3, .int s118.1), (4, .int v10.2), (5, .int v12)] dX10_queue_161 (by decide) rfl ?_
                    refine dx_iload_n C 4 dX10_queue_163 rfl rfl ?_
                    refine dx_aload_n C 1 dX10_queue_164 rfl rfl ?_
                    refine dgX10_156 C dX10_queue_165 ?_
                    refine dx_callS1 C cl_X10_nextFigures kmX10_283 (As := [.int s118.1, .int (v7 134 18)]) (rest := []) (tf_X10_nextFigures s118.1 (v7 134 18) v7) rfl rfl (Nat.le_of_ble_eq_true rfl) ⟨Nat.le_of_ble_eq_true rfl, Nat.le_of_ble_eq_true rfl⟩ dX10_queue_168 (fun r14 => ?_)
                    refine dx_istore_n C [(3, .int r14), (6, .int v13), (0, .ref (z + 134)), (1, .int a1), (2, .int r3), (4, .int v10.2), (5, .int v12)] dX10_queue_171 rfl (by decide) rfl ?_
                    refine dx_goto C 118 dX10_queue_172 (by decide) ?_
                    refine dx_mv (lo2 := [(0, .ref (z + 134)), (1, .int a1), (2, .int r3), (3, .int r14), (4, .int v10.2), (5, .int v12), (6, .int v13)]) [2, 3, 4, 0, 5, 6, 1] rfl ?_
                    exact dx_end (fun h => h)
                  · refine dx_icmp_le C 159 dX10_queue_151 (by decide) ?_ ?_
                    · refine dx_iload C 6 dX10_queue_159 rfl ?_
                      refine dx_mv (lo2 := [(0, .ref (z + 134)), (1, .int a1), (2, .int r3), (3, .int s118.1), (4, .int v10.2), (5, .int v12)]) [1, 2, 3, 4, 5, 0] rfl ?_
                      exact dx_end (fun h => h)
                    · refine dx_iload C 7 dX10_queue_154 rfl ?_
                      refine dx_goto C 161 dX10_queue_156 (by decide) ?_
                      refine dx_mv (lo2 := [(0, .ref (z + 134)), (1, .int a1), (2, .int r3), (3, .int s118.1), (4, .int v10.2), (5, .int v12)]) [1, 2, 3, 4, 5, 0] rfl ?_
                      exact dx_end (fun h => h)
                · refine dx_icmp_le C 143 dX10_queue_136 (by decide) ?_ ?_
                  · refine dx_iload C 6 dX10_queue_143 rfl ?_
                    refine dx_mv (lo2 := [(0, .ref (z + 134)), (1, .int a1), (2, .int r3), (3, .int s118.1), (4, .int v10.2), (6, .int s118.2.2), (7, .int r11)]) [1, 2, 3, 4, 5, 7, 0] rfl ?_
                    exact dx_end (fun h => h)
                  · refine dx_iload_n C 4 dX10_queue_139 rfl rfl ?_
                    refine dx_goto C 145 dX10_queue_140 (by decide) ?_
                    refine dx_mv (lo2 := [(0, .ref (z + 134)), (1, .int a1), (2, .int r3), (3, .int s118.1), (4, .int v10.2), (6, .int s118.2.2), (7, .int r11)]) [1, 2, 3, 4, 5, 7, 0] rfl ?_
                    exact dx_end (fun h => h)
          · refine dx_lp (fun s83 => [(0, .ref (z + 134)), (1, .int a1), (2, .int r3), (3, .int s83.1), (4, .int s83.2.1), (5, .int s83.2.2)]) [] (fun s83 => v7) (fun s83 => (?_ : DX p l e _ s m _ below meth c G z 8 n _ _ 83 [(0, .ref (z + 134)), (1, .int a1), (2, .int r3), (3, .int s83.1), (4, .int s83.2.1), (5, .int s83.2.2)] [] v7 _)) 5000000000 ((1 : Int32), (10 : Int32), (1 : Int32))
            refine dx_iload C 5 dX10_queue_83 rfl ?_
            refine dx_iload_n C 2 dX10_queue_85 rfl rfl ?_
            refine dx_callS1 C cl_X10_bits kmX10_172 (As := [.int r3]) (rest := [.int s83.2.2]) (tf_X10_bits r3 v7) rfl rfl (Nat.le_of_ble_eq_true rfl) ⟨Nat.le_of_ble_eq_true rfl, Nat.le_of_ble_eq_true rfl⟩ dX10_queue_86 (fun r8 => ?_)
            refine dx_icmp_ge C 112 dX10_queue_89 (by decide) ?_ ?_
            · refine dx_mv (lo2 := [(0, .ref (z + 134)), (1, .int a1), (2, .int r3), (3, .int s83.1), (4, .int s83.2.1)]) [0, 1, 2, 3, 4] rfl ?_
              exact dx_end (fun h => h)
            · refine dx_bipush (v := (10 : Int32)) C dX10_queue_92 (by decide) ?_
              refine dx_iload_n C 3 dX10_queue_94 rfl rfl ?_
              refine dx_imul C dX10_queue_95 ?_
              refine dx_iconst (v := (1 : Int32)) C dX10_queue_96 (by decide) ?_
              refine dx_iadd C dX10_queue_97 ?_
              refine dx_lt (fun t9 => ?_)
              refine dx_istore_n C [(3, .int t9), (0, .ref (z + 134)), (1, .int a1), (2, .int r3), (4, .int s83.2.1), (5, .int s83.2.2)] dX10_queue_98 rfl (by decide) rfl ?_
              refine dx_iload C 4 dX10_queue_99 rfl ?_
              refine dx_bipush (v := (10 : Int32)) C dX10_queue_101 (by decide) ?_
              refine dx_imul C dX10_queue_103 ?_
              refine dx_istore C [(4, .int (s83.2.1 * (10 : Int32))), (3, .int t9), (0, .ref (z + 134)), (1, .int a1), (2, .int r3), (5, .int s83.2.2)] dX10_queue_104 (by decide) rfl ?_
              refine dx_iinc (v := (s83.2.2 + (1 : Int32))) C 5 [(5, .int (s83.2.2 + (1 : Int32))), (4, .int (s83.2.1 * (10 : Int32))), (3, .int t9), (0, .ref (z + 134)), (1, .int a1), (2, .int r3)] dX10_queue_106 rfl rfl (by decide) rfl ?_
              refine dx_goto C 83 dX10_queue_109 (by decide) ?_
              refine dx_mv (lo2 := [(0, .ref (z + 134)), (1, .int a1), (2, .int r3), (3, .int t9), (4, .int (s83.2.1 * (10 : Int32))), (5, .int (s83.2.2 + (1 : Int32)))]) [3, 4, 5, 2, 1, 0] rfl ?_
              exact dx_end (fun h => h)
        · refine dx_lp (fun s39 => [(0, .ref (z + 134)), (1, .int a1), (2, .int r3), (3, .int s39.1)]) [] (fun s39 => s39.2) (fun s39 => (?_ : DX p l e _ s m _ below meth c G z 8 n _ _ 39 [(0, .ref (z + 134)), (1, .int a1), (2, .int r3), (3, .int s39.1)] [] s39.2 _)) 5000000000 ((0 : Int32), w)
          refine dx_iload_n C 3 dX10_queue_39 rfl rfl ?_
          refine dx_aload_n C 0 dX10_queue_40 rfl rfl ?_
          refine dgX10_156 C dX10_queue_41 ?_
          refine dx_icmp_ge C 74 dX10_queue_44 (by decide) ?_ ?_
          · refine dx_mv (lo2 := [(0, .ref (z + 134)), (1, .int a1), (2, .int r3)]) [0, 1, 2] rfl ?_
            exact dx_end (fun h => h)
          · refine dx_aload_n C 0 dX10_queue_47 rfl rfl ?_
            refine dx_iload_n C 3 dX10_queue_48 rfl rfl ?_
            refine dx_aload_n C 0 dX10_queue_49 rfl rfl ?_
            refine dgX10_47 C dX10_queue_50 ?_
            refine dx_iconst (v := (3 : Int32)) C dX10_queue_53 (by decide) ?_
            refine dx_rd C ly_146 dX10_queue_54 (fun x4 => ?_)
            refine dx_callV3 C cl_X10_layTalk kmX10_273 (ci := 9) (b := 134) (As := [.int s39.1, .int x4]) (rest := []) rfl (hp_of ly_134) (tf_X10_layTalk s39.1 x4 s39.2) rfl rfl (Nat.le_of_ble_eq_true rfl) ⟨Nat.le_of_ble_eq_true rfl, Nat.le_of_ble_eq_true rfl⟩ dX10_queue_55 (fun w5 => ?_)
            refine dx_aload_n C 0 dX10_queue_58 rfl rfl ?_
            refine dgX10_56 C dX10_queue_59 ?_
            refine dx_iload_n C 3 dX10_queue_62 rfl rfl ?_
            refine dx_aload_n C 0 dX10_queue_63 rfl rfl ?_
            refine dgX10_264 C dX10_queue_64 ?_
            refine dx_wr C ly_149 dX10_queue_67 (fun w6 => ?_)
            refine dx_iinc (v := (s39.1 + (1 : Int32))) C 3 [(3, .int (s39.1 + (1 : Int32))), (0, .ref (z + 134)), (1, .int a1), (2, .int r3)] dX10_queue_68 rfl rfl (by decide) rfl ?_
            refine dx_goto C 39 dX10_queue_71 (by decide) ?_
            refine dx_mv (lo2 := [(0, .ref (z + 134)), (1, .int a1), (2, .int r3), (3, .int (s39.1 + (1 : Int32)))]) [1, 2, 3, 0] rfl ?_
            exact dx_end (fun h => h)
      · refine dx_iconst (v := (0 : Int32)) C dX10_queue_35 (by decide) ?_
        exact dx_iret2 C hr hlk dX10_queue_36 (fun h => h)
    · refine dx_ldc C kcX10_215 dX10_queue_22 ?_
      exact dx_iret2 C hr hlk dX10_queue_24 (fun h => h)
  · refine dx_ldc C kcX10_86 dX10_queue_9 ?_
    exact dx_iret2 C hr hlk dX10_queue_11 (fun h => h)
def f_X10_dry (a1 : Int32) (a2 : Int32) : Option (Int32) :=
  (f_X10_in a1 (0 : Int32) (60 : Int32)).bind fun r1 => (if r1 = 0 then some ((-1000000002 : Int32)) else (f_X10_in a2 (0 : Int32) (100 : Int32)).bind fun r2 => (if r2 = 0 then some ((-1000000002 : Int32)) else (lp (S := (Int64 × Int32)) (T := Int64) (fun s30 => (if s30.2 < a1 then ltl (((s30.1 * (a2).toInt64) / (100 : Int64))) fun t3 => some (Sum.inl (t3, (s30.2 + (1 : Int32)))) else some (Sum.inr s30.1))) 5000000000 ((1000000000 : Int64), (0 : Int32))).bind fun v4 => some ((v4).toInt32)))
set_option maxRecDepth 20000 in
set_option maxHeartbeats 4000000 in
theorem tf_X10_dry {G : GT} {l : Launch} {z n : Nat} (a1 : Int32) (a2 : Int32) (w : Mem) (q : Int32) (hq : f_X10_dry a1 a2 = some q) : Mt G l z yX10_dry cX10_dry 6 (some .int) { frames := 1, cells := 0, slots := 0, locals := 22 } [.ref (z + 134), .int a1, .int a2] (hp G z w) n (some (.int q)) (hp G z w) n := by
  refine mt_of (by decide +kernel) (Nat.le_of_ble_eq_true rfl) ?_
  intro p e s m below meth c C hr hlk hnm
  refine (?_ : DX p l e _ s m _ below meth c G z 6 n _ (fun v => v = q) 0 [(0, .ref (z + 134)), (1, .int a1), (2, .int a2)] [] w (f_X10_dry a1 a2)) q hq rfl
  unfold f_X10_dry
  refine dx_iload_n C 1 dX10_dry_0 rfl rfl ?_
  refine dx_iconst (v := (0 : Int32)) C dX10_dry_1 (by decide) ?_
  refine dx_bipush (v := (60 : Int32)) C dX10_dry_2 (by decide) ?_
  refine dx_callS1 C cl_X10_in kmX10_82 (As := [.int a1, .int (0 : Int32), .int (60 : Int32)]) (rest := []) (tf_X10_in a1 (0 : Int32) (60 : Int32) w) rfl rfl (Nat.le_of_ble_eq_true rfl) ⟨Nat.le_of_ble_eq_true rfl, Nat.le_of_ble_eq_true rfl⟩ dX10_dry_4 (fun r1 => ?_)
  refine dx_if_eq C 20 dX10_dry_7 (by decide) ?_ ?_
  · refine dx_ldc C kcX10_86 dX10_dry_20 ?_
    exact dx_iret1 C hr hlk dX10_dry_22 (fun h => h)
  · refine dx_iload_n C 2 dX10_dry_10 rfl rfl ?_
    refine dx_iconst (v := (0 : Int32)) C dX10_dry_11 (by decide) ?_
    refine dx_bipush (v := (100 : Int32)) C dX10_dry_12 (by decide) ?_
    refine dx_callS1 C cl_X10_in kmX10_82 (As := [.int a2, .int (0 : Int32), .int (100 : Int32)]) (rest := []) (tf_X10_in a2 (0 : Int32) (100 : Int32) w) rfl rfl (Nat.le_of_ble_eq_true rfl) ⟨Nat.le_of_ble_eq_true rfl, Nat.le_of_ble_eq_true rfl⟩ dX10_dry_14 (fun r2 => ?_)
    refine dx_if_ne C 23 dX10_dry_17 (by decide) ?_ ?_
    · refine dx_ldc2 C kcX10_286 dX10_dry_23 ?_
      refine dx_lstore_n C [(3, .long (1000000000 : Int64)), (0, .ref (z + 134)), (1, .int a1), (2, .int a2)] dX10_dry_26 rfl (by decide) rfl ?_
      refine dx_iconst (v := (0 : Int32)) C dX10_dry_27 (by decide) ?_
      refine dx_istore C [(5, .int (0 : Int32)), (3, .long (1000000000 : Int64)), (0, .ref (z + 134)), (1, .int a1), (2, .int a2)] dX10_dry_28 (by decide) rfl ?_
      refine dx_mv (lo2 := [(1, .int a1), (2, .int a2), (3, .long (1000000000 : Int64)), (5, .int (0 : Int32))]) [3, 4, 1, 0] rfl ?_
      refine dx_bind 51 (fun v4 => [(3, .long v4)]) (fun v4 => []) (fun v4 => w) (fun v4 => (?_ : DX p l e _ s m _ below meth c G z 6 n _ _ 51 [(3, .long v4)] [] w _)) ?_
      · refine dx_lload_n C 0 dX10_dry_51 rfl rfl ?_
        refine dx_l2i C dX10_dry_52 ?_
        exact dx_iret1 C hr hlk dX10_dry_53 (fun h => h)
      · refine dx_lp (fun s30 => [(1, .int a1), (2, .int a2), (3, .long s30.1), (5, .int s30.2)]) [] (fun s30 => w) (fun s30 => (?_ : DX p l e _ s m _ below meth c G z 6 n _ _ 30 [(1, .int a1), (2, .int a2), (3, .long s30.1), (5, .int s30.2)] [] w _)) 5000000000 ((1000000000 : Int64), (0 : Int32))
        refine dx_iload C 3 dX10_dry_30 rfl ?_
        refine dx_iload_n C 0 dX10_dry_32 rfl rfl ?_
        refine dx_icmp_ge C 51 dX10_dry_33 (by decide) ?_ ?_
        · refine dx_mv (lo2 := [(3, .long s30.1)]) [2] rfl ?_
          exact dx_end (fun h => h)
        · refine dx_lload_n C 2 dX10_dry_36 rfl rfl ?_
          refine dx_iload_n C 1 dX10_dry_37 rfl rfl ?_
          refine dx_i2l C dX10_dry_38 ?_
          refine dx_lmul C dX10_dry_39 ?_
          refine dx_ldc2 C kcX10_288 dX10_dry_40 ?_
          refine dx_ldiv C dX10_dry_43 (by decide) ?_
          refine dx_ltl (fun t3 => ?_)
          refine dx_lstore_n C [(3, .long t3), (1, .int a1), (2, .int a2), (5, .int s30.2)] dX10_dry_44 rfl (by decide) rfl ?_
          refine dx_iinc (v := (s30.2 + (1 : Int32))) C 3 [(5, .int (s30.2 + (1 : Int32))), (3, .long t3), (1, .int a1), (2, .int a2)] dX10_dry_45 rfl rfl (by decide) rfl ?_
          refine dx_goto C 30 dX10_dry_48 (by decide) ?_
          refine dx_mv (lo2 := [(1, .int a1), (2, .int a2), (3, .long t3), (5, .int (s30.2 + (1 : Int32)))]) [2, 3, 1, 0] rfl ?_
          exact dx_end (fun h => h)
    · refine dx_ldc C kcX10_86 dX10_dry_20 ?_
      exact dx_iret1 C hr hlk dX10_dry_22 (fun h => h)
