def f_X9_drawSeat (w : Mem) : Option (Mem) :=
  (if (w (brp (w 0 8)) 3) = 0 then some (w) else (f_X9_drawOf (w (brp (w 0 8)) 3) w).bind fun q1 => (f_X9_holds (q1.2 3 7) q1.1).bind fun r2 => (if r2 = 0 then some (q1.2) else (f_X3_takeSeat q1.1 q1.2).bind fun w3 => some (w3)))
set_option maxRecDepth 20000 in
set_option maxHeartbeats 4000000 in
theorem tf_X9_drawSeat {G : GT} {l : Launch} {z n : Nat} (w : Mem) (q : Mem) (hq : f_X9_drawSeat w = some q) : Mt G l z yX9_drawSeat cX9_drawSeat 2 none { frames := 1, cells := 0, slots := 0, locals := 21 } [.ref (z + 0)] (hp G z w) n none (hp G z q) n := by
  refine mt_of (by decide +kernel) (Nat.le_of_ble_eq_true rfl) ?_
  intro p e s m below meth c C hr hlk hnm
  refine (?_ : DX p l e _ s m _ below meth c G z 2 n _ (fun v => v = q) 0 [(0, .ref (z + 0))] [] w (f_X9_drawSeat w)) q hq rfl
  unfold f_X9_drawSeat
  refine dx_aload_n C 0 dX9_drawSeat_0 rfl rfl ?_
  refine dgX9_65 C dX9_drawSeat_1 ?_
  refine dgX9_103 C (brp_ok (w 0 8)) dX9_drawSeat_4 ?_
  refine dx_if_ne C 11 dX9_drawSeat_7 (by decide) ?_ ?_
  · refine dx_aload_n C 0 dX9_drawSeat_11 rfl rfl ?_
    refine dx_aload_n C 0 dX9_drawSeat_12 rfl rfl ?_
    refine dgX9_65 C dX9_drawSeat_13 ?_
    refine dgX9_103 C (brp_ok (w 0 8)) dX9_drawSeat_16 ?_
    refine dx_callV2 C cl_X9_drawOf kmX9_264 (ci := 8) (b := 0) (As := [.int (w (brp (w 0 8)) 3)]) (rest := []) rfl (hp_of ly_0) (tf_X9_drawOf (w (brp (w 0 8)) 3) w) rfl rfl (Nat.le_of_ble_eq_true rfl) ⟨Nat.le_of_ble_eq_true rfl, Nat.le_of_ble_eq_true rfl⟩ dX9_drawSeat_19 (fun q1 => ?_)
    refine dx_istore_n C [(1, .int q1.1), (0, .ref (z + 0))] dX9_drawSeat_22 rfl (by decide) rfl ?_
    refine dx_aload_n C 1 dX9_drawSeat_23 rfl rfl ?_
    refine dgX9_19 C dX9_drawSeat_24 ?_
    refine dgX9_167 C (Or.inl rfl) dX9_drawSeat_27 ?_
    refine dx_iload_n C 0 dX9_drawSeat_30 rfl rfl ?_
    refine dx_callS1 C cl_X9_holds kmX9_217 (As := [.int (q1.2 3 7), .int q1.1]) (rest := []) (tf_X9_holds (q1.2 3 7) q1.1 q1.2) rfl rfl (Nat.le_of_ble_eq_true rfl) ⟨Nat.le_of_ble_eq_true rfl, Nat.le_of_ble_eq_true rfl⟩ dX9_drawSeat_31 (fun r2 => ?_)
    refine dx_if_eq C 45 dX9_drawSeat_34 (by decide) ?_ ?_
    · exact dx_vret C hr hlk dX9_drawSeat_45 (fun h => h)
    · refine dx_aload_n C 1 dX9_drawSeat_37 rfl rfl ?_
      refine dgX9_19 C dX9_drawSeat_38 ?_
      refine dx_iload_n C 0 dX9_drawSeat_41 rfl rfl ?_
      refine dx_callV3 C cl_X3_takeSeat kmX9_226 (ci := 2) (b := 3) (As := [.int q1.1]) (rest := []) rfl (hp_of ly_3) (tf_X3_takeSeat q1.1 q1.2) rfl rfl (Nat.le_of_ble_eq_true rfl) ⟨Nat.le_of_ble_eq_true rfl, Nat.le_of_ble_eq_true rfl⟩ dX9_drawSeat_42 (fun w3 => ?_)
      exact dx_vret C hr hlk dX9_drawSeat_45 (fun h => h)
  · exact dx_vret C hr hlk dX9_drawSeat_10 (fun h => h)
def f_X9_driftOnce (w : Mem) : Option (Mem) :=
  ((if (w 3 4) = (-1 : Int32) then (f_X9_drawSeat w).bind fun w4 => some (w4) else (f_X9_drawTelling w).bind fun w3 => some (w3)) : Option Mem).bind fun v1 => (f_X3_passMinutes (brp (v1 0 8)) (1 : Int32) v1).bind fun w2 => some (w2)
set_option maxRecDepth 20000 in
set_option maxHeartbeats 4000000 in
theorem tf_X9_driftOnce {G : GT} {l : Launch} {z n : Nat} (w : Mem) (q : Mem) (hq : f_X9_driftOnce w = some q) : Mt G l z yX9_driftOnce cX9_driftOnce 1 none { frames := 5, cells := 0, slots := 0, locals := 110 } [.ref (z + 0)] (hp G z w) n none (hp G z q) n := by
  refine mt_of (by decide +kernel) (Nat.le_of_ble_eq_true rfl) ?_
  intro p e s m below meth c C hr hlk hnm
  refine (?_ : DX p l e _ s m _ below meth c G z 1 n _ (fun v => v = q) 0 [(0, .ref (z + 0))] [] w (f_X9_driftOnce w)) q hq rfl
  unfold f_X9_driftOnce
  refine dx_aload_n C 0 dX9_driftOnce_0 rfl rfl ?_
  refine dgX9_19 C dX9_driftOnce_1 ?_
  refine dgX9_158 C (Or.inl rfl) dX9_driftOnce_4 ?_
  refine dx_iconst (v := (-1 : Int32)) C dX9_driftOnce_7 (by decide) ?_
  refine dx_bind 22 (fun v1 => [(0, .ref (z + 0))]) (fun v1 => []) (fun v1 => v1) (fun v1 => (?_ : DX p l e _ s m _ below meth c G z 1 n _ _ 22 [(0, .ref (z + 0))] [] v1 _)) ?_
  · refine dx_aload_n C 0 dX9_driftOnce_22 rfl rfl ?_
    refine dgX9_19 C dX9_driftOnce_23 ?_
    refine dx_aload_n C 0 dX9_driftOnce_26 rfl rfl ?_
    refine dgX9_65 C dX9_driftOnce_27 ?_
    refine dx_iconst (v := (1 : Int32)) C dX9_driftOnce_30 (by decide) ?_
    refine dx_callV3 C cl_X3_passMinutes kmX9_238 (ci := 2) (b := 3) (As := [.ref (z + (brp (v1 0 8))), .int (1 : Int32)]) (rest := []) rfl (hp_of ly_3) (tf_X3_passMinutes (brp (v1 0 8)) (brp_ok (v1 0 8)) (1 : Int32) v1) rfl rfl (Nat.le_of_ble_eq_true rfl) ⟨Nat.le_of_ble_eq_true rfl, Nat.le_of_ble_eq_true rfl⟩ dX9_driftOnce_31 (fun w2 => ?_)
    exact dx_vret C hr hlk dX9_driftOnce_34 (fun h => h)
  · refine dx_icmp_ne C 18 dX9_driftOnce_8 (by decide) ?_ ?_
    · refine dx_aload_n C 0 dX9_driftOnce_18 rfl rfl ?_
      refine dx_callV3 C cl_X9_drawTelling kmX9_261 (ci := 8) (b := 0) (As := []) (rest := []) rfl (hp_of ly_0) (tf_X9_drawTelling w) rfl rfl (Nat.le_of_ble_eq_true rfl) ⟨Nat.le_of_ble_eq_true rfl, Nat.le_of_ble_eq_true rfl⟩ dX9_driftOnce_19 (fun w3 => ?_)
      exact dx_end (fun h => h)
    · refine dx_aload_n C 0 dX9_driftOnce_11 rfl rfl ?_
      refine dx_callV3 C cl_X9_drawSeat kmX9_258 (ci := 8) (b := 0) (As := []) (rest := []) rfl (hp_of ly_0) (tf_X9_drawSeat w) rfl rfl (Nat.le_of_ble_eq_true rfl) ⟨Nat.le_of_ble_eq_true rfl, Nat.le_of_ble_eq_true rfl⟩ dX9_driftOnce_12 (fun w4 => ?_)
      refine dx_goto C 22 dX9_driftOnce_15 (by decide) ?_
      exact dx_end (fun h => h)
def f_X9_drift (a1 : Int32) (w : Mem) : Option (Int32 × Mem) :=
  (if a1 < (1 : Int32) then some (((-1000000002 : Int32), w)) else (if (30 : Int32) < a1 then some (((-1000000002 : Int32), w)) else (f_X1_isThere (brp (w 0 8)) w).bind fun r1 => (if r1 = 0 then some (((-1000000003 : Int32), w)) else (if (900000 : Int32) < (w 3 0) then some (((-1000000004 : Int32), w)) else (lp (S := (Int32 × Mem)) (T := Mem) (fun s44 => (if s44.1 < a1 then (f_X6_remember s44.2).bind fun w2 => (f_X9_driftOnce w2).bind fun w3 => some (Sum.inl ((s44.1 + (1 : Int32)), w3)) else some (Sum.inr s44.2))) 5000000000 ((0 : Int32), w)).bind fun v4 => some (((v4 3 0), v4))))))
set_option maxRecDepth 20000 in
set_option maxHeartbeats 4000000 in
theorem tf_X9_drift {G : GT} {l : Launch} {z n : Nat} (a1 : Int32) (w : Mem) (q : Int32 × Mem) (hq : f_X9_drift a1 w = some q) : Mt G l z yX9_drift cX9_drift 3 (some .int) { frames := 6, cells := 0, slots := 0, locals := 130 } [.ref (z + 0), .int a1] (hp G z w) n (some (.int q.1)) (hp G z q.2) n := by
  refine mt_of (by decide +kernel) (Nat.le_of_ble_eq_true rfl) ?_
  intro p e s m below meth c C hr hlk hnm
  refine (?_ : DX p l e _ s m _ below meth c G z 3 n _ (fun v => v = q) 0 [(0, .ref (z + 0)), (1, .int a1)] [] w (f_X9_drift a1 w)) q hq rfl
  unfold f_X9_drift
  refine dx_iload_n C 1 dX9_drift_0 rfl rfl ?_
  refine dx_iconst (v := (1 : Int32)) C dX9_drift_1 (by decide) ?_
  refine dx_icmp_lt C 11 dX9_drift_2 (by decide) ?_ ?_
  · refine dx_ldc C kcX9_80 dX9_drift_11 ?_
    exact dx_iret2 C hr hlk dX9_drift_13 (fun h => h)
  · refine dx_iload_n C 1 dX9_drift_5 rfl rfl ?_
    refine dx_bipush (v := (30 : Int32)) C dX9_drift_6 (by decide) ?_
    refine dx_icmp_le C 14 dX9_drift_8 (by decide) ?_ ?_
    · refine dx_aload_n C 0 dX9_drift_14 rfl rfl ?_
      refine dgX9_65 C dX9_drift_15 ?_
      refine dx_callV1 C cl_X1_isThere kmX9_247 (ci := 0) (b := (brp (w 0 8))) (As := []) (rest := []) rfl (hp_of (lyBr0 (brp_ok (w 0 8)))) (tf_X1_isThere (brp (w 0 8)) (brp_ok (w 0 8)) w) rfl rfl (Nat.le_of_ble_eq_true rfl) ⟨Nat.le_of_ble_eq_true rfl, Nat.le_of_ble_eq_true rfl⟩ dX9_drift_18 (fun r1 => ?_)
      refine dx_if_ne C 27 dX9_drift_21 (by decide) ?_ ?_
      · refine dx_aload_n C 0 dX9_drift_27 rfl rfl ?_
        refine dgX9_19 C dX9_drift_28 ?_
        refine dgX9_149 C (Or.inl rfl) dX9_drift_31 ?_
        refine dx_ldc C kcX9_251 dX9_drift_34 ?_
        refine dx_icmp_le C 42 dX9_drift_36 (by decide) ?_ ?_
        · refine dx_iconst (v := (0 : Int32)) C dX9_drift_42 (by decide) ?_
          refine dx_istore_n C [(2, .int (0 : Int32)), (0, .ref (z + 0)), (1, .int a1)] dX9_drift_43 rfl (by decide) rfl ?_
          refine dx_mv (lo2 := [(0, .ref (z + 0)), (1, .int a1), (2, .int (0 : Int32))]) [1, 2, 0] rfl ?_
          refine dx_bind 70 (fun v4 => [(0, .ref (z + 0))]) (fun v4 => []) (fun v4 => v4) (fun v4 => (?_ : DX p l e _ s m _ below meth c G z 3 n _ _ 70 [(0, .ref (z + 0))] [] v4 _)) ?_
          · refine dx_aload_n C 0 dX9_drift_70 rfl rfl ?_
            refine dgX9_19 C dX9_drift_71 ?_
            refine dgX9_149 C (Or.inl rfl) dX9_drift_74 ?_
            exact dx_iret2 C hr hlk dX9_drift_77 (fun h => h)
          · refine dx_lp (fun s44 => [(0, .ref (z + 0)), (1, .int a1), (2, .int s44.1)]) [] (fun s44 => s44.2) (fun s44 => (?_ : DX p l e _ s m _ below meth c G z 3 n _ _ 44 [(0, .ref (z + 0)), (1, .int a1), (2, .int s44.1)] [] s44.2 _)) 5000000000 ((0 : Int32), w)
            refine dx_iload_n C 2 dX9_drift_44 rfl rfl ?_
            refine dx_iload_n C 1 dX9_drift_45 rfl rfl ?_
            refine dx_icmp_ge C 70 dX9_drift_46 (by decide) ?_ ?_
            · refine dx_mv (lo2 := [(0, .ref (z + 0))]) [0] rfl ?_
              exact dx_end (fun h => h)
            · refine dx_aload_n C 0 dX9_drift_49 rfl rfl ?_
              refine dgX9_26 C dX9_drift_50 ?_
              refine dx_aload_n C 0 dX9_drift_53 rfl rfl ?_
              refine dgX9_19 C dX9_drift_54 ?_
              refine dx_callV3 C cl_X6_remember kmX9_222 (ci := 5) (b := 6) (As := [.ref (z + 3)]) (rest := []) rfl (hp_of ly_6) (tf_X6_remember s44.2) rfl rfl (Nat.le_of_ble_eq_true rfl) ⟨Nat.le_of_ble_eq_true rfl, Nat.le_of_ble_eq_true rfl⟩ dX9_drift_57 (fun w2 => ?_)
              refine dx_aload_n C 0 dX9_drift_60 rfl rfl ?_
              refine dx_callV3 C cl_X9_driftOnce kmX9_255 (ci := 8) (b := 0) (As := []) (rest := []) rfl (hp_of ly_0) (tf_X9_driftOnce w2) rfl rfl (Nat.le_of_ble_eq_true rfl) ⟨Nat.le_of_ble_eq_true rfl, Nat.le_of_ble_eq_true rfl⟩ dX9_drift_61 (fun w3 => ?_)
              refine dx_iinc (v := (s44.1 + (1 : Int32))) C 2 [(2, .int (s44.1 + (1 : Int32))), (0, .ref (z + 0)), (1, .int a1)] dX9_drift_64 rfl rfl (by decide) rfl ?_
              refine dx_goto C 44 dX9_drift_67 (by decide) ?_
              refine dx_mv (lo2 := [(0, .ref (z + 0)), (1, .int a1), (2, .int (s44.1 + (1 : Int32)))]) [1, 2, 0] rfl ?_
              exact dx_end (fun h => h)
        · refine dx_ldc C kcX9_88 dX9_drift_39 ?_
          exact dx_iret2 C hr hlk dX9_drift_41 (fun h => h)
      · refine dx_ldc C kcX9_221 dX9_drift_24 ?_
        exact dx_iret2 C hr hlk dX9_drift_26 (fun h => h)
    · refine dx_ldc C kcX9_80 dX9_drift_11 ?_
      exact dx_iret2 C hr hlk dX9_drift_13 (fun h => h)
def f_X6_takeBack (a1 : Int32) (w : Mem) : Option (Mem) :=
  (if a1 < (1 : Int32) then some (w) else (if (w 6 1) < a1 then some (w) else pw 6 2 ((((w 6 2) + (30 : Int32)) - a1) - (((w 6 2) + (30 : Int32)) - a1) / (30 : Int32) * (30 : Int32)) w fun w1 => pw 6 1 ((w1 6 1) - a1) w1 fun w2 => rg (w2 6 2) fun o3 => (f_X3_copyFrom 3 o3 w2).bind fun w4 => some (w4)))
set_option maxRecDepth 20000 in
set_option maxHeartbeats 4000000 in
theorem tf_X6_takeBack {G : GT} {l : Launch} {z n : Nat} (a1 : Int32) (w : Mem) (q : Mem) (hq : f_X6_takeBack a1 w = some q) : Mt G l z yX6_takeBack cX6_takeBack 3 none { frames := 1, cells := 0, slots := 0, locals := 22 } [.ref (z + 6), .int a1, .ref (z + 3)] (hp G z w) n none (hp G z q) n := by
  refine mt_of (by decide +kernel) (Nat.le_of_ble_eq_true rfl) ?_
  intro p e s m below meth c C hr hlk hnm
  refine (?_ : DX p l e _ s m _ below meth c G z 3 n _ (fun v => v = q) 0 [(0, .ref (z + 6)), (1, .int a1), (2, .ref (z + 3))] [] w (f_X6_takeBack a1 w)) q hq rfl
  unfold f_X6_takeBack
  refine dx_iload_n C 1 dX6_takeBack_0 rfl rfl ?_
  refine dx_iconst (v := (1 : Int32)) C dX6_takeBack_1 (by decide) ?_
  refine dx_icmp_lt C 13 dX6_takeBack_2 (by decide) ?_ ?_
  · exact dx_vret C hr hlk dX6_takeBack_13 (fun h => h)
  · refine dx_iload_n C 1 dX6_takeBack_5 rfl rfl ?_
    refine dx_aload_n C 0 dX6_takeBack_6 rfl rfl ?_
    refine dgX6_17 C dX6_takeBack_7 ?_
    refine dx_icmp_le C 14 dX6_takeBack_10 (by decide) ?_ ?_
    · refine dx_aload_n C 0 dX6_takeBack_14 rfl rfl ?_
      refine dx_aload_n C 0 dX6_takeBack_15 rfl rfl ?_
      refine dgX6_21 C dX6_takeBack_16 ?_
      refine dx_bipush (v := (30 : Int32)) C dX6_takeBack_19 (by decide) ?_
      refine dx_iadd C dX6_takeBack_21 ?_
      refine dx_iload_n C 1 dX6_takeBack_22 rfl rfl ?_
      refine dx_isub C dX6_takeBack_23 ?_
      refine dx_bipush (v := (30 : Int32)) C dX6_takeBack_24 (by decide) ?_
      refine dx_irem C dX6_takeBack_26 (by decide) ?_
      refine dpX6_21 C dX6_takeBack_27 (fun w1 => ?_)
      refine dx_aload_n C 0 dX6_takeBack_30 rfl rfl ?_
      refine dx_dup C dX6_takeBack_31 rfl ?_
      refine dgX6_17 C dX6_takeBack_32 ?_
      refine dx_iload_n C 1 dX6_takeBack_35 rfl rfl ?_
      refine dx_isub C dX6_takeBack_36 ?_
      refine dpX6_17 C dX6_takeBack_37 (fun w2 => ?_)
      refine dx_aload_n C 2 dX6_takeBack_40 rfl rfl ?_
      refine dx_aload_n C 0 dX6_takeBack_41 rfl rfl ?_
      refine dgX6_11 C dX6_takeBack_42 ?_
      refine dx_aload_n C 0 dX6_takeBack_45 rfl rfl ?_
      refine dgX6_21 C dX6_takeBack_46 ?_
      refine dx_ring C dX6_takeBack_49 (fun o3 ho3 => ?_)
      refine dx_callV3 C cl_X3_copyFrom kmX6_25 (ci := 2) (b := 3) (As := [.ref (z + o3)]) (rest := []) rfl (hp_of ly_3) (tf_X3_copyFrom 3 (Or.inl rfl) o3 ho3 w2) rfl rfl (Nat.le_of_ble_eq_true rfl) ⟨Nat.le_of_ble_eq_true rfl, Nat.le_of_ble_eq_true rfl⟩ dX6_takeBack_50 (fun w4 => ?_)
      exact dx_vret C hr hlk dX6_takeBack_53 (fun h => h)
    · exact dx_vret C hr hlk dX6_takeBack_13 (fun h => h)
def f_X9_undo (a1 : Int32) (w : Mem) : Option (Int32 × Mem) :=
  (if a1 < (1 : Int32) then some (((-1000000002 : Int32), w)) else (if (30 : Int32) < a1 then some (((-1000000002 : Int32), w)) else (if (w 6 1) < a1 then some (((-1000000003 : Int32), w)) else (f_X6_takeBack a1 w).bind fun w1 => some (((w1 3 0), w1)))))
set_option maxRecDepth 20000 in
set_option maxHeartbeats 4000000 in
theorem tf_X9_undo {G : GT} {l : Launch} {z n : Nat} (a1 : Int32) (w : Mem) (q : Int32 × Mem) (hq : f_X9_undo a1 w = some q) : Mt G l z yX9_undo cX9_undo 2 (some .int) { frames := 2, cells := 0, slots := 0, locals := 44 } [.ref (z + 0), .int a1] (hp G z w) n (some (.int q.1)) (hp G z q.2) n := by
  refine mt_of (by decide +kernel) (Nat.le_of_ble_eq_true rfl) ?_
  intro p e s m below meth c C hr hlk hnm
  refine (?_ : DX p l e _ s m _ below meth c G z 2 n _ (fun v => v = q) 0 [(0, .ref (z + 0)), (1, .int a1)] [] w (f_X9_undo a1 w)) q hq rfl
  unfold f_X9_undo
  refine dx_iload_n C 1 dX9_undo_0 rfl rfl ?_
  refine dx_iconst (v := (1 : Int32)) C dX9_undo_1 (by decide) ?_
  refine dx_icmp_lt C 11 dX9_undo_2 (by decide) ?_ ?_
  · refine dx_ldc C kcX9_80 dX9_undo_11 ?_
    exact dx_iret2 C hr hlk dX9_undo_13 (fun h => h)
  · refine dx_iload_n C 1 dX9_undo_5 rfl rfl ?_
    refine dx_bipush (v := (30 : Int32)) C dX9_undo_6 (by decide) ?_
    refine dx_icmp_le C 14 dX9_undo_8 (by decide) ?_ ?_
    · refine dx_iload_n C 1 dX9_undo_14 rfl rfl ?_
      refine dx_aload_n C 0 dX9_undo_15 rfl rfl ?_
      refine dgX9_26 C dX9_undo_16 ?_
      refine dgX9_144 C dX9_undo_19 ?_
      refine dx_icmp_le C 28 dX9_undo_22 (by decide) ?_ ?_
      · refine dx_aload_n C 0 dX9_undo_28 rfl rfl ?_
        refine dgX9_26 C dX9_undo_29 ?_
        refine dx_iload_n C 1 dX9_undo_32 rfl rfl ?_
        refine dx_aload_n C 0 dX9_undo_33 rfl rfl ?_
        refine dgX9_19 C dX9_undo_34 ?_
        refine dx_callV3 C cl_X6_takeBack kmX9_274 (ci := 5) (b := 6) (As := [.int a1, .ref (z + 3)]) (rest := []) rfl (hp_of ly_6) (tf_X6_takeBack a1 w) rfl rfl (Nat.le_of_ble_eq_true rfl) ⟨Nat.le_of_ble_eq_true rfl, Nat.le_of_ble_eq_true rfl⟩ dX9_undo_37 (fun w1 => ?_)
        refine dx_aload_n C 0 dX9_undo_40 rfl rfl ?_
        refine dgX9_19 C dX9_undo_41 ?_
        refine dgX9_149 C (Or.inl rfl) dX9_undo_44 ?_
        exact dx_iret2 C hr hlk dX9_undo_47 (fun h => h)
      · refine dx_ldc C kcX9_221 dX9_undo_25 ?_
        exact dx_iret2 C hr hlk dX9_undo_27 (fun h => h)
    · refine dx_ldc C kcX9_80 dX9_undo_11 ?_
      exact dx_iret2 C hr hlk dX9_undo_13 (fun h => h)
def f_X9_stay (a1 : Int32) (a2 : Int32) (w : Mem) : Option (Int32) :=
  (f_X1_hasTraveller (brp (w 0 8)) a1 w).bind fun r1 => (if r1 = 0 then some ((-1000000001 : Int32)) else (f_X1_hasMatter (brp (w 0 8)) a2 w).bind fun r2 => (if r2 = 0 then some ((-1000000001 : Int32)) else (f_X1_stayOf (brp (w 0 8)) a1 a2 w).bind fun r3 => some (r3)))
set_option maxRecDepth 20000 in
set_option maxHeartbeats 4000000 in
theorem tf_X9_stay {G : GT} {l : Launch} {z n : Nat} (a1 : Int32) (a2 : Int32) (w : Mem) (q : Int32) (hq : f_X9_stay a1 a2 w = some q) : Mt G l z yX9_stay cX9_stay 3 (some .int) { frames := 2, cells := 0, slots := 0, locals := 43 } [.ref (z + 0), .int a1, .int a2] (hp G z w) n (some (.int q)) (hp G z w) n := by
  refine mt_of (by decide +kernel) (Nat.le_of_ble_eq_true rfl) ?_
  intro p e s m below meth c C hr hlk hnm
  refine (?_ : DX p l e _ s m _ below meth c G z 3 n _ (fun v => v = q) 0 [(0, .ref (z + 0)), (1, .int a1), (2, .int a2)] [] w (f_X9_stay a1 a2 w)) q hq rfl
  unfold f_X9_stay
  refine dx_aload_n C 0 dX9_stay_0 rfl rfl ?_
  refine dgX9_65 C dX9_stay_1 ?_
  refine dx_iload_n C 1 dX9_stay_4 rfl rfl ?_
  refine dx_callV1 C cl_X1_hasTraveller kmX9_193 (ci := 0) (b := (brp (w 0 8))) (As := [.int a1]) (rest := []) rfl (hp_of (lyBr0 (brp_ok (w 0 8)))) (tf_X1_hasTraveller (brp (w 0 8)) (brp_ok (w 0 8)) a1 w) rfl rfl (Nat.le_of_ble_eq_true rfl) ⟨Nat.le_of_ble_eq_true rfl, Nat.le_of_ble_eq_true rfl⟩ dX9_stay_5 (fun r1 => ?_)
  refine dx_if_eq C 22 dX9_stay_8 (by decide) ?_ ?_
  · refine dx_ldc C kcX9_179 dX9_stay_22 ?_
    exact dx_iret1 C hr hlk dX9_stay_24 (fun h => h)
  · refine dx_aload_n C 0 dX9_stay_11 rfl rfl ?_
    refine dgX9_65 C dX9_stay_12 ?_
    refine dx_iload_n C 2 dX9_stay_15 rfl rfl ?_
    refine dx_callV1 C cl_X1_hasMatter kmX9_176 (ci := 0) (b := (brp (w 0 8))) (As := [.int a2]) (rest := []) rfl (hp_of (lyBr0 (brp_ok (w 0 8)))) (tf_X1_hasMatter (brp (w 0 8)) (brp_ok (w 0 8)) a2 w) rfl rfl (Nat.le_of_ble_eq_true rfl) ⟨Nat.le_of_ble_eq_true rfl, Nat.le_of_ble_eq_true rfl⟩ dX9_stay_16 (fun r2 => ?_)
    refine dx_if_ne C 25 dX9_stay_19 (by decide) ?_ ?_
    · refine dx_aload_n C 0 dX9_stay_25 rfl rfl ?_
      refine dgX9_65 C dX9_stay_26 ?_
      refine dx_iload_n C 1 dX9_stay_29 rfl rfl ?_
      refine dx_iload_n C 2 dX9_stay_30 rfl rfl ?_
      refine dx_callV1 C cl_X1_stayOf kmX9_278 (ci := 0) (b := (brp (w 0 8))) (As := [.int a1, .int a2]) (rest := []) rfl (hp_of (lyBr0 (brp_ok (w 0 8)))) (tf_X1_stayOf (brp (w 0 8)) (brp_ok (w 0 8)) a1 a2 w) rfl rfl (Nat.le_of_ble_eq_true rfl) ⟨Nat.le_of_ble_eq_true rfl, Nat.le_of_ble_eq_true rfl⟩ dX9_stay_31 (fun r3 => ?_)
      exact dx_iret1 C hr hlk dX9_stay_34 (fun h => h)
    · refine dx_ldc C kcX9_179 dX9_stay_22 ?_
      exact dx_iret1 C hr hlk dX9_stay_24 (fun h => h)
def f_X9_talk (a1 : Int32) (a2 : Int32) (w : Mem) : Option (Int32 × Mem) :=
  (f_X1_hasTraveller (brp (w 0 8)) a1 w).bind fun r1 => (if r1 = 0 then some (((-1000000001 : Int32), w)) else (if a2 < 0 then some (((-1000000002 : Int32), w)) else (if (3 : Int32) < a2 then some (((-1000000002 : Int32), w)) else (f_X8_tryWith (brp (w 0 8)) a1 (w 3 3) w).bind fun w2 => (if a2 = (0 : Int32) then some (((w2 99 1), w2)) else (if a2 = (1 : Int32) then some (((w2 99 2), w2)) else (if a2 = (2 : Int32) then some (((w2 99 3), w2)) else (f_X1_payFor (brp (w2 0 8)) (w2 99 1) w2).bind fun r6 => some ((r6, w2))))))))
set_option maxRecDepth 20000 in
set_option maxHeartbeats 4000000 in
theorem tf_X9_talk {G : GT} {l : Launch} {z n : Nat} (a1 : Int32) (a2 : Int32) (w : Mem) (q : Int32 × Mem) (hq : f_X9_talk a1 a2 w = some q) : Mt G l z yX9_talk cX9_talk 3 (some .int) { frames := 4, cells := 0, slots := 0, locals := 91 } [.ref (z + 0), .int a1, .int a2] (hp G z w) n (some (.int q.1)) (hp G z q.2) n := by
  refine mt_of (by decide +kernel) (Nat.le_of_ble_eq_true rfl) ?_
  intro p e s m below meth c C hr hlk hnm
  refine (?_ : DX p l e _ s m _ below meth c G z 3 n _ (fun v => v = q) 0 [(0, .ref (z + 0)), (1, .int a1), (2, .int a2)] [] w (f_X9_talk a1 a2 w)) q hq rfl
  unfold f_X9_talk
  refine dx_aload_n C 0 dX9_talk_0 rfl rfl ?_
  refine dgX9_65 C dX9_talk_1 ?_
  refine dx_iload_n C 1 dX9_talk_4 rfl rfl ?_
  refine dx_callV1 C cl_X1_hasTraveller kmX9_193 (ci := 0) (b := (brp (w 0 8))) (As := [.int a1]) (rest := []) rfl (hp_of (lyBr0 (brp_ok (w 0 8)))) (tf_X1_hasTraveller (brp (w 0 8)) (brp_ok (w 0 8)) a1 w) rfl rfl (Nat.le_of_ble_eq_true rfl) ⟨Nat.le_of_ble_eq_true rfl, Nat.le_of_ble_eq_true rfl⟩ dX9_talk_5 (fun r1 => ?_)
  refine dx_if_ne C 14 dX9_talk_8 (by decide) ?_ ?_
  · refine dx_iload_n C 2 dX9_talk_14 rfl rfl ?_
    refine dx_if_lt C 23 dX9_talk_15 (by decide) ?_ ?_
    · refine dx_ldc C kcX9_80 dX9_talk_23 ?_
      exact dx_iret2 C hr hlk dX9_talk_25 (fun h => h)
    · refine dx_iload_n C 2 dX9_talk_18 rfl rfl ?_
      refine dx_iconst (v := (3 : Int32)) C dX9_talk_19 (by decide) ?_
      refine dx_icmp_le C 26 dX9_talk_20 (by decide) ?_ ?_
      · refine dx_aload_n C 0 dX9_talk_26 rfl rfl ?_
        refine dgX9_39 C dX9_talk_27 ?_
        refine dx_aload_n C 0 dX9_talk_30 rfl rfl ?_
        refine dgX9_65 C dX9_talk_31 ?_
        refine dx_iload_n C 1 dX9_talk_34 rfl rfl ?_
        refine dx_aload_n C 0 dX9_talk_35 rfl rfl ?_
        refine dgX9_19 C dX9_talk_36 ?_
        refine dgX9_134 C (Or.inl rfl) dX9_talk_39 ?_
        refine dx_callV3 C cl_X8_tryWith kmX9_282 (ci := 7) (b := 99) (As := [.ref (z + (brp (w 0 8))), .int a1, .int (w 3 3)]) (rest := []) rfl (hp_of ly_99) (tf_X8_tryWith (brp (w 0 8)) (brp_ok (w 0 8)) a1 (w 3 3) w) rfl rfl (Nat.le_of_ble_eq_true rfl) ⟨Nat.le_of_ble_eq_true rfl, Nat.le_of_ble_eq_true rfl⟩ dX9_talk_42 (fun w2 => ?_)
        refine dx_iload_n C 2 dX9_talk_45 rfl rfl ?_
        refine dx_ite (fun hs3 => ?_) (fun hs3 => ?_)
        · refine dx_tableIn C 72 dX9_talk_46 (by rw [hs3]; decide) (by rw [hs3]; decide) (by rw [hs3]; rfl) (by decide) ?_
          refine dx_aload_n C 0 dX9_talk_72 rfl rfl ?_
          refine dgX9_39 C dX9_talk_73 ?_
          refine dgX9_286 C dX9_talk_76 ?_
          exact dx_iret2 C hr hlk dX9_talk_79 (fun h => h)
        · refine dx_ite (fun hs4 => ?_) (fun hs4 => ?_)
          · refine dx_tableIn C 80 dX9_talk_46 (by rw [hs4]; decide) (by rw [hs4]; decide) (by rw [hs4]; rfl) (by decide) ?_
            refine dx_aload_n C 0 dX9_talk_80 rfl rfl ?_
            refine dgX9_39 C dX9_talk_81 ?_
            refine dgX9_289 C dX9_talk_84 ?_
            exact dx_iret2 C hr hlk dX9_talk_87 (fun h => h)
          · refine dx_ite (fun hs5 => ?_) (fun hs5 => ?_)
            · refine dx_tableIn C 88 dX9_talk_46 (by rw [hs5]; decide) (by rw [hs5]; decide) (by rw [hs5]; rfl) (by decide) ?_
              refine dx_aload_n C 0 dX9_talk_88 rfl rfl ?_
              refine dgX9_39 C dX9_talk_89 ?_
              refine dgX9_292 C dX9_talk_92 ?_
              exact dx_iret2 C hr hlk dX9_talk_95 (fun h => h)
            · have ehs3 : (a2).toInt ≠ 0 := fun q => hs3 ((i_eq_iff _ _).mpr (q.trans (by decide)))
              have ehs4 : (a2).toInt ≠ 1 := fun q => hs4 ((i_eq_iff _ _).mpr (q.trans (by decide)))
              have ehs5 : (a2).toInt ≠ 2 := fun q => hs5 ((i_eq_iff _ _).mpr (q.trans (by decide)))
              refine dx_tableOut C 96 dX9_talk_46 (by omega) (by decide) ?_
              refine dx_aload_n C 0 dX9_talk_96 rfl rfl ?_
              refine dgX9_65 C dX9_talk_97 ?_
              refine dx_aload_n C 0 dX9_talk_100 rfl rfl ?_
              refine dgX9_39 C dX9_talk_101 ?_
              refine dgX9_286 C dX9_talk_104 ?_
              refine dx_callV1 C cl_X1_payFor kmX9_293 (ci := 0) (b := (brp (w2 0 8))) (As := [.int (w2 99 1)]) (rest := []) rfl (hp_of (lyBr0 (brp_ok (w2 0 8)))) (tf_X1_payFor (brp (w2 0 8)) (brp_ok (w2 0 8)) (w2 99 1) w2) rfl rfl (Nat.le_of_ble_eq_true rfl) ⟨Nat.le_of_ble_eq_true rfl, Nat.le_of_ble_eq_true rfl⟩ dX9_talk_107 (fun r6 => ?_)
              exact dx_iret2 C hr hlk dX9_talk_110 (fun h => h)
      · refine dx_ldc C kcX9_80 dX9_talk_23 ?_
        exact dx_iret2 C hr hlk dX9_talk_25 (fun h => h)
  · refine dx_ldc C kcX9_179 dX9_talk_11 ?_
    exact dx_iret2 C hr hlk dX9_talk_13 (fun h => h)
def f_X5_fill (b1 : Nat) (w : Mem) : Option (Mem) :=
  pw 101 4 (0 : Int32) w fun w1 => (lp (S := (Int32 × Mem)) (T := Mem) (fun s8 => (if s8.1 < (s8.2 b1 3) then (f_X9_holds (s8.2 3 7) s8.1).bind fun r2 => ((if r2 = 0 then some (s8.2) else (f_X8_tryWith b1 s8.1 (s8.2 3 3) s8.2).bind fun w4 => wr 6 103 s8.1 (w4 99 1) w4 fun w5 => (f_X1_payFor b1 (w5 99 1) w5).bind fun r6 => wr 6 104 s8.1 r6 w5 fun w7 => (f_X3_patienceOf b1 s8.1 w7).bind fun r8 => wr 6 105 s8.1 r8 w7 fun w9 => wr 6 102 (w9 101 4) s8.1 w9 fun w10 => pw 101 4 ((w10 101 4) + (1 : Int32)) w10 fun w11 => some (w11)) : Option Mem).bind fun v3 => some (Sum.inl ((s8.1 + (1 : Int32)), v3)) else some (Sum.inr s8.2))) 5000000000 ((0 : Int32), w1)).bind fun v12 => some (v12)
set_option maxRecDepth 20000 in
set_option maxHeartbeats 4000000 in
theorem tf_X5_fill {G : GT} {l : Launch} {z n : Nat} (b1 : Nat) (hb1 : BrO b1) (w : Mem) (q : Mem) (hq : f_X5_fill b1 w = some q) : Mt G l z yX5_fill cX5_fill 5 none { frames := 4, cells := 0, slots := 0, locals := 91 } [.ref (z + 101), .ref (z + b1), .ref (z + 3), .ref (z + 99)] (hp G z w) n none (hp G z q) n := by
  refine mt_of (by decide +kernel) (Nat.le_of_ble_eq_true rfl) ?_
  intro p e s m below meth c C hr hlk hnm
  refine (?_ : DX p l e _ s m _ below meth c G z 5 n _ (fun v => v = q) 0 [(0, .ref (z + 101)), (1, .ref (z + b1)), (2, .ref (z + 3)), (3, .ref (z + 99))] [] w (f_X5_fill b1 w)) q hq rfl
  unfold f_X5_fill
  refine dx_aload_n C 0 dX5_fill_0 rfl rfl ?_
  refine dx_iconst (v := (0 : Int32)) C dX5_fill_1 (by decide) ?_
  refine dpX5_24 C dX5_fill_2 (fun w1 => ?_)
  refine dx_iconst (v := (0 : Int32)) C dX5_fill_5 (by decide) ?_
  refine dx_istore C [(4, .int (0 : Int32)), (0, .ref (z + 101)), (1, .ref (z + b1)), (2, .ref (z + 3)), (3, .ref (z + 99))] dX5_fill_6 (by decide) rfl ?_
  refine dx_mv (lo2 := [(0, .ref (z + 101)), (1, .ref (z + b1)), (2, .ref (z + 3)), (3, .ref (z + 99)), (4, .int (0 : Int32))]) [1, 2, 3, 4, 0] rfl ?_
  refine dx_bind 107 (fun v12 => []) (fun v12 => []) (fun v12 => v12) (fun v12 => (?_ : DX p l e _ s m _ below meth c G z 5 n _ _ 107 [] [] v12 _)) ?_
  · exact dx_vret C hr hlk dX5_fill_107 (fun h => h)
  · refine dx_lp (fun s8 => [(0, .ref (z + 101)), (1, .ref (z + b1)), (2, .ref (z + 3)), (3, .ref (z + 99)), (4, .int s8.1)]) [] (fun s8 => s8.2) (fun s8 => (?_ : DX p l e _ s m _ below meth c G z 5 n _ _ 8 [(0, .ref (z + 101)), (1, .ref (z + b1)), (2, .ref (z + 3)), (3, .ref (z + 99)), (4, .int s8.1)] [] s8.2 _)) 5000000000 ((0 : Int32), w1)
    refine dx_iload C 4 dX5_fill_8 rfl ?_
    refine dx_aload_n C 1 dX5_fill_10 rfl rfl ?_
    refine dgX5_34 C hb1 dX5_fill_11 ?_
    refine dx_icmp_ge C 107 dX5_fill_14 (by decide) ?_ ?_
    · refine dx_mv (lo2 := []) [] rfl ?_
      exact dx_end (fun h => h)
    · refine dx_aload_n C 2 dX5_fill_17 rfl rfl ?_
      refine dgX5_39 C (Or.inl rfl) dX5_fill_18 ?_
      refine dx_iload C 4 dX5_fill_21 rfl ?_
      refine dx_callSN1 C cl_X9_holds knX5_44 (As := [.int (s8.2 3 7), .int s8.1]) (rest := []) (tf_X9_holds (s8.2 3 7) s8.1 s8.2) rfl rfl (Nat.le_of_ble_eq_true rfl) ⟨Nat.le_of_ble_eq_true rfl, Nat.le_of_ble_eq_true rfl⟩ dX5_fill_23 (fun r2 => ?_)
      refine dx_bind 101 (fun v3 => [(0, .ref (z + 101)), (1, .ref (z + b1)), (2, .ref (z + 3)), (3, .ref (z + 99)), (4, .int s8.1)]) (fun v3 => []) (fun v3 => v3) (fun v3 => (?_ : DX p l e _ s m _ below meth c G z 5 n _ _ 101 [(0, .ref (z + 101)), (1, .ref (z + b1)), (2, .ref (z + 3)), (3, .ref (z + 99)), (4, .int s8.1)] [] v3 _)) ?_
      · refine dx_iinc (v := (s8.1 + (1 : Int32))) C 4 [(4, .int (s8.1 + (1 : Int32))), (0, .ref (z + 101)), (1, .ref (z + b1)), (2, .ref (z + 3)), (3, .ref (z + 99))] dX5_fill_101 rfl rfl (by decide) rfl ?_
        refine dx_goto C 8 dX5_fill_104 (by decide) ?_
        refine dx_mv (lo2 := [(0, .ref (z + 101)), (1, .ref (z + b1)), (2, .ref (z + 3)), (3, .ref (z + 99)), (4, .int (s8.1 + (1 : Int32)))]) [1, 2, 3, 4, 0] rfl ?_
        exact dx_end (fun h => h)
      · refine dx_if_eq C 101 dX5_fill_26 (by decide) ?_ ?_
        · exact dx_end (fun h => h)
        · refine dx_aload_n C 3 dX5_fill_29 rfl rfl ?_
          refine dx_aload_n C 1 dX5_fill_30 rfl rfl ?_
          refine dx_iload C 4 dX5_fill_31 rfl ?_
          refine dx_aload_n C 2 dX5_fill_33 rfl rfl ?_
          refine dgX5_48 C (Or.inl rfl) dX5_fill_34 ?_
          refine dx_callV3 C cl_X8_tryWith kmX5_51 (ci := 7) (b := 99) (As := [.ref (z + b1), .int s8.1, .int (s8.2 3 3)]) (rest := []) rfl (hp_of ly_99) (tf_X8_tryWith b1 hb1 s8.1 (s8.2 3 3) s8.2) rfl rfl (Nat.le_of_ble_eq_true rfl) ⟨Nat.le_of_ble_eq_true rfl, Nat.le_of_ble_eq_true rfl⟩ dX5_fill_37 (fun w4 => ?_)
          refine dx_aload_n C 0 dX5_fill_40 rfl rfl ?_
          refine dgX5_15 C dX5_fill_41 ?_
          refine dx_iload C 4 dX5_fill_44 rfl ?_
          refine dx_aload_n C 3 dX5_fill_46 rfl rfl ?_
          refine dgX5_57 C dX5_fill_47 ?_
          refine dx_wr C ly_103 dX5_fill_50 (fun w5 => ?_)
          refine dx_aload_n C 0 dX5_fill_51 rfl rfl ?_
          refine dgX5_18 C dX5_fill_52 ?_
          refine dx_iload C 4 dX5_fill_55 rfl ?_
          refine dx_aload_n C 1 dX5_fill_57 rfl rfl ?_
          refine dx_aload_n C 3 dX5_fill_58 rfl rfl ?_
          refine dgX5_57 C dX5_fill_59 ?_
          refine dx_callV1 C cl_X1_payFor kmX5_59 (ci := 0) (b := b1) (As := [.int (w5 99 1)]) (rest := [.int s8.1, .ref (z + 104)]) rfl (hp_of (lyBr0 hb1)) (tf_X1_payFor b1 hb1 (w5 99 1) w5) rfl rfl (Nat.le_of_ble_eq_true rfl) ⟨Nat.le_of_ble_eq_true rfl, Nat.le_of_ble_eq_true rfl⟩ dX5_fill_62 (fun r6 => ?_)
          refine dx_wr C ly_104 dX5_fill_65 (fun w7 => ?_)
          refine dx_aload_n C 0 dX5_fill_66 rfl rfl ?_
          refine dgX5_21 C dX5_fill_67 ?_
          refine dx_iload C 4 dX5_fill_70 rfl ?_
          refine dx_aload_n C 2 dX5_fill_72 rfl rfl ?_
          refine dx_aload_n C 1 dX5_fill_73 rfl rfl ?_
          refine dx_iload C 4 dX5_fill_74 rfl ?_
          refine dx_callV1 C cl_X3_patienceOf kmX5_63 (ci := 2) (b := 3) (As := [.ref (z + b1), .int s8.1]) (rest := [.int s8.1, .ref (z + 105)]) rfl (hp_of ly_3) (tf_X3_patienceOf b1 hb1 s8.1 w7) rfl rfl (Nat.le_of_ble_eq_true rfl) ⟨Nat.le_of_ble_eq_true rfl, Nat.le_of_ble_eq_true rfl⟩ dX5_fill_76 (fun r8 => ?_)
          refine dx_wr C ly_105 dX5_fill_79 (fun w9 => ?_)
          refine dx_aload_n C 0 dX5_fill_80 rfl rfl ?_
          refine dgX5_9 C dX5_fill_81 ?_
          refine dx_aload_n C 0 dX5_fill_84 rfl rfl ?_
          refine dgX5_24 C dX5_fill_85 ?_
          refine dx_iload C 4 dX5_fill_88 rfl ?_
          refine dx_wr C ly_102 dX5_fill_90 (fun w10 => ?_)
          refine dx_aload_n C 0 dX5_fill_91 rfl rfl ?_
          refine dx_dup C dX5_fill_92 rfl ?_
          refine dgX5_24 C dX5_fill_93 ?_
          refine dx_iconst (v := (1 : Int32)) C dX5_fill_96 (by decide) ?_
          refine dx_iadd C dX5_fill_97 ?_
          refine dpX5_24 C dX5_fill_98 (fun w11 => ?_)
          exact dx_end (fun h => h)
def f_X5_payOfOrder (w : Mem) : Option (Int32) :=
  (lp (S := (Int32 × Int32 × Int32)) (T := Int32) (fun s6 => (if s6.2.2 < (w 101 4) then rd 6 (w 102) s6.2.2 fun x1 => rd 6 (w 105) x1 fun x2 => ((if x2 < s6.1 then some ((s6.1, s6.2.1)) else rd 6 (w 103) x1 fun x4 => rd 6 (w 104) x1 fun x5 => some (((s6.1 + x4), (s6.2.1 + x5)))) : Option (Int32 × Int32)).bind fun v3 => some (Sum.inl (v3.1, v3.2, (s6.2.2 + (1 : Int32)))) else some (Sum.inr s6.2.1))) 5000000000 ((0 : Int32), (0 : Int32), (0 : Int32))).bind fun v6 => some (v6)
set_option maxRecDepth 20000 in
set_option maxHeartbeats 4000000 in
theorem tf_X5_payOfOrder {G : GT} {l : Launch} {z n : Nat} (w : Mem) (q : Int32) (hq : f_X5_payOfOrder w = some q) : Mt G l z yX5_payOfOrder cX5_payOfOrder 5 (some .int) { frames := 0, cells := 0, slots := 0, locals := 0 } [.ref (z + 101)] (hp G z w) n (some (.int q)) (hp G z w) n := by
  refine mt_of (by decide +kernel) (Nat.le_of_ble_eq_true rfl) ?_
  intro p e s m below meth c C hr hlk hnm
  refine (?_ : DX p l e _ s m _ below meth c G z 5 n _ (fun v => v = q) 0 [(0, .ref (z + 101))] [] w (f_X5_payOfOrder w)) q hq rfl
  unfold f_X5_payOfOrder
  refine dx_iconst (v := (0 : Int32)) C dX5_payOfOrder_0 (by decide) ?_
  refine dx_istore_n C [(1, .int (0 : Int32)), (0, .ref (z + 101))] dX5_payOfOrder_1 rfl (by decide) rfl ?_
  refine dx_iconst (v := (0 : Int32)) C dX5_payOfOrder_2 (by decide) ?_
  refine dx_istore_n C [(2, .int (0 : Int32)), (1, .int (0 : Int32)), (0, .ref (z + 101))] dX5_payOfOrder_3 rfl (by decide) rfl ?_
  refine dx_iconst (v := (0 : Int32)) C dX5_payOfOrder_4 (by decide) ?_
  refine dx_istore_n C [(3, .int (0 : Int32)), (2, .int (0 : Int32)), (1, .int (0 : Int32)), (0, .ref (z + 101))] dX5_payOfOrder_5 rfl (by decide) rfl ?_
  refine dx_mv (lo2 := [(0, .ref (z + 101)), (1, .int (0 : Int32)), (2, .int (0 : Int32)), (3, .int (0 : Int32))]) [3, 2, 1, 0] rfl ?_
  refine dx_bind 59 (fun v6 => [(2, .int v6)]) (fun v6 => []) (fun v6 => w) (fun v6 => (?_ : DX p l e _ s m _ below meth c G z 5 n _ _ 59 [(2, .int v6)] [] w _)) ?_
  · refine dx_iload_n C 0 dX5_payOfOrder_59 rfl rfl ?_
    exact dx_iret1 C hr hlk dX5_payOfOrder_60 (fun h => h)
  · refine dx_lp (fun s6 => [(0, .ref (z + 101)), (1, .int s6.1), (2, .int s6.2.1), (3, .int s6.2.2)]) [] (fun s6 => w) (fun s6 => (?_ : DX p l e _ s m _ below meth c G z 5 n _ _ 6 [(0, .ref (z + 101)), (1, .int s6.1), (2, .int s6.2.1), (3, .int s6.2.2)] [] w _)) 5000000000 ((0 : Int32), (0 : Int32), (0 : Int32))
    refine dx_iload_n C 3 dX5_payOfOrder_6 rfl rfl ?_
    refine dx_aload_n C 0 dX5_payOfOrder_7 rfl rfl ?_
    refine dgX5_24 C dX5_payOfOrder_8 ?_
    refine dx_icmp_ge C 59 dX5_payOfOrder_11 (by decide) ?_ ?_
    · refine dx_mv (lo2 := [(2, .int s6.2.1)]) [2] rfl ?_
      exact dx_end (fun h => h)
    · refine dx_aload_n C 0 dX5_payOfOrder_14 rfl rfl ?_
      refine dgX5_9 C dX5_payOfOrder_15 ?_
      refine dx_iload_n C 3 dX5_payOfOrder_18 rfl rfl ?_
      refine dx_rd C ly_102 dX5_payOfOrder_19 (fun x1 => ?_)
      refine dx_istore C [(4, .int x1), (0, .ref (z + 101)), (1, .int s6.1), (2, .int s6.2.1), (3, .int s6.2.2)] dX5_payOfOrder_20 (by decide) rfl ?_
      refine dx_iload_n C 2 dX5_payOfOrder_22 rfl rfl ?_
      refine dx_aload_n C 1 dX5_payOfOrder_23 rfl rfl ?_
      refine dgX5_21 C dX5_payOfOrder_24 ?_
      refine dx_iload C 0 dX5_payOfOrder_27 rfl ?_
      refine dx_rd C ly_105 dX5_payOfOrder_29 (fun x2 => ?_)
      refine dx_bind 53 (fun v3 => [(0, .ref (z + 101)), (1, .int v3.1), (2, .int v3.2), (3, .int s6.2.2)]) (fun v3 => []) (fun v3 => w) (fun v3 => (?_ : DX p l e _ s m _ below meth c G z 5 n _ _ 53 [(0, .ref (z + 101)), (1, .int v3.1), (2, .int v3.2), (3, .int s6.2.2)] [] w _)) ?_
      · refine dx_iinc (v := (s6.2.2 + (1 : Int32))) C 3 [(3, .int (s6.2.2 + (1 : Int32))), (0, .ref (z + 101)), (1, .int v3.1), (2, .int v3.2)] dX5_payOfOrder_53 rfl rfl (by decide) rfl ?_
        refine dx_goto C 6 dX5_payOfOrder_56 (by decide) ?_
        refine dx_mv (lo2 := [(0, .ref (z + 101)), (1, .int v3.1), (2, .int v3.2), (3, .int (s6.2.2 + (1 : Int32)))]) [1, 2, 3, 0] rfl ?_
        exact dx_end (fun h => h)
      · refine dx_icmp_gt C 53 dX5_payOfOrder_30 (by decide) ?_ ?_
        · refine dx_mv (lo2 := [(0, .ref (z + 101)), (1, .int s6.1), (2, .int s6.2.1), (3, .int s6.2.2)]) [1, 2, 3, 4] rfl ?_
          exact dx_end (fun h => h)
        · refine dx_iload_n C 2 dX5_payOfOrder_33 rfl rfl ?_
          refine dx_aload_n C 1 dX5_payOfOrder_34 rfl rfl ?_
          refine dgX5_15 C dX5_payOfOrder_35 ?_
          refine dx_iload C 0 dX5_payOfOrder_38 rfl ?_
          refine dx_rd C ly_103 dX5_payOfOrder_40 (fun x4 => ?_)
          refine dx_iadd C dX5_payOfOrder_41 ?_
          refine dx_istore_n C [(1, .int (s6.1 + x4)), (4, .int x1), (0, .ref (z + 101)), (2, .int s6.2.1), (3, .int s6.2.2)] dX5_payOfOrder_42 rfl (by decide) rfl ?_
          refine dx_iload_n C 3 dX5_payOfOrder_43 rfl rfl ?_
          refine dx_aload_n C 2 dX5_payOfOrder_44 rfl rfl ?_
          refine dgX5_18 C dX5_payOfOrder_45 ?_
          refine dx_iload C 1 dX5_payOfOrder_48 rfl ?_
          refine dx_rd C ly_104 dX5_payOfOrder_50 (fun x5 => ?_)
          refine dx_iadd C dX5_payOfOrder_51 ?_
          refine dx_istore_n C [(2, .int (s6.2.1 + x5)), (1, .int (s6.1 + x4)), (4, .int x1), (0, .ref (z + 101)), (3, .int s6.2.2)] dX5_payOfOrder_52 rfl (by decide) rfl ?_
          refine dx_mv (lo2 := [(0, .ref (z + 101)), (1, .int (s6.1 + x4)), (2, .int (s6.2.1 + x5)), (3, .int s6.2.2)]) [3, 1, 0, 4] rfl ?_
          exact dx_end (fun h => h)
def f_X5_swap (a1 : Int32) (a2 : Int32) (w : Mem) : Option (Mem) :=
  rd 6 (w 102) a1 fun x1 => rd 6 (w 102) a2 fun x2 => wr 6 102 a1 x2 w fun w3 => wr 6 102 a2 x1 w3 fun w4 => some (w4)
set_option maxRecDepth 20000 in
set_option maxHeartbeats 4000000 in
theorem tf_X5_swap {G : GT} {l : Launch} {z n : Nat} (a1 : Int32) (a2 : Int32) (w : Mem) (q : Mem) (hq : f_X5_swap a1 a2 w = some q) : Mt G l z yX5_swap cX5_swap 4 none { frames := 0, cells := 0, slots := 0, locals := 0 } [.ref (z + 101), .int a1, .int a2] (hp G z w) n none (hp G z q) n := by
  refine mt_of (by decide +kernel) (Nat.le_of_ble_eq_true rfl) ?_
  intro p e s m below meth c C hr hlk hnm
  refine (?_ : DX p l e _ s m _ below meth c G z 4 n _ (fun v => v = q) 0 [(0, .ref (z + 101)), (1, .int a1), (2, .int a2)] [] w (f_X5_swap a1 a2 w)) q hq rfl
  unfold f_X5_swap
  refine dx_aload_n C 0 dX5_swap_0 rfl rfl ?_
  refine dgX5_9 C dX5_swap_1 ?_
  refine dx_iload_n C 1 dX5_swap_4 rfl rfl ?_
  refine dx_rd C ly_102 dX5_swap_5 (fun x1 => ?_)
  refine dx_istore_n C [(3, .int x1), (0, .ref (z + 101)), (1, .int a1), (2, .int a2)] dX5_swap_6 rfl (by decide) rfl ?_
  refine dx_aload_n C 1 dX5_swap_7 rfl rfl ?_
  refine dgX5_9 C dX5_swap_8 ?_
  refine dx_iload_n C 2 dX5_swap_11 rfl rfl ?_
  refine dx_aload_n C 1 dX5_swap_12 rfl rfl ?_
  refine dgX5_9 C dX5_swap_13 ?_
  refine dx_iload_n C 3 dX5_swap_16 rfl rfl ?_
  refine dx_rd C ly_102 dX5_swap_17 (fun x2 => ?_)
  refine dx_wr C ly_102 dX5_swap_18 (fun w3 => ?_)
  refine dx_aload_n C 1 dX5_swap_19 rfl rfl ?_
  refine dgX5_9 C dX5_swap_20 ?_
  refine dx_iload_n C 3 dX5_swap_23 rfl rfl ?_
  refine dx_iload_n C 0 dX5_swap_24 rfl rfl ?_
  refine dx_wr C ly_102 dX5_swap_25 (fun w4 => ?_)
  exact dx_vret C hr hlk dX5_swap_26 (fun h => h)
def f_X5_nextOrder (w : Mem) : Option (Int32 × Mem) :=
  lt (((w 101 4) - (2 : Int32))) fun t1 => (lp (S := Int32) (T := Int32) (fun s7 => (if s7 < 0 then some (Sum.inr s7) else rd 6 (w 102) s7 fun x2 => rd 6 (w 102) (s7 + (1 : Int32)) fun x3 => (if x3 < x2 then some (Sum.inl (s7 + (-1 : Int32))) else some (Sum.inr s7)))) 5000000000 t1).bind fun v4 => (if v4 < 0 then some (((0 : Int32), w)) else lt (((w 101 4) - (1 : Int32))) fun t5 => (lp (S := Int32) (T := Int32) (fun s47 => (if v4 < s47 then rd 6 (w 102) s47 fun x6 => rd 6 (w 102) v4 fun x7 => (if x6 < x7 then some (Sum.inl (s47 + (-1 : Int32))) else some (Sum.inr s47)) else some (Sum.inr s47))) 5000000000 t5).bind fun v8 => (f_X5_swap v4 v8 w).bind fun w9 => lt (((w9 101 4) - (1 : Int32))) fun t10 => (lp (S := (Int32 × Int32 × Mem)) (T := Mem) (fun s91 => (if s91.1 < s91.2.1 then (f_X5_swap s91.1 s91.2.1 s91.2.2).bind fun w11 => some (Sum.inl ((s91.1 + (1 : Int32)), (s91.2.1 + (-1 : Int32)), w11)) else some (Sum.inr s91.2.2))) 5000000000 ((v4 + (1 : Int32)), t10, w9)).bind fun v12 => some (((1 : Int32), v12)))
set_option maxRecDepth 20000 in
set_option maxHeartbeats 4000000 in
theorem tf_X5_nextOrder {G : GT} {l : Launch} {z n : Nat} (w : Mem) (q : Int32 × Mem) (hq : f_X5_nextOrder w = some q) : Mt G l z yX5_nextOrder cX5_nextOrder 5 (some .boolean) { frames := 1, cells := 0, slots := 0, locals := 23 } [.ref (z + 101)] (hp G z w) n (some (.int q.1)) (hp G z q.2) n := by
  refine mt_of (by decide +kernel) (Nat.le_of_ble_eq_true rfl) ?_
  intro p e s m below meth c C hr hlk hnm
  refine (?_ : DX p l e _ s m _ below meth c G z 5 n _ (fun v => v = q) 0 [(0, .ref (z + 101))] [] w (f_X5_nextOrder w)) q hq rfl
  unfold f_X5_nextOrder
  refine dx_aload_n C 0 dX5_nextOrder_0 rfl rfl ?_
  refine dgX5_24 C dX5_nextOrder_1 ?_
  refine dx_iconst (v := (2 : Int32)) C dX5_nextOrder_4 (by decide) ?_
  refine dx_isub C dX5_nextOrder_5 ?_
  refine dx_lt (fun t1 => ?_)
  refine dx_istore_n C [(1, .int t1), (0, .ref (z + 101))] dX5_nextOrder_6 rfl (by decide) rfl ?_
  refine dx_mv (lo2 := [(0, .ref (z + 101)), (1, .int t1)]) [1, 0] rfl ?_
  refine dx_bind 34 (fun v4 => [(0, .ref (z + 101)), (1, .int v4)]) (fun v4 => []) (fun v4 => w) (fun v4 => (?_ : DX p l e _ s m _ below meth c G z 5 n _ _ 34 [(0, .ref (z + 101)), (1, .int v4)] [] w _)) ?_
  · refine dx_iload_n C 1 dX5_nextOrder_34 rfl rfl ?_
    refine dx_if_ge C 40 dX5_nextOrder_35 (by decide) ?_ ?_
    · refine dx_aload_n C 0 dX5_nextOrder_40 rfl rfl ?_
      refine dgX5_24 C dX5_nextOrder_41 ?_
      refine dx_iconst (v := (1 : Int32)) C dX5_nextOrder_44 (by decide) ?_
      refine dx_isub C dX5_nextOrder_45 ?_
      refine dx_lt (fun t5 => ?_)
      refine dx_istore_n C [(2, .int t5), (0, .ref (z + 101)), (1, .int v4)] dX5_nextOrder_46 rfl (by decide) rfl ?_
      refine dx_mv (lo2 := [(0, .ref (z + 101)), (1, .int v4), (2, .int t5)]) [1, 2, 0] rfl ?_
      refine dx_bind 73 (fun v8 => [(0, .ref (z + 101)), (1, .int v4), (2, .int v8)]) (fun v8 => []) (fun v8 => w) (fun v8 => (?_ : DX p l e _ s m _ below meth c G z 5 n _ _ 73 [(0, .ref (z + 101)), (1, .int v4), (2, .int v8)] [] w _)) ?_
      · refine dx_aload_n C 0 dX5_nextOrder_73 rfl rfl ?_
        refine dx_iload_n C 1 dX5_nextOrder_74 rfl rfl ?_
        refine dx_iload_n C 2 dX5_nextOrder_75 rfl rfl ?_
        refine dx_callV3 C cl_X5_swap kmX5_78 (ci := 4) (b := 101) (As := [.int v4, .int v8]) (rest := []) rfl (hp_of ly_101) (tf_X5_swap v4 v8 w) rfl rfl (Nat.le_of_ble_eq_true rfl) ⟨Nat.le_of_ble_eq_true rfl, Nat.le_of_ble_eq_true rfl⟩ dX5_nextOrder_76 (fun w9 => ?_)
        refine dx_iload_n C 1 dX5_nextOrder_79 rfl rfl ?_
        refine dx_iconst (v := (1 : Int32)) C dX5_nextOrder_80 (by decide) ?_
        refine dx_iadd C dX5_nextOrder_81 ?_
        refine dx_istore_n C [(3, .int (v4 + (1 : Int32))), (0, .ref (z + 101)), (1, .int v4), (2, .int v8)] dX5_nextOrder_82 rfl (by decide) rfl ?_
        refine dx_aload_n C 1 dX5_nextOrder_83 rfl rfl ?_
        refine dgX5_24 C dX5_nextOrder_84 ?_
        refine dx_iconst (v := (1 : Int32)) C dX5_nextOrder_87 (by decide) ?_
        refine dx_isub C dX5_nextOrder_88 ?_
        refine dx_lt (fun t10 => ?_)
        refine dx_istore C [(4, .int t10), (3, .int (v4 + (1 : Int32))), (0, .ref (z + 101)), (1, .int v4), (2, .int v8)] dX5_nextOrder_89 (by decide) rfl ?_
        refine dx_mv (lo2 := [(0, .ref (z + 101)), (3, .int (v4 + (1 : Int32))), (4, .int t10)]) [2, 1, 0] rfl ?_
        refine dx_bind 113 (fun v12 => []) (fun v12 => []) (fun v12 => v12) (fun v12 => (?_ : DX p l e _ s m _ below meth c G z 5 n _ _ 113 [] [] v12 _)) ?_
        · refine dx_iconst (v := (1 : Int32)) C dX5_nextOrder_113 (by decide) ?_
          exact dx_zret2 C hr hlk (by decide) dX5_nextOrder_114 (fun h => h)
        · refine dx_lp (fun s91 => [(0, .ref (z + 101)), (3, .int s91.1), (4, .int s91.2.1)]) [] (fun s91 => s91.2.2) (fun s91 => (?_ : DX p l e _ s m _ below meth c G z 5 n _ _ 91 [(0, .ref (z + 101)), (3, .int s91.1), (4, .int s91.2.1)] [] s91.2.2 _)) 5000000000 ((v4 + (1 : Int32)), t10, w9)
          refine dx_iload_n C 1 dX5_nextOrder_91 rfl rfl ?_
          refine dx_iload C 2 dX5_nextOrder_92 rfl ?_
          refine dx_icmp_ge C 113 dX5_nextOrder_94 (by decide) ?_ ?_
          · refine dx_mv (lo2 := []) [] rfl ?_
            exact dx_end (fun h => h)
          · refine dx_aload_n C 0 dX5_nextOrder_97 rfl rfl ?_
            refine dx_iload_n C 1 dX5_nextOrder_98 rfl rfl ?_
            refine dx_iload C 2 dX5_nextOrder_99 rfl ?_
            refine dx_callV3 C cl_X5_swap kmX5_78 (ci := 4) (b := 101) (As := [.int s91.1, .int s91.2.1]) (rest := []) rfl (hp_of ly_101) (tf_X5_swap s91.1 s91.2.1 s91.2.2) rfl rfl (Nat.le_of_ble_eq_true rfl) ⟨Nat.le_of_ble_eq_true rfl, Nat.le_of_ble_eq_true rfl⟩ dX5_nextOrder_101 (fun w11 => ?_)
            refine dx_iinc (v := (s91.1 + (1 : Int32))) C 1 [(3, .int (s91.1 + (1 : Int32))), (0, .ref (z + 101)), (4, .int s91.2.1)] dX5_nextOrder_104 rfl rfl (by decide) rfl ?_
            refine dx_iinc (v := (s91.2.1 + (-1 : Int32))) C 2 [(4, .int (s91.2.1 + (-1 : Int32))), (3, .int (s91.1 + (1 : Int32))), (0, .ref (z + 101))] dX5_nextOrder_107 rfl rfl (by decide) rfl ?_
            refine dx_goto C 91 dX5_nextOrder_110 (by decide) ?_
            refine dx_mv (lo2 := [(0, .ref (z + 101)), (3, .int (s91.1 + (1 : Int32))), (4, .int (s91.2.1 + (-1 : Int32)))]) [2, 1, 0] rfl ?_
            exact dx_end (fun h => h)
      · refine dx_lp (fun s47 => [(0, .ref (z + 101)), (1, .int v4), (2, .int s47)]) [] (fun s47 => w) (fun s47 => (?_ : DX p l e _ s m _ below meth c G z 5 n _ _ 47 [(0, .ref (z + 101)), (1, .int v4), (2, .int s47)] [] w _)) 5000000000 t5
        refine dx_iload_n C 2 dX5_nextOrder_47 rfl rfl ?_
        refine dx_iload_n C 1 dX5_nextOrder_48 rfl rfl ?_
        refine dx_icmp_le C 73 dX5_nextOrder_49 (by decide) ?_ ?_
        · exact dx_end (fun h => h)
        · refine dx_aload_n C 0 dX5_nextOrder_52 rfl rfl ?_
          refine dgX5_9 C dX5_nextOrder_53 ?_
          refine dx_iload_n C 2 dX5_nextOrder_56 rfl rfl ?_
          refine dx_rd C ly_102 dX5_nextOrder_57 (fun x6 => ?_)
          refine dx_aload_n C 0 dX5_nextOrder_58 rfl rfl ?_
          refine dgX5_9 C dX5_nextOrder_59 ?_
          refine dx_iload_n C 1 dX5_nextOrder_62 rfl rfl ?_
          refine dx_rd C ly_102 dX5_nextOrder_63 (fun x7 => ?_)
          refine dx_icmp_ge C 73 dX5_nextOrder_64 (by decide) ?_ ?_
          · exact dx_end (fun h => h)
          · refine dx_iinc (v := (s47 + (-1 : Int32))) C 2 [(2, .int (s47 + (-1 : Int32))), (0, .ref (z + 101)), (1, .int v4)] dX5_nextOrder_67 rfl rfl (by decide) rfl ?_
            refine dx_goto C 47 dX5_nextOrder_70 (by decide) ?_
            refine dx_mv (lo2 := [(0, .ref (z + 101)), (1, .int v4), (2, .int (s47 + (-1 : Int32)))]) [1, 2, 0] rfl ?_
            exact dx_end (fun h => h)
    · refine dx_iconst (v := (0 : Int32)) C dX5_nextOrder_38 (by decide) ?_
      exact dx_zret2 C hr hlk (by decide) dX5_nextOrder_39 (fun h => h)
  · refine dx_lp (fun s7 => [(0, .ref (z + 101)), (1, .int s7)]) [] (fun s7 => w) (fun s7 => (?_ : DX p l e _ s m _ below meth c G z 5 n _ _ 7 [(0, .ref (z + 101)), (1, .int s7)] [] w _)) 5000000000 t1
    refine dx_iload_n C 1 dX5_nextOrder_7 rfl rfl ?_
    refine dx_if_lt C 34 dX5_nextOrder_8 (by decide) ?_ ?_
    · exact dx_end (fun h => h)
    · refine dx_aload_n C 0 dX5_nextOrder_11 rfl rfl ?_
      refine dgX5_9 C dX5_nextOrder_12 ?_
      refine dx_iload_n C 1 dX5_nextOrder_15 rfl rfl ?_
      refine dx_rd C ly_102 dX5_nextOrder_16 (fun x2 => ?_)
      refine dx_aload_n C 0 dX5_nextOrder_17 rfl rfl ?_
      refine dgX5_9 C dX5_nextOrder_18 ?_
      refine dx_iload_n C 1 dX5_nextOrder_21 rfl rfl ?_
      refine dx_iconst (v := (1 : Int32)) C dX5_nextOrder_22 (by decide) ?_
      refine dx_iadd C dX5_nextOrder_23 ?_
      refine dx_rd C ly_102 dX5_nextOrder_24 (fun x3 => ?_)
      refine dx_icmp_le C 34 dX5_nextOrder_25 (by decide) ?_ ?_
      · exact dx_end (fun h => h)
      · refine dx_iinc (v := (s7 + (-1 : Int32))) C 1 [(1, .int (s7 + (-1 : Int32))), (0, .ref (z + 101))] dX5_nextOrder_28 rfl rfl (by decide) rfl ?_
        refine dx_goto C 7 dX5_nextOrder_31 (by decide) ?_
        refine dx_mv (lo2 := [(0, .ref (z + 101)), (1, .int (s7 + (-1 : Int32)))]) [1, 0] rfl ?_
        exact dx_end (fun h => h)
def f_X5_figuresOfOrder (w : Mem) : Option (Int32) :=
  (lp (S := (Int32 × Int32)) (T := Int32) (fun s4 => (if s4.2 < (w 101 4) then rd 6 (w 102) s4.2 fun x1 => lt ((((s4.1 * (10 : Int32)) + x1) + (1 : Int32))) fun t2 => some (Sum.inl (t2, (s4.2 + (1 : Int32)))) else some (Sum.inr s4.1))) 5000000000 ((0 : Int32), (0 : Int32))).bind fun v3 => some (v3)
set_option maxRecDepth 20000 in
set_option maxHeartbeats 4000000 in
theorem tf_X5_figuresOfOrder {G : GT} {l : Launch} {z n : Nat} (w : Mem) (q : Int32) (hq : f_X5_figuresOfOrder w = some q) : Mt G l z yX5_figuresOfOrder cX5_figuresOfOrder 3 (some .int) { frames := 0, cells := 0, slots := 0, locals := 0 } [.ref (z + 101)] (hp G z w) n (some (.int q)) (hp G z w) n := by
  refine mt_of (by decide +kernel) (Nat.le_of_ble_eq_true rfl) ?_
  intro p e s m below meth c C hr hlk hnm
  refine (?_ : DX p l e _ s m _ below meth c G z 3 n _ (fun v => v = q) 0 [(0, .ref (z + 101))] [] w (f_X5_figuresOfOrder w)) q hq rfl
  unfold f_X5_figuresOfOrder
  refine dx_iconst (v := (0 : Int32)) C dX5_figuresOfOrder_0 (by decide) ?_
  refine dx_istore_n C [(1, .int (0 : Int32)), (0, .ref (z + 101))] dX5_figuresOfOrder_1 rfl (by decide) rfl ?_
  refine dx_iconst (v := (0 : Int32)) C dX5_figuresOfOrder_2 (by decide) ?_
  refine dx_istore_n C [(2, .int (0 : Int32)), (1, .int (0 : Int32)), (0, .ref (z + 101))] dX5_figuresOfOrder_3 rfl (by decide) rfl ?_
  refine dx_mv (lo2 := [(0, .ref (z + 101)), (1, .int (0 : Int32)), (2, .int (0 : Int32))]) [2, 1, 0] rfl ?_
  refine dx_bind 32 (fun v3 => [(1, .int v3)]) (fun v3 => []) (fun v3 => w) (fun v3 => (?_ : DX p l e _ s m _ below meth c G z 3 n _ _ 32 [(1, .int v3)] [] w _)) ?_
  · refine dx_iload_n C 0 dX5_figuresOfOrder_32 rfl rfl ?_
    exact dx_iret1 C hr hlk dX5_figuresOfOrder_33 (fun h => h)
  · refine dx_lp (fun s4 => [(0, .ref (z + 101)), (1, .int s4.1), (2, .int s4.2)]) [] (fun s4 => w) (fun s4 => (?_ : DX p l e _ s m _ below meth c G z 3 n _ _ 4 [(0, .ref (z + 101)), (1, .int s4.1), (2, .int s4.2)] [] w _)) 5000000000 ((0 : Int32), (0 : Int32))
    refine dx_iload_n C 2 dX5_figuresOfOrder_4 rfl rfl ?_
    refine dx_aload_n C 0 dX5_figuresOfOrder_5 rfl rfl ?_
    refine dgX5_24 C dX5_figuresOfOrder_6 ?_
    refine dx_icmp_ge C 32 dX5_figuresOfOrder_9 (by decide) ?_ ?_
    · refine dx_mv (lo2 := [(1, .int s4.1)]) [1] rfl ?_
      exact dx_end (fun h => h)
    · refine dx_iload_n C 1 dX5_figuresOfOrder_12 rfl rfl ?_
      refine dx_bipush (v := (10 : Int32)) C dX5_figuresOfOrder_13 (by decide) ?_
      refine dx_imul C dX5_figuresOfOrder_15 ?_
      refine dx_aload_n C 0 dX5_figuresOfOrder_16 rfl rfl ?_
      refine dgX5_9 C dX5_figuresOfOrder_17 ?_
      refine dx_iload_n C 2 dX5_figuresOfOrder_20 rfl rfl ?_
      refine dx_rd C ly_102 dX5_figuresOfOrder_21 (fun x1 => ?_)
      refine dx_iadd C dX5_figuresOfOrder_22 ?_
      refine dx_iconst (v := (1 : Int32)) C dX5_figuresOfOrder_23 (by decide) ?_
      refine dx_iadd C dX5_figuresOfOrder_24 ?_
      refine dx_lt (fun t2 => ?_)
      refine dx_istore_n C [(1, .int t2), (0, .ref (z + 101)), (2, .int s4.2)] dX5_figuresOfOrder_25 rfl (by decide) rfl ?_
      refine dx_iinc (v := (s4.2 + (1 : Int32))) C 2 [(2, .int (s4.2 + (1 : Int32))), (1, .int t2), (0, .ref (z + 101))] dX5_figuresOfOrder_26 rfl rfl (by decide) rfl ?_
      refine dx_goto C 4 dX5_figuresOfOrder_29 (by decide) ?_
      refine dx_mv (lo2 := [(0, .ref (z + 101)), (1, .int t2), (2, .int (s4.2 + (1 : Int32)))]) [2, 1, 0] rfl ?_
      exact dx_end (fun h => h)
def f_X5_tryOrders (w : Mem) : Option (Mem) :=
  pw 101 5 (-1 : Int32) w fun w1 => pw 101 6 (0 : Int32) w1 fun w2 => (lp (S := (Int32 × Int32 × Mem)) (T := Mem) (fun s14 => (if s14.2.1 < (720 : Int32) then (if s14.1 = 0 then some (Sum.inr s14.2.2) else (f_X5_payOfOrder s14.2.2).bind fun r3 => ((if (s14.2.2 101 5) < r3 then pw 101 5 r3 s14.2.2 fun w6 => (f_X5_figuresOfOrder w6).bind fun r7 => pw 101 6 r7 w6 fun w8 => some (w8) else some (s14.2.2)) : Option Mem).bind fun v4 => (f_X5_nextOrder v4).bind fun q5 => some (Sum.inl (q5.1, (s14.2.1 + (1 : Int32)), q5.2))) else some (Sum.inr s14.2.2))) 5000000000 ((1 : Int32), (0 : Int32), w2)).bind fun v9 => some (v9)
set_option maxRecDepth 20000 in
set_option maxHeartbeats 4000000 in
theorem tf_X5_tryOrders {G : GT} {l : Launch} {z n : Nat} (w : Mem) (q : Mem) (hq : f_X5_tryOrders w = some q) : Mt G l z yX5_tryOrders cX5_tryOrders 4 none { frames := 2, cells := 0, slots := 0, locals := 47 } [.ref (z + 101)] (hp G z w) n none (hp G z q) n := by
  refine mt_of (by decide +kernel) (Nat.le_of_ble_eq_true rfl) ?_
  intro p e s m below meth c C hr hlk hnm
  refine (?_ : DX p l e _ s m _ below meth c G z 4 n _ (fun v => v = q) 0 [(0, .ref (z + 101))] [] w (f_X5_tryOrders w)) q hq rfl
  unfold f_X5_tryOrders
  refine dx_aload_n C 0 dX5_tryOrders_0 rfl rfl ?_
  refine dx_iconst (v := (-1 : Int32)) C dX5_tryOrders_1 (by decide) ?_
  refine dpX5_28 C dX5_tryOrders_2 (fun w1 => ?_)
  refine dx_aload_n C 0 dX5_tryOrders_5 rfl rfl ?_
  refine dx_iconst (v := (0 : Int32)) C dX5_tryOrders_6 (by decide) ?_
  refine dpX5_31 C dX5_tryOrders_7 (fun w2 => ?_)
  refine dx_iconst (v := (1 : Int32)) C dX5_tryOrders_10 (by decide) ?_
  refine dx_istore_n C [(1, .int (1 : Int32)), (0, .ref (z + 101))] dX5_tryOrders_11 rfl (by decide) rfl ?_
  refine dx_iconst (v := (0 : Int32)) C dX5_tryOrders_12 (by decide) ?_
  refine dx_istore_n C [(2, .int (0 : Int32)), (1, .int (1 : Int32)), (0, .ref (z + 101))] dX5_tryOrders_13 rfl (by decide) rfl ?_
  refine dx_mv (lo2 := [(0, .ref (z + 101)), (1, .int (1 : Int32)), (2, .int (0 : Int32))]) [2, 1, 0] rfl ?_
  refine dx_bind 62 (fun v9 => []) (fun v9 => []) (fun v9 => v9) (fun v9 => (?_ : DX p l e _ s m _ below meth c G z 4 n _ _ 62 [] [] v9 _)) ?_
  · exact dx_vret C hr hlk dX5_tryOrders_62 (fun h => h)
  · refine dx_lp (fun s14 => [(0, .ref (z + 101)), (1, .int s14.1), (2, .int s14.2.1)]) [] (fun s14 => s14.2.2) (fun s14 => (?_ : DX p l e _ s m _ below meth c G z 4 n _ _ 14 [(0, .ref (z + 101)), (1, .int s14.1), (2, .int s14.2.1)] [] s14.2.2 _)) 5000000000 ((1 : Int32), (0 : Int32), w2)
    refine dx_iload_n C 2 dX5_tryOrders_14 rfl rfl ?_
    refine dx_sipush (v := (720 : Int32)) C dX5_tryOrders_15 (by decide) ?_
    refine dx_icmp_ge C 62 dX5_tryOrders_18 (by decide) ?_ ?_
    · refine dx_mv (lo2 := []) [] rfl ?_
      exact dx_end (fun h => h)
    · refine dx_iload_n C 1 dX5_tryOrders_21 rfl rfl ?_
      refine dx_if_eq C 62 dX5_tryOrders_22 (by decide) ?_ ?_
      · refine dx_mv (lo2 := []) [] rfl ?_
        exact dx_end (fun h => h)
      · refine dx_aload_n C 0 dX5_tryOrders_25 rfl rfl ?_
        refine dx_callV1 C cl_X5_payOfOrder kmX5_67 (ci := 4) (b := 101) (As := []) (rest := []) rfl (hp_of ly_101) (tf_X5_payOfOrder s14.2.2) rfl rfl (Nat.le_of_ble_eq_true rfl) ⟨Nat.le_of_ble_eq_true rfl, Nat.le_of_ble_eq_true rfl⟩ dX5_tryOrders_26 (fun r3 => ?_)
        refine dx_istore_n C [(3, .int r3), (0, .ref (z + 101)), (1, .int s14.1), (2, .int s14.2.1)] dX5_tryOrders_29 rfl (by decide) rfl ?_
        refine dx_iload_n C 0 dX5_tryOrders_30 rfl rfl ?_
        refine dx_aload_n C 1 dX5_tryOrders_31 rfl rfl ?_
        refine dgX5_28 C dX5_tryOrders_32 ?_
        refine dx_bind 51 (fun v4 => [(0, .ref (z + 101)), (2, .int s14.2.1)]) (fun v4 => []) (fun v4 => v4) (fun v4 => (?_ : DX p l e _ s m _ below meth c G z 4 n _ _ 51 [(0, .ref (z + 101)), (2, .int s14.2.1)] [] v4 _)) ?_
        · refine dx_aload_n C 0 dX5_tryOrders_51 rfl rfl ?_
          refine dx_callV2 C cl_X5_nextOrder kmX5_74 (ci := 4) (b := 101) (As := []) (rest := []) rfl (hp_of ly_101) (tf_X5_nextOrder v4) rfl rfl (Nat.le_of_ble_eq_true rfl) ⟨Nat.le_of_ble_eq_true rfl, Nat.le_of_ble_eq_true rfl⟩ dX5_tryOrders_52 (fun q5 => ?_)
          refine dx_istore_n C [(1, .int q5.1), (0, .ref (z + 101)), (2, .int s14.2.1)] dX5_tryOrders_55 rfl (by decide) rfl ?_
          refine dx_iinc (v := (s14.2.1 + (1 : Int32))) C 2 [(2, .int (s14.2.1 + (1 : Int32))), (1, .int q5.1), (0, .ref (z + 101))] dX5_tryOrders_56 rfl rfl (by decide) rfl ?_
          refine dx_goto C 14 dX5_tryOrders_59 (by decide) ?_
          refine dx_mv (lo2 := [(0, .ref (z + 101)), (1, .int q5.1), (2, .int (s14.2.1 + (1 : Int32)))]) [2, 1, 0] rfl ?_
          exact dx_end (fun h => h)
        · refine dx_icmp_le C 51 dX5_tryOrders_35 (by decide) ?_ ?_
          · refine dx_mv (lo2 := [(0, .ref (z + 101)), (2, .int s14.2.1)]) [1, 3] rfl ?_
            exact dx_end (fun h => h)
          · refine dx_aload_n C 1 dX5_tryOrders_38 rfl rfl ?_
            refine dx_iload_n C 0 dX5_tryOrders_39 rfl rfl ?_
            refine dpX5_28 C dX5_tryOrders_40 (fun w6 => ?_)
            refine dx_aload_n C 1 dX5_tryOrders_43 rfl rfl ?_
            refine dx_aload_n C 1 dX5_tryOrders_44 rfl rfl ?_
            refine dx_callV1 C cl_X5_figuresOfOrder kmX5_71 (ci := 4) (b := 101) (As := []) (rest := [.ref (z + 101)]) rfl (hp_of ly_101) (tf_X5_figuresOfOrder w6) rfl rfl (Nat.le_of_ble_eq_true rfl) ⟨Nat.le_of_ble_eq_true rfl, Nat.le_of_ble_eq_true rfl⟩ dX5_tryOrders_45 (fun r7 => ?_)
            refine dpX5_31 C dX5_tryOrders_48 (fun w8 => ?_)
            refine dx_mv (lo2 := [(0, .ref (z + 101)), (2, .int s14.2.1)]) [1, 3] rfl ?_
            exact dx_end (fun h => h)
def f_X9_queue (a1 : Int32) (w : Mem) : Option (Int32 × Mem) :=
  (if a1 < 0 then some (((-1000000002 : Int32), w)) else (if (1 : Int32) < a1 then some (((-1000000002 : Int32), w)) else (if (w 3 4) = (-1 : Int32) then (f_X5_fill (brp (w 0 8)) w).bind fun w1 => (f_X5_tryOrders w1).bind fun w2 => (if a1 = 0 then some (((w2 101 5), w2)) else some (((w2 101 6), w2))) else some (((-1000000003 : Int32), w)))))
set_option maxRecDepth 20000 in
set_option maxHeartbeats 4000000 in
theorem tf_X9_queue {G : GT} {l : Launch} {z n : Nat} (a1 : Int32) (w : Mem) (q : Int32 × Mem) (hq : f_X9_queue a1 w = some q) : Mt G l z yX9_queue cX9_queue 2 (some .int) { frames := 5, cells := 0, slots := 0, locals := 115 } [.ref (z + 0), .int a1] (hp G z w) n (some (.int q.1)) (hp G z q.2) n := by
  refine mt_of (by decide +kernel) (Nat.le_of_ble_eq_true rfl) ?_
  intro p e s m below meth c C hr hlk hnm
  refine (?_ : DX p l e _ s m _ below meth c G z 2 n _ (fun v => v = q) 0 [(0, .ref (z + 0)), (1, .int a1)] [] w (f_X9_queue a1 w)) q hq rfl
  unfold f_X9_queue
  refine dx_iload_n C 1 dX9_queue_0 rfl rfl ?_
  refine dx_if_lt C 9 dX9_queue_1 (by decide) ?_ ?_
  · refine dx_ldc C kcX9_80 dX9_queue_9 ?_
    exact dx_iret2 C hr hlk dX9_queue_11 (fun h => h)
  · refine dx_iload_n C 1 dX9_queue_4 rfl rfl ?_
    refine dx_iconst (v := (1 : Int32)) C dX9_queue_5 (by decide) ?_
    refine dx_icmp_le C 12 dX9_queue_6 (by decide) ?_ ?_
    · refine dx_aload_n C 0 dX9_queue_12 rfl rfl ?_
      refine dgX9_19 C dX9_queue_13 ?_
      refine dgX9_158 C (Or.inl rfl) dX9_queue_16 ?_
      refine dx_iconst (v := (-1 : Int32)) C dX9_queue_19 (by decide) ?_
      refine dx_icmp_eq C 26 dX9_queue_20 (by decide) ?_ ?_
      · refine dx_aload_n C 0 dX9_queue_26 rfl rfl ?_
        refine dgX9_46 C dX9_queue_27 ?_
        refine dx_aload_n C 0 dX9_queue_30 rfl rfl ?_
        refine dgX9_65 C dX9_queue_31 ?_
        refine dx_aload_n C 0 dX9_queue_34 rfl rfl ?_
        refine dgX9_19 C dX9_queue_35 ?_
        refine dx_aload_n C 0 dX9_queue_38 rfl rfl ?_
        refine dgX9_39 C dX9_queue_39 ?_
        refine dx_callV3 C cl_X5_fill kmX9_296 (ci := 4) (b := 101) (As := [.ref (z + (brp (w 0 8))), .ref (z + 3), .ref (z + 99)]) (rest := []) rfl (hp_of ly_101) (tf_X5_fill (brp (w 0 8)) (brp_ok (w 0 8)) w) rfl rfl (Nat.le_of_ble_eq_true rfl) ⟨Nat.le_of_ble_eq_true rfl, Nat.le_of_ble_eq_true rfl⟩ dX9_queue_42 (fun w1 => ?_)
        refine dx_aload_n C 0 dX9_queue_45 rfl rfl ?_
        refine dgX9_46 C dX9_queue_46 ?_
        refine dx_callV3 C cl_X5_tryOrders kmX9_300 (ci := 4) (b := 101) (As := []) (rest := []) rfl (hp_of ly_101) (tf_X5_tryOrders w1) rfl rfl (Nat.le_of_ble_eq_true rfl) ⟨Nat.le_of_ble_eq_true rfl, Nat.le_of_ble_eq_true rfl⟩ dX9_queue_49 (fun w2 => ?_)
        refine dx_iload_n C 1 dX9_queue_52 rfl rfl ?_
        refine dx_if_ne C 66 dX9_queue_53 (by decide) ?_ ?_
        · refine dx_aload_n C 0 dX9_queue_66 rfl rfl ?_
          refine dgX9_46 C dX9_queue_67 ?_
          refine dgX9_306 C dX9_queue_70 ?_
          exact dx_iret2 C hr hlk dX9_queue_73 (fun h => h)
        · refine dx_aload_n C 0 dX9_queue_56 rfl rfl ?_
          refine dgX9_46 C dX9_queue_57 ?_
          refine dgX9_303 C dX9_queue_60 ?_
          refine dx_goto C 73 dX9_queue_63 (by decide) ?_
          exact dx_iret2 C hr hlk dX9_queue_73 (fun h => h)
      · refine dx_ldc C kcX9_221 dX9_queue_23 ?_
        exact dx_iret2 C hr hlk dX9_queue_25 (fun h => h)
    · refine dx_ldc C kcX9_80 dX9_queue_9 ?_
      exact dx_iret2 C hr hlk dX9_queue_11 (fun h => h)
def f_X9_dry (a1 : Int32) (a2 : Int32) : Option (Int32) :=
  (if a1 < 0 then some ((-1000000002 : Int32)) else (if (60 : Int32) < a1 then some ((-1000000002 : Int32)) else (if a2 < 0 then some ((-1000000002 : Int32)) else (if (100 : Int32) < a2 then some ((-1000000002 : Int32)) else (lp (S := (Int64 × Int32)) (T := Int64) (fun s30 => (if s30.2 < a1 then ltl (((s30.1 * (a2).toInt64) / (100 : Int64))) fun t1 => some (Sum.inl (t1, (s30.2 + (1 : Int32)))) else some (Sum.inr s30.1))) 5000000000 ((1000000000 : Int64), (0 : Int32))).bind fun v2 => some ((v2).toInt32)))))
set_option maxRecDepth 20000 in
set_option maxHeartbeats 4000000 in
theorem tf_X9_dry {G : GT} {l : Launch} {z n : Nat} (a1 : Int32) (a2 : Int32) (w : Mem) (q : Int32) (hq : f_X9_dry a1 a2 = some q) : Mt G l z yX9_dry cX9_dry 6 (some .int) { frames := 0, cells := 0, slots := 0, locals := 0 } [.ref (z + 0), .int a1, .int a2] (hp G z w) n (some (.int q)) (hp G z w) n := by
  refine mt_of (by decide +kernel) (Nat.le_of_ble_eq_true rfl) ?_
  intro p e s m below meth c C hr hlk hnm
  refine (?_ : DX p l e _ s m _ below meth c G z 6 n _ (fun v => v = q) 0 [(0, .ref (z + 0)), (1, .int a1), (2, .int a2)] [] w (f_X9_dry a1 a2)) q hq rfl
  unfold f_X9_dry
  refine dx_iload_n C 1 dX9_dry_0 rfl rfl ?_
  refine dx_if_lt C 20 dX9_dry_1 (by decide) ?_ ?_
  · refine dx_ldc C kcX9_80 dX9_dry_20 ?_
    exact dx_iret1 C hr hlk dX9_dry_22 (fun h => h)
  · refine dx_iload_n C 1 dX9_dry_4 rfl rfl ?_
    refine dx_bipush (v := (60 : Int32)) C dX9_dry_5 (by decide) ?_
    refine dx_icmp_gt C 20 dX9_dry_7 (by decide) ?_ ?_
    · refine dx_ldc C kcX9_80 dX9_dry_20 ?_
      exact dx_iret1 C hr hlk dX9_dry_22 (fun h => h)
    · refine dx_iload_n C 2 dX9_dry_10 rfl rfl ?_
      refine dx_if_lt C 20 dX9_dry_11 (by decide) ?_ ?_
      · refine dx_ldc C kcX9_80 dX9_dry_20 ?_
        exact dx_iret1 C hr hlk dX9_dry_22 (fun h => h)
      · refine dx_iload_n C 2 dX9_dry_14 rfl rfl ?_
        refine dx_bipush (v := (100 : Int32)) C dX9_dry_15 (by decide) ?_
        refine dx_icmp_le C 23 dX9_dry_17 (by decide) ?_ ?_
        · refine dx_ldc2 C kcX9_309 dX9_dry_23 ?_
          refine dx_lstore_n C [(3, .long (1000000000 : Int64)), (0, .ref (z + 0)), (1, .int a1), (2, .int a2)] dX9_dry_26 rfl (by decide) rfl ?_
          refine dx_iconst (v := (0 : Int32)) C dX9_dry_27 (by decide) ?_
          refine dx_istore C [(5, .int (0 : Int32)), (3, .long (1000000000 : Int64)), (0, .ref (z + 0)), (1, .int a1), (2, .int a2)] dX9_dry_28 (by decide) rfl ?_
          refine dx_mv (lo2 := [(1, .int a1), (2, .int a2), (3, .long (1000000000 : Int64)), (5, .int (0 : Int32))]) [3, 4, 1, 0] rfl ?_
          refine dx_bind 51 (fun v2 => [(3, .long v2)]) (fun v2 => []) (fun v2 => w) (fun v2 => (?_ : DX p l e _ s m _ below meth c G z 6 n _ _ 51 [(3, .long v2)] [] w _)) ?_
          · refine dx_lload_n C 0 dX9_dry_51 rfl rfl ?_
            refine dx_l2i C dX9_dry_52 ?_
            exact dx_iret1 C hr hlk dX9_dry_53 (fun h => h)
          · refine dx_lp (fun s30 => [(1, .int a1), (2, .int a2), (3, .long s30.1), (5, .int s30.2)]) [] (fun s30 => w) (fun s30 => (?_ : DX p l e _ s m _ below meth c G z 6 n _ _ 30 [(1, .int a1), (2, .int a2), (3, .long s30.1), (5, .int s30.2)] [] w _)) 5000000000 ((1000000000 : Int64), (0 : Int32))
            refine dx_iload C 3 dX9_dry_30 rfl ?_
            refine dx_iload_n C 0 dX9_dry_32 rfl rfl ?_
            refine dx_icmp_ge C 51 dX9_dry_33 (by decide) ?_ ?_
            · refine dx_mv (lo2 := [(3, .long s30.1)]) [2] rfl ?_
              exact dx_end (fun h => h)
            · refine dx_lload_n C 2 dX9_dry_36 rfl rfl ?_
              refine dx_iload_n C 1 dX9_dry_37 rfl rfl ?_
              refine dx_i2l C dX9_dry_38 ?_
              refine dx_lmul C dX9_dry_39 ?_
              refine dx_ldc2 C kcX9_311 dX9_dry_40 ?_
              refine dx_ldiv C dX9_dry_43 (by decide) ?_
              refine dx_ltl (fun t1 => ?_)
              refine dx_lstore_n C [(3, .long t1), (1, .int a1), (2, .int a2), (5, .int s30.2)] dX9_dry_44 rfl (by decide) rfl ?_
              refine dx_iinc (v := (s30.2 + (1 : Int32))) C 3 [(5, .int (s30.2 + (1 : Int32))), (3, .long t1), (1, .int a1), (2, .int a2)] dX9_dry_45 rfl rfl (by decide) rfl ?_
              refine dx_goto C 30 dX9_dry_48 (by decide) ?_
              refine dx_mv (lo2 := [(1, .int a1), (2, .int a2), (3, .long t1), (5, .int (s30.2 + (1 : Int32)))]) [2, 3, 1, 0] rfl ?_
              exact dx_end (fun h => h)
        · refine dx_ldc C kcX9_80 dX9_dry_20 ?_
          exact dx_iret1 C hr hlk dX9_dry_22 (fun h => h)
def f_X2_add_106 (a1 : Int32) (a2 : Int32) (w : Mem) : Option (Int32 × Mem) :=
  (if (w 106 2) < (6 : Int32) then (if (w 106 2) < (6 : Int32) then wr 6 107 (w 106 2) a1 w fun w1 => wr 6 108 (w1 106 2) a2 w1 fun w2 => pw 106 2 ((w2 106 2) + (1 : Int32)) w2 fun w3 => some (((1 : Int32), w3)) else some (((0 : Int32), w))) else some (((0 : Int32), w)))
set_option maxRecDepth 20000 in
set_option maxHeartbeats 4000000 in
theorem tf_X2_add_106 {G : GT} {l : Launch} {z n : Nat} (a1 : Int32) (a2 : Int32) (w : Mem) (q : Int32 × Mem) (hq : f_X2_add_106 a1 a2 w = some q) : Mt G l z yX2_add cX2_add 3 (some .boolean) { frames := 0, cells := 0, slots := 0, locals := 0 } [.ref (z + 106), .int a1, .int a2] (hp G z w) n (some (.int q.1)) (hp G z q.2) n := by
  refine mt_of (by decide +kernel) (Nat.le_of_ble_eq_true rfl) ?_
  intro p e s m below meth c C hr hlk hnm
  refine (?_ : DX p l e _ s m _ below meth c G z 3 n _ (fun v => v = q) 0 [(0, .ref (z + 106)), (1, .int a1), (2, .int a2)] [] w (f_X2_add_106 a1 a2 w)) q hq rfl
  unfold f_X2_add_106
  refine dx_aload_n C 0 dX2_add_0 rfl rfl ?_
  refine dgX2_9_106 C dX2_add_1 ?_
  refine dx_aload_n C 0 dX2_add_4 rfl rfl ?_
  refine dgX2_21_106 C dX2_add_5 ?_
  refine dx_alen (v := (6 : Int32)) C 0 ly_107 rfl rfl rfl dX2_add_8 ?_
  refine dx_icmp_ge C 24 dX2_add_9 (by decide) ?_ ?_
  · refine dx_iconst (v := (0 : Int32)) C dX2_add_24 (by decide) ?_
    exact dx_zret2 C hr hlk (by decide) dX2_add_25 (fun h => h)
  · refine dx_aload_n C 0 dX2_add_12 rfl rfl ?_
    refine dgX2_9_106 C dX2_add_13 ?_
    refine dx_aload_n C 0 dX2_add_16 rfl rfl ?_
    refine dgX2_25_106 C dX2_add_17 ?_
    refine dx_alen (v := (6 : Int32)) C 0 ly_108 rfl rfl rfl dX2_add_20 ?_
    refine dx_icmp_lt C 26 dX2_add_21 (by decide) ?_ ?_
    · refine dx_aload_n C 0 dX2_add_26 rfl rfl ?_
      refine dgX2_21_106 C dX2_add_27 ?_
      refine dx_aload_n C 0 dX2_add_30 rfl rfl ?_
      refine dgX2_9_106 C dX2_add_31 ?_
      refine dx_iload_n C 1 dX2_add_34 rfl rfl ?_
      refine dx_wr C ly_107 dX2_add_35 (fun w1 => ?_)
      refine dx_aload_n C 0 dX2_add_36 rfl rfl ?_
      refine dgX2_25_106 C dX2_add_37 ?_
      refine dx_aload_n C 0 dX2_add_40 rfl rfl ?_
      refine dgX2_9_106 C dX2_add_41 ?_
      refine dx_iload_n C 2 dX2_add_44 rfl rfl ?_
      refine dx_wr C ly_108 dX2_add_45 (fun w2 => ?_)
      refine dx_aload_n C 0 dX2_add_46 rfl rfl ?_
      refine dx_dup C dX2_add_47 rfl ?_
      refine dgX2_9_106 C dX2_add_48 ?_
      refine dx_iconst (v := (1 : Int32)) C dX2_add_51 (by decide) ?_
      refine dx_iadd C dX2_add_52 ?_
      refine dpX2_9_106 C dX2_add_53 (fun w3 => ?_)
      refine dx_iconst (v := (1 : Int32)) C dX2_add_56 (by decide) ?_
      exact dx_zret2 C hr hlk (by decide) dX2_add_57 (fun h => h)
    · refine dx_iconst (v := (0 : Int32)) C dX2_add_24 (by decide) ?_
      exact dx_zret2 C hr hlk (by decide) dX2_add_25 (fun h => h)
def f_X9_stayed (a1 : Int32) (a2 : Int32) (w : Mem) : Option (Int32 × Mem) :=
  (f_X1_hasTraveller (brp (w 0 8)) a1 w).bind fun r1 => (if r1 = 0 then some (((-1000000001 : Int32), w)) else (if a2 < 0 then some (((-1000000002 : Int32), w)) else (if (100 : Int32) < a2 then some (((-1000000002 : Int32), w)) else (f_X2_add_106 a1 a2 w).bind fun q2 => (if q2.1 = 0 then some (((-1000000004 : Int32), q2.2)) else some (((q2.2 106 2), q2.2))))))
set_option maxRecDepth 20000 in
set_option maxHeartbeats 4000000 in
theorem tf_X9_stayed {G : GT} {l : Launch} {z n : Nat} (a1 : Int32) (a2 : Int32) (w : Mem) (q : Int32 × Mem) (hq : f_X9_stayed a1 a2 w = some q) : Mt G l z yX9_stayed cX9_stayed 3 (some .int) { frames := 1, cells := 0, slots := 0, locals := 22 } [.ref (z + 0), .int a1, .int a2] (hp G z w) n (some (.int q.1)) (hp G z q.2) n := by
  refine mt_of (by decide +kernel) (Nat.le_of_ble_eq_true rfl) ?_
  intro p e s m below meth c C hr hlk hnm
  refine (?_ : DX p l e _ s m _ below meth c G z 3 n _ (fun v => v = q) 0 [(0, .ref (z + 0)), (1, .int a1), (2, .int a2)] [] w (f_X9_stayed a1 a2 w)) q hq rfl
  unfold f_X9_stayed
  refine dx_aload_n C 0 dX9_stayed_0 rfl rfl ?_
  refine dgX9_65 C dX9_stayed_1 ?_
  refine dx_iload_n C 1 dX9_stayed_4 rfl rfl ?_
  refine dx_callV1 C cl_X1_hasTraveller kmX9_193 (ci := 0) (b := (brp (w 0 8))) (As := [.int a1]) (rest := []) rfl (hp_of (lyBr0 (brp_ok (w 0 8)))) (tf_X1_hasTraveller (brp (w 0 8)) (brp_ok (w 0 8)) a1 w) rfl rfl (Nat.le_of_ble_eq_true rfl) ⟨Nat.le_of_ble_eq_true rfl, Nat.le_of_ble_eq_true rfl⟩ dX9_stayed_5 (fun r1 => ?_)
  refine dx_if_ne C 14 dX9_stayed_8 (by decide) ?_ ?_
  · refine dx_iload_n C 2 dX9_stayed_14 rfl rfl ?_
    refine dx_if_lt C 24 dX9_stayed_15 (by decide) ?_ ?_
    · refine dx_ldc C kcX9_80 dX9_stayed_24 ?_
      exact dx_iret2 C hr hlk dX9_stayed_26 (fun h => h)
    · refine dx_iload_n C 2 dX9_stayed_18 rfl rfl ?_
      refine dx_bipush (v := (100 : Int32)) C dX9_stayed_19 (by decide) ?_
      refine dx_icmp_le C 27 dX9_stayed_21 (by decide) ?_ ?_
      · refine dx_aload_n C 0 dX9_stayed_27 rfl rfl ?_
        refine dgX9_55 C dX9_stayed_28 ?_
        refine dx_iload_n C 1 dX9_stayed_31 rfl rfl ?_
        refine dx_iload_n C 2 dX9_stayed_32 rfl rfl ?_
        refine dx_callV2 C cl_X2_add kmX9_313 (ci := 1) (b := 106) (As := [.int a1, .int a2]) (rest := []) rfl (hp_of ly_106) (tf_X2_add_106 a1 a2 w) rfl rfl (Nat.le_of_ble_eq_true rfl) ⟨Nat.le_of_ble_eq_true rfl, Nat.le_of_ble_eq_true rfl⟩ dX9_stayed_33 (fun q2 => ?_)
        refine dx_if_eq C 49 dX9_stayed_36 (by decide) ?_ ?_
        · refine dx_ldc C kcX9_88 dX9_stayed_49 ?_
          exact dx_iret2 C hr hlk dX9_stayed_51 (fun h => h)
        · refine dx_aload_n C 0 dX9_stayed_39 rfl rfl ?_
          refine dgX9_55 C dX9_stayed_40 ?_
          refine dgX9_141_106 C dX9_stayed_43 ?_
          refine dx_goto C 51 dX9_stayed_46 (by decide) ?_
          exact dx_iret2 C hr hlk dX9_stayed_51 (fun h => h)
      · refine dx_ldc C kcX9_80 dX9_stayed_24 ?_
        exact dx_iret2 C hr hlk dX9_stayed_26 (fun h => h)
  · refine dx_ldc C kcX9_179 dX9_stayed_11 ?_
    exact dx_iret2 C hr hlk dX9_stayed_13 (fun h => h)
def f_X2_fits_106 (b1 : Nat) (a2 : Int32) (w : Mem) : Option (Int32) :=
  lp (S := Int32) (T := Int32) (fun s2 => (if s2 < (w 106 2) then rd 6 (w 107) s2 fun x1 => (f_X1_stayOf b1 x1 a2 w).bind fun r2 => rd 6 (w 108) s2 fun x3 => (if r2 = x3 then some (Sum.inl (s2 + (1 : Int32))) else some (Sum.inr ((0 : Int32)))) else some (Sum.inr ((1 : Int32))))) 5000000000 (0 : Int32)
set_option maxRecDepth 20000 in
set_option maxHeartbeats 4000000 in
theorem tf_X2_fits_106 {G : GT} {l : Launch} {z n : Nat} (b1 : Nat) (hb1 : BrO b1) (a2 : Int32) (w : Mem) (q : Int32) (hq : f_X2_fits_106 b1 a2 w = some q) : Mt G l z yX2_fits cX2_fits 4 (some .boolean) { frames := 2, cells := 0, slots := 0, locals := 43 } [.ref (z + 106), .ref (z + b1), .int a2] (hp G z w) n (some (.int q)) (hp G z w) n := by
  refine mt_of (by decide +kernel) (Nat.le_of_ble_eq_true rfl) ?_
  intro p e s m below meth c C hr hlk hnm
  refine (?_ : DX p l e _ s m _ below meth c G z 4 n _ (fun v => v = q) 0 [(0, .ref (z + 106)), (1, .ref (z + b1)), (2, .int a2)] [] w (f_X2_fits_106 b1 a2 w)) q hq rfl
  unfold f_X2_fits_106
  refine dx_iconst (v := (0 : Int32)) C dX2_fits_0 (by decide) ?_
  refine dx_istore_n C [(3, .int (0 : Int32)), (0, .ref (z + 106)), (1, .ref (z + b1)), (2, .int a2)] dX2_fits_1 rfl (by decide) rfl ?_
  refine dx_mv (lo2 := [(0, .ref (z + 106)), (1, .ref (z + b1)), (2, .int a2), (3, .int (0 : Int32))]) [1, 2, 3, 0] rfl ?_
  refine dx_lp (fun s2 => [(0, .ref (z + 106)), (1, .ref (z + b1)), (2, .int a2), (3, .int s2)]) [] (fun s2 => w) (fun s2 => (?_ : DX p l e _ s m _ below meth c G z 4 n _ _ 2 [(0, .ref (z + 106)), (1, .ref (z + b1)), (2, .int a2), (3, .int s2)] [] w _)) 5000000000 (0 : Int32)
  refine dx_iload_n C 3 dX2_fits_2 rfl rfl ?_
  refine dx_aload_n C 0 dX2_fits_3 rfl rfl ?_
  refine dgX2_9_106 C dX2_fits_4 ?_
  refine dx_icmp_ge C 38 dX2_fits_7 (by decide) ?_ ?_
  · refine dx_iconst (v := (1 : Int32)) C dX2_fits_38 (by decide) ?_
    exact dx_zret1 C hr hlk (by decide) dX2_fits_39 (fun h => h)
  · refine dx_aload_n C 1 dX2_fits_10 rfl rfl ?_
    refine dx_aload_n C 0 dX2_fits_11 rfl rfl ?_
    refine dgX2_21_106 C dX2_fits_12 ?_
    refine dx_iload_n C 3 dX2_fits_15 rfl rfl ?_
    refine dx_rd C ly_107 dX2_fits_16 (fun x1 => ?_)
    refine dx_iload_n C 2 dX2_fits_17 rfl rfl ?_
    refine dx_callV1 C cl_X1_stayOf kmX2_37 (ci := 0) (b := b1) (As := [.int x1, .int a2]) (rest := []) rfl (hp_of (lyBr0 hb1)) (tf_X1_stayOf b1 hb1 x1 a2 w) rfl rfl (Nat.le_of_ble_eq_true rfl) ⟨Nat.le_of_ble_eq_true rfl, Nat.le_of_ble_eq_true rfl⟩ dX2_fits_18 (fun r2 => ?_)
    refine dx_aload_n C 0 dX2_fits_21 rfl rfl ?_
    refine dgX2_25_106 C dX2_fits_22 ?_
    refine dx_iload_n C 3 dX2_fits_25 rfl rfl ?_
    refine dx_rd C ly_108 dX2_fits_26 (fun x3 => ?_)
    refine dx_icmp_eq C 32 dX2_fits_27 (by decide) ?_ ?_
    · refine dx_iinc (v := (s2 + (1 : Int32))) C 3 [(3, .int (s2 + (1 : Int32))), (0, .ref (z + 106)), (1, .ref (z + b1)), (2, .int a2)] dX2_fits_32 rfl rfl (by decide) rfl ?_
      refine dx_goto C 2 dX2_fits_35 (by decide) ?_
      refine dx_mv (lo2 := [(0, .ref (z + 106)), (1, .ref (z + b1)), (2, .int a2), (3, .int (s2 + (1 : Int32)))]) [1, 2, 3, 0] rfl ?_
      exact dx_end (fun h => h)
    · refine dx_iconst (v := (0 : Int32)) C dX2_fits_30 (by decide) ?_
      exact dx_zret1 C hr hlk (by decide) dX2_fits_31 (fun h => h)
def f_X2_fitting_106 (b1 : Nat) (w : Mem) : Option (Int32) :=
  (lp (S := (Int32 × Int32)) (T := Int32) (fun s4 => (if s4.2 < (w b1 2) then (f_X2_fits_106 b1 s4.2 w).bind fun r1 => ((if r1 = 0 then some (s4.1) else lt ((s4.1 ||| ((1 : Int32) <<< (s4.2 &&& 31)))) fun t3 => some (t3)) : Option Int32).bind fun v2 => some (Sum.inl (v2, (s4.2 + (1 : Int32)))) else some (Sum.inr s4.1))) 5000000000 ((0 : Int32), (0 : Int32))).bind fun v4 => some (v4)
set_option maxRecDepth 20000 in
set_option maxHeartbeats 4000000 in
theorem tf_X2_fitting_106 {G : GT} {l : Launch} {z n : Nat} (b1 : Nat) (hb1 : BrO b1) (w : Mem) (q : Int32) (hq : f_X2_fitting_106 b1 w = some q) : Mt G l z yX2_fitting cX2_fitting 4 (some .int) { frames := 3, cells := 0, slots := 0, locals := 66 } [.ref (z + 106), .ref (z + b1)] (hp G z w) n (some (.int q)) (hp G z w) n := by
  refine mt_of (by decide +kernel) (Nat.le_of_ble_eq_true rfl) ?_
  intro p e s m below meth c C hr hlk hnm
  refine (?_ : DX p l e _ s m _ below meth c G z 4 n _ (fun v => v = q) 0 [(0, .ref (z + 106)), (1, .ref (z + b1))] [] w (f_X2_fitting_106 b1 w)) q hq rfl
  unfold f_X2_fitting_106
  refine dx_iconst (v := (0 : Int32)) C dX2_fitting_0 (by decide) ?_
  refine dx_istore_n C [(2, .int (0 : Int32)), (0, .ref (z + 106)), (1, .ref (z + b1))] dX2_fitting_1 rfl (by decide) rfl ?_
  refine dx_iconst (v := (0 : Int32)) C dX2_fitting_2 (by decide) ?_
  refine dx_istore_n C [(3, .int (0 : Int32)), (2, .int (0 : Int32)), (0, .ref (z + 106)), (1, .ref (z + b1))] dX2_fitting_3 rfl (by decide) rfl ?_
  refine dx_mv (lo2 := [(0, .ref (z + 106)), (1, .ref (z + b1)), (2, .int (0 : Int32)), (3, .int (0 : Int32))]) [2, 3, 1, 0] rfl ?_
  refine dx_bind 33 (fun v4 => [(2, .int v4)]) (fun v4 => []) (fun v4 => w) (fun v4 => (?_ : DX p l e _ s m _ below meth c G z 4 n _ _ 33 [(2, .int v4)] [] w _)) ?_
  · refine dx_iload_n C 0 dX2_fitting_33 rfl rfl ?_
    exact dx_iret1 C hr hlk dX2_fitting_34 (fun h => h)
  · refine dx_lp (fun s4 => [(0, .ref (z + 106)), (1, .ref (z + b1)), (2, .int s4.1), (3, .int s4.2)]) [] (fun s4 => w) (fun s4 => (?_ : DX p l e _ s m _ below meth c G z 4 n _ _ 4 [(0, .ref (z + 106)), (1, .ref (z + b1)), (2, .int s4.1), (3, .int s4.2)] [] w _)) 5000000000 ((0 : Int32), (0 : Int32))
    refine dx_iload_n C 3 dX2_fitting_4 rfl rfl ?_
    refine dx_aload_n C 1 dX2_fitting_5 rfl rfl ?_
    refine dgX2_28 C hb1 dX2_fitting_6 ?_
    refine dx_icmp_ge C 33 dX2_fitting_9 (by decide) ?_ ?_
    · refine dx_mv (lo2 := [(2, .int s4.1)]) [2] rfl ?_
      exact dx_end (fun h => h)
    · refine dx_aload_n C 0 dX2_fitting_12 rfl rfl ?_
      refine dx_aload_n C 1 dX2_fitting_13 rfl rfl ?_
      refine dx_iload_n C 3 dX2_fitting_14 rfl rfl ?_
      refine dx_callV1 C cl_X2_fits kmX2_33 (ci := 1) (b := 106) (As := [.ref (z + b1), .int s4.2]) (rest := []) rfl (hp_of ly_106) (tf_X2_fits_106 b1 hb1 s4.2 w) rfl rfl (Nat.le_of_ble_eq_true rfl) ⟨Nat.le_of_ble_eq_true rfl, Nat.le_of_ble_eq_true rfl⟩ dX2_fitting_15 (fun r1 => ?_)
      refine dx_bind 27 (fun v2 => [(0, .ref (z + 106)), (1, .ref (z + b1)), (2, .int v2), (3, .int s4.2)]) (fun v2 => []) (fun v2 => w) (fun v2 => (?_ : DX p l e _ s m _ below meth c G z 4 n _ _ 27 [(0, .ref (z + 106)), (1, .ref (z + b1)), (2, .int v2), (3, .int s4.2)] [] w _)) ?_
      · refine dx_iinc (v := (s4.2 + (1 : Int32))) C 3 [(3, .int (s4.2 + (1 : Int32))), (0, .ref (z + 106)), (1, .ref (z + b1)), (2, .int v2)] dX2_fitting_27 rfl rfl (by decide) rfl ?_
        refine dx_goto C 4 dX2_fitting_30 (by decide) ?_
        refine dx_mv (lo2 := [(0, .ref (z + 106)), (1, .ref (z + b1)), (2, .int v2), (3, .int (s4.2 + (1 : Int32)))]) [1, 2, 3, 0] rfl ?_
        exact dx_end (fun h => h)
      · refine dx_if_eq C 27 dX2_fitting_18 (by decide) ?_ ?_
        · exact dx_end (fun h => h)
        · refine dx_iload_n C 2 dX2_fitting_21 rfl rfl ?_
          refine dx_iconst (v := (1 : Int32)) C dX2_fitting_22 (by decide) ?_
          refine dx_iload_n C 3 dX2_fitting_23 rfl rfl ?_
          refine dx_ishl C dX2_fitting_24 ?_
          refine dx_ior C dX2_fitting_25 ?_
          refine dx_lt (fun t3 => ?_)
          refine dx_istore_n C [(2, .int t3), (0, .ref (z + 106)), (1, .ref (z + b1)), (3, .int s4.2)] dX2_fitting_26 rfl (by decide) rfl ?_
          refine dx_mv (lo2 := [(0, .ref (z + 106)), (1, .ref (z + b1)), (2, .int t3), (3, .int s4.2)]) [1, 2, 0, 3] rfl ?_
          exact dx_end (fun h => h)
def f_X9_couldBe (w : Mem) : Option (Int32) :=
  (f_X2_fitting_106 (brp (w 0 8)) w).bind fun r1 => some (r1)
set_option maxRecDepth 20000 in
set_option maxHeartbeats 4000000 in
theorem tf_X9_couldBe {G : GT} {l : Launch} {z n : Nat} (w : Mem) (q : Int32) (hq : f_X9_couldBe w = some q) : Mt G l z yX9_couldBe cX9_couldBe 1 (some .int) { frames := 4, cells := 0, slots := 0, locals := 89 } [.ref (z + 0)] (hp G z w) n (some (.int q)) (hp G z w) n := by
  refine mt_of (by decide +kernel) (Nat.le_of_ble_eq_true rfl) ?_
  intro p e s m below meth c C hr hlk hnm
  refine (?_ : DX p l e _ s m _ below meth c G z 1 n _ (fun v => v = q) 0 [(0, .ref (z + 0))] [] w (f_X9_couldBe w)) q hq rfl
  unfold f_X9_couldBe
  refine dx_aload_n C 0 dX9_couldBe_0 rfl rfl ?_
  refine dgX9_55 C dX9_couldBe_1 ?_
  refine dx_aload_n C 0 dX9_couldBe_4 rfl rfl ?_
  refine dgX9_65 C dX9_couldBe_5 ?_
  refine dx_callV1 C cl_X2_fitting kmX9_315 (ci := 1) (b := 106) (As := [.ref (z + (brp (w 0 8)))]) (rest := []) rfl (hp_of ly_106) (tf_X2_fitting_106 (brp (w 0 8)) (brp_ok (w 0 8)) w) rfl rfl (Nat.le_of_ble_eq_true rfl) ⟨Nat.le_of_ble_eq_true rfl, Nat.le_of_ble_eq_true rfl⟩ dX9_couldBe_8 (fun r1 => ?_)
  exact dx_iret1 C hr hlk dX9_couldBe_11 (fun h => h)
def f_X0_alike (b0 : Nat) (a1 : Int32) (a2 : Int32) (a3 : Int32) (w : Mem) : Option (Int32) :=
  (lp (S := (Int32 × Int32)) (T := Int32) (fun s6 => (if s6.2 < (w b0 2) then (f_X9_holds a2 s6.2).bind fun r1 => ((if r1 = 0 then some (s6.1) else (f_X1_stayOf b0 a1 s6.2 w).bind fun r3 => (if r3 = a3 then some ((s6.1 + (1 : Int32))) else some (s6.1))) : Option Int32).bind fun v2 => some (Sum.inl (v2, (s6.2 + (1 : Int32)))) else some (Sum.inr s6.1))) 5000000000 ((0 : Int32), (0 : Int32))).bind fun v4 => some (v4)
set_option maxRecDepth 20000 in
set_option maxHeartbeats 4000000 in
theorem tf_X0_alike {G : GT} {l : Launch} {z n : Nat} (b0 : Nat) (hb0 : BrO b0) (a1 : Int32) (a2 : Int32) (a3 : Int32) (w : Mem) (q : Int32) (hq : f_X0_alike b0 a1 a2 a3 w = some q) : Mt G l z yX0_alike cX0_alike 6 (some .int) { frames := 2, cells := 0, slots := 0, locals := 43 } [.ref (z + b0), .int a1, .int a2, .int a3] (hp G z w) n (some (.int q)) (hp G z w) n := by
  refine mt_of (by decide +kernel) (Nat.le_of_ble_eq_true rfl) ?_
  intro p e s m below meth c C hr hlk hnm
  refine (?_ : DX p l e _ s m _ below meth c G z 6 n _ (fun v => v = q) 0 [(0, .ref (z + b0)), (1, .int a1), (2, .int a2), (3, .int a3)] [] w (f_X0_alike b0 a1 a2 a3 w)) q hq rfl
  unfold f_X0_alike
  refine dx_iconst (v := (0 : Int32)) C dX0_alike_0 (by decide) ?_
  refine dx_istore C [(4, .int (0 : Int32)), (0, .ref (z + b0)), (1, .int a1), (2, .int a2), (3, .int a3)] dX0_alike_1 (by decide) rfl ?_
  refine dx_iconst (v := (0 : Int32)) C dX0_alike_3 (by decide) ?_
  refine dx_istore C [(5, .int (0 : Int32)), (4, .int (0 : Int32)), (0, .ref (z + b0)), (1, .int a1), (2, .int a2), (3, .int a3)] dX0_alike_4 (by decide) rfl ?_
  refine dx_mv (lo2 := [(0, .ref (z + b0)), (1, .int a1), (2, .int a2), (3, .int a3), (4, .int (0 : Int32)), (5, .int (0 : Int32))]) [2, 3, 4, 5, 1, 0] rfl ?_
  refine dx_bind 44 (fun v4 => [(4, .int v4)]) (fun v4 => []) (fun v4 => w) (fun v4 => (?_ : DX p l e _ s m _ below meth c G z 6 n _ _ 44 [(4, .int v4)] [] w _)) ?_
  · refine dx_iload C 0 dX0_alike_44 rfl ?_
    exact dx_iret1 C hr hlk dX0_alike_46 (fun h => h)
  · refine dx_lp (fun s6 => [(0, .ref (z + b0)), (1, .int a1), (2, .int a2), (3, .int a3), (4, .int s6.1), (5, .int s6.2)]) [] (fun s6 => w) (fun s6 => (?_ : DX p l e _ s m _ below meth c G z 6 n _ _ 6 [(0, .ref (z + b0)), (1, .int a1), (2, .int a2), (3, .int a3), (4, .int s6.1), (5, .int s6.2)] [] w _)) 5000000000 ((0 : Int32), (0 : Int32))
    refine dx_iload C 5 dX0_alike_6 rfl ?_
    refine dx_aload_n C 0 dX0_alike_8 rfl rfl ?_
    refine dgX0_27 C hb0 dX0_alike_9 ?_
    refine dx_icmp_ge C 44 dX0_alike_12 (by decide) ?_ ?_
    · refine dx_mv (lo2 := [(4, .int s6.1)]) [4] rfl ?_
      exact dx_end (fun h => h)
    · refine dx_iload_n C 2 dX0_alike_15 rfl rfl ?_
      refine dx_iload C 5 dX0_alike_16 rfl ?_
      refine dx_callSN1 C cl_X9_holds knX0_30 (As := [.int a2, .int s6.2]) (rest := []) (tf_X9_holds a2 s6.2 w) rfl rfl (Nat.le_of_ble_eq_true rfl) ⟨Nat.le_of_ble_eq_true rfl, Nat.le_of_ble_eq_true rfl⟩ dX0_alike_18 (fun r1 => ?_)
      refine dx_bind 38 (fun v2 => [(0, .ref (z + b0)), (1, .int a1), (2, .int a2), (3, .int a3), (4, .int v2), (5, .int s6.2)]) (fun v2 => []) (fun v2 => w) (fun v2 => (?_ : DX p l e _ s m _ below meth c G z 6 n _ _ 38 [(0, .ref (z + b0)), (1, .int a1), (2, .int a2), (3, .int a3), (4, .int v2), (5, .int s6.2)] [] w _)) ?_
      · refine dx_iinc (v := (s6.2 + (1 : Int32))) C 5 [(5, .int (s6.2 + (1 : Int32))), (0, .ref (z + b0)), (1, .int a1), (2, .int a2), (3, .int a3), (4, .int v2)] dX0_alike_38 rfl rfl (by decide) rfl ?_
        refine dx_goto C 6 dX0_alike_41 (by decide) ?_
        refine dx_mv (lo2 := [(0, .ref (z + b0)), (1, .int a1), (2, .int a2), (3, .int a3), (4, .int v2), (5, .int (s6.2 + (1 : Int32)))]) [1, 2, 3, 4, 5, 0] rfl ?_
        exact dx_end (fun h => h)
      · refine dx_if_eq C 38 dX0_alike_21 (by decide) ?_ ?_
        · exact dx_end (fun h => h)
        · refine dx_aload_n C 0 dX0_alike_24 rfl rfl ?_
          refine dx_iload_n C 1 dX0_alike_25 rfl rfl ?_
          refine dx_iload C 5 dX0_alike_26 rfl ?_
          refine dx_callV1 C cl_X1_stayOf kmX0_34 (ci := 0) (b := b0) (As := [.int a1, .int s6.2]) (rest := []) rfl (hp_of (lyBr0 hb0)) (tf_X1_stayOf b0 hb0 a1 s6.2 w) rfl rfl (Nat.le_of_ble_eq_true rfl) ⟨Nat.le_of_ble_eq_true rfl, Nat.le_of_ble_eq_true rfl⟩ dX0_alike_28 (fun r3 => ?_)
          refine dx_iload_n C 3 dX0_alike_31 rfl rfl ?_
          refine dx_icmp_ne C 38 dX0_alike_32 (by decide) ?_ ?_
          · exact dx_end (fun h => h)
          · refine dx_iinc (v := (s6.1 + (1 : Int32))) C 4 [(4, .int (s6.1 + (1 : Int32))), (0, .ref (z + b0)), (1, .int a1), (2, .int a2), (3, .int a3), (5, .int s6.2)] dX0_alike_35 rfl rfl (by decide) rfl ?_
            refine dx_mv (lo2 := [(0, .ref (z + b0)), (1, .int a1), (2, .int a2), (3, .int a3), (4, .int (s6.1 + (1 : Int32))), (5, .int s6.2)]) [1, 2, 3, 4, 0, 5] rfl ?_
            exact dx_end (fun h => h)
def f_X0_greatestPart (b0 : Nat) (a1 : Int32) (a2 : Int32) (w : Mem) : Option (Int32) :=
  (lp (S := (Int32 × Int32)) (T := Int32) (fun s5 => (if s5.2 < (w b0 2) then (f_X9_holds a2 s5.2).bind fun r1 => ((if r1 = 0 then some (s5.1) else (f_X1_stayOf b0 a1 s5.2 w).bind fun r3 => (f_X0_alike b0 a1 a2 r3 w).bind fun r4 => lt ((if s5.1 < r4 then r4 else s5.1)) fun t5 => some (t5)) : Option Int32).bind fun v2 => some (Sum.inl (v2, (s5.2 + (1 : Int32)))) else some (Sum.inr s5.1))) 5000000000 ((0 : Int32), (0 : Int32))).bind fun v6 => some (v6)
set_option maxRecDepth 20000 in
set_option maxHeartbeats 4000000 in
theorem tf_X0_greatestPart {G : GT} {l : Launch} {z n : Nat} (b0 : Nat) (hb0 : BrO b0) (a1 : Int32) (a2 : Int32) (w : Mem) (q : Int32) (hq : f_X0_greatestPart b0 a1 a2 w = some q) : Mt G l z yX0_greatestPart cX0_greatestPart 5 (some .int) { frames := 3, cells := 0, slots := 0, locals := 68 } [.ref (z + b0), .int a1, .int a2] (hp G z w) n (some (.int q)) (hp G z w) n := by
  refine mt_of (by decide +kernel) (Nat.le_of_ble_eq_true rfl) ?_
  intro p e s m below meth c C hr hlk hnm
  refine (?_ : DX p l e _ s m _ below meth c G z 5 n _ (fun v => v = q) 0 [(0, .ref (z + b0)), (1, .int a1), (2, .int a2)] [] w (f_X0_greatestPart b0 a1 a2 w)) q hq rfl
  unfold f_X0_greatestPart
  refine dx_iconst (v := (0 : Int32)) C dX0_greatestPart_0 (by decide) ?_
  refine dx_istore_n C [(3, .int (0 : Int32)), (0, .ref (z + b0)), (1, .int a1), (2, .int a2)] dX0_greatestPart_1 rfl (by decide) rfl ?_
  refine dx_iconst (v := (0 : Int32)) C dX0_greatestPart_2 (by decide) ?_
  refine dx_istore C [(4, .int (0 : Int32)), (3, .int (0 : Int32)), (0, .ref (z + b0)), (1, .int a1), (2, .int a2)] dX0_greatestPart_3 (by decide) rfl ?_
  refine dx_mv (lo2 := [(0, .ref (z + b0)), (1, .int a1), (2, .int a2), (3, .int (0 : Int32)), (4, .int (0 : Int32))]) [2, 3, 4, 1, 0] rfl ?_
  refine dx_bind 47 (fun v6 => [(3, .int v6)]) (fun v6 => []) (fun v6 => w) (fun v6 => (?_ : DX p l e _ s m _ below meth c G z 5 n _ _ 47 [(3, .int v6)] [] w _)) ?_
  · refine dx_iload_n C 0 dX0_greatestPart_47 rfl rfl ?_
    exact dx_iret1 C hr hlk dX0_greatestPart_48 (fun h => h)
  · refine dx_lp (fun s5 => [(0, .ref (z + b0)), (1, .int a1), (2, .int a2), (3, .int s5.1), (4, .int s5.2)]) [] (fun s5 => w) (fun s5 => (?_ : DX p l e _ s m _ below meth c G z 5 n _ _ 5 [(0, .ref (z + b0)), (1, .int a1), (2, .int a2), (3, .int s5.1), (4, .int s5.2)] [] w _)) 5000000000 ((0 : Int32), (0 : Int32))
    refine dx_iload C 4 dX0_greatestPart_5 rfl ?_
    refine dx_aload_n C 0 dX0_greatestPart_7 rfl rfl ?_
    refine dgX0_27 C hb0 dX0_greatestPart_8 ?_
    refine dx_icmp_ge C 47 dX0_greatestPart_11 (by decide) ?_ ?_
    · refine dx_mv (lo2 := [(3, .int s5.1)]) [3] rfl ?_
      exact dx_end (fun h => h)
    · refine dx_iload_n C 2 dX0_greatestPart_14 rfl rfl ?_
      refine dx_iload C 4 dX0_greatestPart_15 rfl ?_
      refine dx_callSN1 C cl_X9_holds knX0_30 (As := [.int a2, .int s5.2]) (rest := []) (tf_X9_holds a2 s5.2 w) rfl rfl (Nat.le_of_ble_eq_true rfl) ⟨Nat.le_of_ble_eq_true rfl, Nat.le_of_ble_eq_true rfl⟩ dX0_greatestPart_17 (fun r1 => ?_)
      refine dx_bind 41 (fun v2 => [(0, .ref (z + b0)), (1, .int a1), (2, .int a2), (3, .int v2), (4, .int s5.2)]) (fun v2 => []) (fun v2 => w) (fun v2 => (?_ : DX p l e _ s m _ below meth c G z 5 n _ _ 41 [(0, .ref (z + b0)), (1, .int a1), (2, .int a2), (3, .int v2), (4, .int s5.2)] [] w _)) ?_
      · refine dx_iinc (v := (s5.2 + (1 : Int32))) C 4 [(4, .int (s5.2 + (1 : Int32))), (0, .ref (z + b0)), (1, .int a1), (2, .int a2), (3, .int v2)] dX0_greatestPart_41 rfl rfl (by decide) rfl ?_
        refine dx_goto C 5 dX0_greatestPart_44 (by decide) ?_
        refine dx_mv (lo2 := [(0, .ref (z + b0)), (1, .int a1), (2, .int a2), (3, .int v2), (4, .int (s5.2 + (1 : Int32)))]) [1, 2, 3, 4, 0] rfl ?_
        exact dx_end (fun h => h)
      · refine dx_if_eq C 41 dX0_greatestPart_20 (by decide) ?_ ?_
        · exact dx_end (fun h => h)
        · refine dx_iload_n C 3 dX0_greatestPart_23 rfl rfl ?_
          refine dx_aload_n C 0 dX0_greatestPart_24 rfl rfl ?_
          refine dx_iload_n C 1 dX0_greatestPart_25 rfl rfl ?_
          refine dx_iload_n C 2 dX0_greatestPart_26 rfl rfl ?_
          refine dx_aload_n C 0 dX0_greatestPart_27 rfl rfl ?_
          refine dx_iload_n C 1 dX0_greatestPart_28 rfl rfl ?_
          refine dx_iload C 4 dX0_greatestPart_29 rfl ?_
          refine dx_callV1 C cl_X1_stayOf kmX0_34 (ci := 0) (b := b0) (As := [.int a1, .int s5.2]) (rest := [.int a2, .int a1, .ref (z + b0), .int s5.1]) rfl (hp_of (lyBr0 hb0)) (tf_X1_stayOf b0 hb0 a1 s5.2 w) rfl rfl (Nat.le_of_ble_eq_true rfl) ⟨Nat.le_of_ble_eq_true rfl, Nat.le_of_ble_eq_true rfl⟩ dX0_greatestPart_31 (fun r3 => ?_)
          refine dx_callS1 C cl_X0_alike kmX0_38 (As := [.ref (z + b0), .int a1, .int a2, .int r3]) (rest := [.int s5.1]) (tf_X0_alike b0 hb0 a1 a2 r3 w) rfl rfl (Nat.le_of_ble_eq_true rfl) ⟨Nat.le_of_ble_eq_true rfl, Nat.le_of_ble_eq_true rfl⟩ dX0_greatestPart_34 (fun r4 => ?_)
          refine dx_max C kmX0_42 kMs_max kzMath kMc_max (Nat.le_of_ble_eq_true rfl) (Nat.le_of_ble_eq_true rfl) dX0_greatestPart_37 ?_
          refine dx_lt (fun t5 => ?_)
          refine dx_istore_n C [(3, .int t5), (0, .ref (z + b0)), (1, .int a1), (2, .int a2), (4, .int s5.2)] dX0_greatestPart_40 rfl (by decide) rfl ?_
          refine dx_mv (lo2 := [(0, .ref (z + b0)), (1, .int a1), (2, .int a2), (3, .int t5), (4, .int s5.2)]) [1, 2, 3, 0, 4] rfl ?_
          exact dx_end (fun h => h)
