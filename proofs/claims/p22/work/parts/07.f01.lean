def f_X9_bridge (w : Mem) : Option (Int32 × Mem) :=
  (f_X7_readInto (brp (w 0 9)) w).bind fun w1 => (f_X7_empty w1).bind fun w2 => pw 0 11 (w2 1 4) w2 fun w3 => (if (w3 1 3) = 0 then pr 0 8 (brp (w3 0 9)) w3 fun w4 => pr 0 9 (brp (w3 0 8)) w4 fun w5 => (f_X9_beginBridge w5).bind fun w6 => some (((w6 (brp (w6 0 8)) 3), w6)) else some ((((-10 : Int32) - (w3 1 3)), w3)))
set_option maxRecDepth 20000 in
set_option maxHeartbeats 4000000 in
theorem tf_X9_bridge {G : GT} {l : Launch} {z n : Nat} (w : Mem) (q : Int32 × Mem) (hq : f_X9_bridge w = some q) : Mt G l z yX9_bridge cX9_bridge 2 (some .int) { frames := 6, cells := 0, slots := 0, locals := 133 } [.ref (z + 0)] (hp G z w) n (some (.int q.1)) (hp G z q.2) n := by
  refine mt_of (by decide +kernel) (Nat.le_of_ble_eq_true rfl) ?_
  intro p e s m below meth c C hr hlk hnm
  refine (?_ : DX p l e _ s m _ below meth c G z 2 n _ (fun v => v = q) 0 [(0, .ref (z + 0))] [] w (f_X9_bridge w)) q hq rfl
  unfold f_X9_bridge
  refine dx_aload_n C 0 dX9_bridge_0 rfl rfl ?_
  refine dgX9_10 C dX9_bridge_1 ?_
  refine dx_aload_n C 0 dX9_bridge_4 rfl rfl ?_
  refine dgX9_69 C dX9_bridge_5 ?_
  refine dx_callV3 C cl_X7_readInto kmX9_89 (ci := 6) (b := 1) (As := [.ref (z + (brp (w 0 9)))]) (rest := []) rfl (hp_of ly_1) (tf_X7_readInto (brp (w 0 9)) (brp_ok (w 0 9)) w) rfl rfl (Nat.le_of_ble_eq_true rfl) ⟨Nat.le_of_ble_eq_true rfl, Nat.le_of_ble_eq_true rfl⟩ dX9_bridge_8 (fun w1 => ?_)
  refine dx_aload_n C 0 dX9_bridge_11 rfl rfl ?_
  refine dgX9_10 C dX9_bridge_12 ?_
  refine dx_callV3 C cl_X7_empty kmX9_93 (ci := 6) (b := 1) (As := []) (rest := []) rfl (hp_of ly_1) (tf_X7_empty w1) rfl rfl (Nat.le_of_ble_eq_true rfl) ⟨Nat.le_of_ble_eq_true rfl, Nat.le_of_ble_eq_true rfl⟩ dX9_bridge_15 (fun w2 => ?_)
  refine dx_aload_n C 0 dX9_bridge_18 rfl rfl ?_
  refine dx_aload_n C 0 dX9_bridge_19 rfl rfl ?_
  refine dgX9_10 C dX9_bridge_20 ?_
  refine dgX9_96 C dX9_bridge_23 ?_
  refine dpX9_76 C dX9_bridge_26 (fun w3 => ?_)
  refine dx_aload_n C 0 dX9_bridge_29 rfl rfl ?_
  refine dgX9_10 C dX9_bridge_30 ?_
  refine dgX9_97 C dX9_bridge_33 ?_
  refine dx_if_eq C 50 dX9_bridge_36 (by decide) ?_ ?_
  · refine dx_aload_n C 0 dX9_bridge_50 rfl rfl ?_
    refine dgX9_65 C dX9_bridge_51 ?_
    refine dx_astore_n C [(1, .ref (z + (brp (w3 0 8)))), (0, .ref (z + 0))] dX9_bridge_54 rfl (by decide) rfl ?_
    refine dx_aload_n C 1 dX9_bridge_55 rfl rfl ?_
    refine dx_aload_n C 1 dX9_bridge_56 rfl rfl ?_
    refine dgX9_69 C dX9_bridge_57 ?_
    refine dpX9_65 C dX9_bridge_60 (fun w4 => ?_)
    refine dx_aload_n C 1 dX9_bridge_63 rfl rfl ?_
    refine dx_aload_n C 0 dX9_bridge_64 rfl rfl ?_
    refine dpX9_69 C dX9_bridge_65 (fun w5 => ?_)
    refine dx_aload_n C 1 dX9_bridge_68 rfl rfl ?_
    refine dx_callV3 C cl_X9_beginBridge kmX9_100 (ci := 8) (b := 0) (As := []) (rest := []) rfl (hp_of ly_0) (tf_X9_beginBridge w5) rfl rfl (Nat.le_of_ble_eq_true rfl) ⟨Nat.le_of_ble_eq_true rfl, Nat.le_of_ble_eq_true rfl⟩ dX9_bridge_69 (fun w6 => ?_)
    refine dx_aload_n C 1 dX9_bridge_72 rfl rfl ?_
    refine dgX9_65 C dX9_bridge_73 ?_
    refine dgX9_103 C (brp_ok (w6 0 8)) dX9_bridge_76 ?_
    exact dx_iret2 C hr hlk dX9_bridge_79 (fun h => h)
  · refine dx_bipush (v := (-10 : Int32)) C dX9_bridge_39 (by decide) ?_
    refine dx_aload_n C 0 dX9_bridge_41 rfl rfl ?_
    refine dgX9_10 C dX9_bridge_42 ?_
    refine dgX9_97 C dX9_bridge_45 ?_
    refine dx_isub C dX9_bridge_48 ?_
    exact dx_iret2 C hr hlk dX9_bridge_49 (fun h => h)
def f_X9_fault (w : Mem) : Option (Int32) :=
  some ((w 0 11))
set_option maxRecDepth 20000 in
set_option maxHeartbeats 4000000 in
theorem tf_X9_fault {G : GT} {l : Launch} {z n : Nat} (w : Mem) (q : Int32) (hq : f_X9_fault w = some q) : Mt G l z yX9_fault cX9_fault 1 (some .int) { frames := 0, cells := 0, slots := 0, locals := 0 } [.ref (z + 0)] (hp G z w) n (some (.int q)) (hp G z w) n := by
  refine mt_of (by decide +kernel) (Nat.le_of_ble_eq_true rfl) ?_
  intro p e s m below meth c C hr hlk hnm
  refine (?_ : DX p l e _ s m _ below meth c G z 1 n _ (fun v => v = q) 0 [(0, .ref (z + 0))] [] w (f_X9_fault w)) q hq rfl
  unfold f_X9_fault
  refine dx_aload_n C 0 dX9_fault_0 rfl rfl ?_
  refine dgX9_76 C dX9_fault_1 ?_
  exact dx_iret1 C hr hlk dX9_fault_4 (fun h => h)
def f_X9_toldOfEvening (a1 : Int32) (w : Mem) : Option (Int32) :=
  (if a1 = (5 : Int32) then some ((w 3 0)) else (if a1 = (6 : Int32) then some ((w 3 1)) else (if a1 = (7 : Int32) then some ((w 3 2)) else (if a1 = (8 : Int32) then some ((w 3 3)) else (if a1 = (9 : Int32) then some ((w 3 4)) else (if a1 = (10 : Int32) then some ((w 3 5)) else (if a1 = (11 : Int32) then some ((w 3 6)) else (if a1 = (12 : Int32) then some ((w 3 7)) else (if a1 = (13 : Int32) then some ((w 3 8)) else (if a1 = (14 : Int32) then some ((w 3 9)) else some ((-1000000002 : Int32))))))))))))
set_option maxRecDepth 20000 in
set_option maxHeartbeats 4000000 in
theorem tf_X9_toldOfEvening {G : GT} {l : Launch} {z n : Nat} (a1 : Int32) (w : Mem) (q : Int32) (hq : f_X9_toldOfEvening a1 w = some q) : Mt G l z yX9_toldOfEvening cX9_toldOfEvening 2 (some .int) { frames := 0, cells := 0, slots := 0, locals := 0 } [.ref (z + 0), .int a1] (hp G z w) n (some (.int q)) (hp G z w) n := by
  refine mt_of (by decide +kernel) (Nat.le_of_ble_eq_true rfl) ?_
  intro p e s m below meth c C hr hlk hnm
  refine (?_ : DX p l e _ s m _ below meth c G z 2 n _ (fun v => v = q) 0 [(0, .ref (z + 0)), (1, .int a1)] [] w (f_X9_toldOfEvening a1 w)) q hq rfl
  unfold f_X9_toldOfEvening
  refine dx_iload_n C 1 dX9_toldOfEvening_0 rfl rfl ?_
  refine dx_ite (fun hs1 => ?_) (fun hs1 => ?_)
  · refine dx_tableIn C 56 dX9_toldOfEvening_1 (by rw [hs1]; decide) (by rw [hs1]; decide) (by rw [hs1]; rfl) (by decide) ?_
    refine dx_aload_n C 0 dX9_toldOfEvening_56 rfl rfl ?_
    refine dgX9_19 C dX9_toldOfEvening_57 ?_
    refine dgX9_149 C (Or.inl rfl) dX9_toldOfEvening_60 ?_
    exact dx_iret1 C hr hlk dX9_toldOfEvening_63 (fun h => h)
  · refine dx_ite (fun hs2 => ?_) (fun hs2 => ?_)
    · refine dx_tableIn C 64 dX9_toldOfEvening_1 (by rw [hs2]; decide) (by rw [hs2]; decide) (by rw [hs2]; rfl) (by decide) ?_
      refine dx_aload_n C 0 dX9_toldOfEvening_64 rfl rfl ?_
      refine dgX9_19 C dX9_toldOfEvening_65 ?_
      refine dgX9_152 C (Or.inl rfl) dX9_toldOfEvening_68 ?_
      exact dx_iret1 C hr hlk dX9_toldOfEvening_71 (fun h => h)
    · refine dx_ite (fun hs3 => ?_) (fun hs3 => ?_)
      · refine dx_tableIn C 72 dX9_toldOfEvening_1 (by rw [hs3]; decide) (by rw [hs3]; decide) (by rw [hs3]; rfl) (by decide) ?_
        refine dx_aload_n C 0 dX9_toldOfEvening_72 rfl rfl ?_
        refine dgX9_19 C dX9_toldOfEvening_73 ?_
        refine dgX9_155 C (Or.inl rfl) dX9_toldOfEvening_76 ?_
        exact dx_iret1 C hr hlk dX9_toldOfEvening_79 (fun h => h)
      · refine dx_ite (fun hs4 => ?_) (fun hs4 => ?_)
        · refine dx_tableIn C 80 dX9_toldOfEvening_1 (by rw [hs4]; decide) (by rw [hs4]; decide) (by rw [hs4]; rfl) (by decide) ?_
          refine dx_aload_n C 0 dX9_toldOfEvening_80 rfl rfl ?_
          refine dgX9_19 C dX9_toldOfEvening_81 ?_
          refine dgX9_134 C (Or.inl rfl) dX9_toldOfEvening_84 ?_
          exact dx_iret1 C hr hlk dX9_toldOfEvening_87 (fun h => h)
        · refine dx_ite (fun hs5 => ?_) (fun hs5 => ?_)
          · refine dx_tableIn C 88 dX9_toldOfEvening_1 (by rw [hs5]; decide) (by rw [hs5]; decide) (by rw [hs5]; rfl) (by decide) ?_
            refine dx_aload_n C 0 dX9_toldOfEvening_88 rfl rfl ?_
            refine dgX9_19 C dX9_toldOfEvening_89 ?_
            refine dgX9_158 C (Or.inl rfl) dX9_toldOfEvening_92 ?_
            exact dx_iret1 C hr hlk dX9_toldOfEvening_95 (fun h => h)
          · refine dx_ite (fun hs6 => ?_) (fun hs6 => ?_)
            · refine dx_tableIn C 96 dX9_toldOfEvening_1 (by rw [hs6]; decide) (by rw [hs6]; decide) (by rw [hs6]; rfl) (by decide) ?_
              refine dx_aload_n C 0 dX9_toldOfEvening_96 rfl rfl ?_
              refine dgX9_19 C dX9_toldOfEvening_97 ?_
              refine dgX9_161 C (Or.inl rfl) dX9_toldOfEvening_100 ?_
              exact dx_iret1 C hr hlk dX9_toldOfEvening_103 (fun h => h)
            · refine dx_ite (fun hs7 => ?_) (fun hs7 => ?_)
              · refine dx_tableIn C 104 dX9_toldOfEvening_1 (by rw [hs7]; decide) (by rw [hs7]; decide) (by rw [hs7]; rfl) (by decide) ?_
                refine dx_aload_n C 0 dX9_toldOfEvening_104 rfl rfl ?_
                refine dgX9_19 C dX9_toldOfEvening_105 ?_
                refine dgX9_164 C (Or.inl rfl) dX9_toldOfEvening_108 ?_
                exact dx_iret1 C hr hlk dX9_toldOfEvening_111 (fun h => h)
              · refine dx_ite (fun hs8 => ?_) (fun hs8 => ?_)
                · refine dx_tableIn C 112 dX9_toldOfEvening_1 (by rw [hs8]; decide) (by rw [hs8]; decide) (by rw [hs8]; rfl) (by decide) ?_
                  refine dx_aload_n C 0 dX9_toldOfEvening_112 rfl rfl ?_
                  refine dgX9_19 C dX9_toldOfEvening_113 ?_
                  refine dgX9_167 C (Or.inl rfl) dX9_toldOfEvening_116 ?_
                  exact dx_iret1 C hr hlk dX9_toldOfEvening_119 (fun h => h)
                · refine dx_ite (fun hs9 => ?_) (fun hs9 => ?_)
                  · refine dx_tableIn C 120 dX9_toldOfEvening_1 (by rw [hs9]; decide) (by rw [hs9]; decide) (by rw [hs9]; rfl) (by decide) ?_
                    refine dx_aload_n C 0 dX9_toldOfEvening_120 rfl rfl ?_
                    refine dgX9_19 C dX9_toldOfEvening_121 ?_
                    refine dgX9_170 C (Or.inl rfl) dX9_toldOfEvening_124 ?_
                    exact dx_iret1 C hr hlk dX9_toldOfEvening_127 (fun h => h)
                  · refine dx_ite (fun hs10 => ?_) (fun hs10 => ?_)
                    · refine dx_tableIn C 128 dX9_toldOfEvening_1 (by rw [hs10]; decide) (by rw [hs10]; decide) (by rw [hs10]; rfl) (by decide) ?_
                      refine dx_aload_n C 0 dX9_toldOfEvening_128 rfl rfl ?_
                      refine dgX9_19 C dX9_toldOfEvening_129 ?_
                      refine dgX9_173 C (Or.inl rfl) dX9_toldOfEvening_132 ?_
                      exact dx_iret1 C hr hlk dX9_toldOfEvening_135 (fun h => h)
                    · have ehs1 : (a1).toInt ≠ 5 := fun q => hs1 ((i_eq_iff _ _).mpr (q.trans (by decide)))
                      have ehs2 : (a1).toInt ≠ 6 := fun q => hs2 ((i_eq_iff _ _).mpr (q.trans (by decide)))
                      have ehs3 : (a1).toInt ≠ 7 := fun q => hs3 ((i_eq_iff _ _).mpr (q.trans (by decide)))
                      have ehs4 : (a1).toInt ≠ 8 := fun q => hs4 ((i_eq_iff _ _).mpr (q.trans (by decide)))
                      have ehs5 : (a1).toInt ≠ 9 := fun q => hs5 ((i_eq_iff _ _).mpr (q.trans (by decide)))
                      have ehs6 : (a1).toInt ≠ 10 := fun q => hs6 ((i_eq_iff _ _).mpr (q.trans (by decide)))
                      have ehs7 : (a1).toInt ≠ 11 := fun q => hs7 ((i_eq_iff _ _).mpr (q.trans (by decide)))
                      have ehs8 : (a1).toInt ≠ 12 := fun q => hs8 ((i_eq_iff _ _).mpr (q.trans (by decide)))
                      have ehs9 : (a1).toInt ≠ 13 := fun q => hs9 ((i_eq_iff _ _).mpr (q.trans (by decide)))
                      have ehs10 : (a1).toInt ≠ 14 := fun q => hs10 ((i_eq_iff _ _).mpr (q.trans (by decide)))
                      refine dx_tableOut C 136 dX9_toldOfEvening_1 (by omega) (by decide) ?_
                      refine dx_ldc C kcX9_80 dX9_toldOfEvening_136 ?_
                      exact dx_iret1 C hr hlk dX9_toldOfEvening_138 (fun h => h)
def f_X1_nobodys (b0 : Nat) (w : Mem) : Option (Int32) :=
  (lp (S := (Int32 × Int32)) (T := Int32) (fun s4 => (if s4.2 < (w b0 3) then rd 6 (w (b0 + 5)) s4.2 fun x1 => some (Sum.inl ((s4.1 ||| x1), (s4.2 + (1 : Int32)))) else some (Sum.inr s4.1))) 5000000000 ((0 : Int32), (0 : Int32))).bind fun v2 => (f_X9_setOfFirst (w b0 2)).bind fun r3 => some ((r3 &&& (v2 ^^^ (-1 : Int32))))
set_option maxRecDepth 20000 in
set_option maxHeartbeats 4000000 in
theorem tf_X1_nobodys {G : GT} {l : Launch} {z n : Nat} (b0 : Nat) (hb0 : BrO b0) (w : Mem) (q : Int32) (hq : f_X1_nobodys b0 w = some q) : Mt G l z yX1_nobodys cX1_nobodys 3 (some .int) { frames := 1, cells := 0, slots := 0, locals := 20 } [.ref (z + b0)] (hp G z w) n (some (.int q)) (hp G z w) n := by
  refine mt_of (by decide +kernel) (Nat.le_of_ble_eq_true rfl) ?_
  intro p e s m below meth c C hr hlk hnm
  refine (?_ : DX p l e _ s m _ below meth c G z 3 n _ (fun v => v = q) 0 [(0, .ref (z + b0))] [] w (f_X1_nobodys b0 w)) q hq rfl
  unfold f_X1_nobodys
  refine dx_iconst (v := (0 : Int32)) C dX1_nobodys_0 (by decide) ?_
  refine dx_istore_n C [(1, .int (0 : Int32)), (0, .ref (z + b0))] dX1_nobodys_1 rfl (by decide) rfl ?_
  refine dx_iconst (v := (0 : Int32)) C dX1_nobodys_2 (by decide) ?_
  refine dx_istore_n C [(2, .int (0 : Int32)), (1, .int (0 : Int32)), (0, .ref (z + b0))] dX1_nobodys_3 rfl (by decide) rfl ?_
  refine dx_mv (lo2 := [(0, .ref (z + b0)), (1, .int (0 : Int32)), (2, .int (0 : Int32))]) [2, 1, 0] rfl ?_
  refine dx_bind 27 (fun v2 => [(0, .ref (z + b0)), (1, .int v2)]) (fun v2 => []) (fun v2 => w) (fun v2 => (?_ : DX p l e _ s m _ below meth c G z 3 n _ _ 27 [(0, .ref (z + b0)), (1, .int v2)] [] w _)) ?_
  · refine dx_aload_n C 0 dX1_nobodys_27 rfl rfl ?_
    refine dgX1_18 C hb0 dX1_nobodys_28 ?_
    refine dx_callSN1 C cl_X9_setOfFirst knX1_43 (As := [.int (w b0 2)]) (rest := []) (tf_X9_setOfFirst (w b0 2) w) rfl rfl (Nat.le_of_ble_eq_true rfl) ⟨Nat.le_of_ble_eq_true rfl, Nat.le_of_ble_eq_true rfl⟩ dX1_nobodys_31 (fun r3 => ?_)
    refine dx_iload_n C 1 dX1_nobodys_34 rfl rfl ?_
    refine dx_iconst (v := (-1 : Int32)) C dX1_nobodys_35 (by decide) ?_
    refine dx_ixor C dX1_nobodys_36 ?_
    refine dx_iand C dX1_nobodys_37 ?_
    exact dx_iret1 C hr hlk dX1_nobodys_38 (fun h => h)
  · refine dx_lp (fun s4 => [(0, .ref (z + b0)), (1, .int s4.1), (2, .int s4.2)]) [] (fun s4 => w) (fun s4 => (?_ : DX p l e _ s m _ below meth c G z 3 n _ _ 4 [(0, .ref (z + b0)), (1, .int s4.1), (2, .int s4.2)] [] w _)) 5000000000 ((0 : Int32), (0 : Int32))
    refine dx_iload_n C 2 dX1_nobodys_4 rfl rfl ?_
    refine dx_aload_n C 0 dX1_nobodys_5 rfl rfl ?_
    refine dgX1_21 C hb0 dX1_nobodys_6 ?_
    refine dx_icmp_ge C 27 dX1_nobodys_9 (by decide) ?_ ?_
    · refine dx_mv (lo2 := [(0, .ref (z + b0)), (1, .int s4.1)]) [0, 1] rfl ?_
      exact dx_end (fun h => h)
    · refine dx_iload_n C 1 dX1_nobodys_12 rfl rfl ?_
      refine dx_aload_n C 0 dX1_nobodys_13 rfl rfl ?_
      refine dgX1_37 C hb0 dX1_nobodys_14 ?_
      refine dx_iload_n C 2 dX1_nobodys_17 rfl rfl ?_
      refine dx_rd C (lyBr5 hb0) dX1_nobodys_18 (fun x1 => ?_)
      refine dx_ior C dX1_nobodys_19 ?_
      refine dx_istore_n C [(1, .int (s4.1 ||| x1)), (0, .ref (z + b0)), (2, .int s4.2)] dX1_nobodys_20 rfl (by decide) rfl ?_
      refine dx_iinc (v := (s4.2 + (1 : Int32))) C 2 [(2, .int (s4.2 + (1 : Int32))), (1, .int (s4.1 ||| x1)), (0, .ref (z + b0))] dX1_nobodys_21 rfl rfl (by decide) rfl ?_
      refine dx_goto C 4 dX1_nobodys_24 (by decide) ?_
      refine dx_mv (lo2 := [(0, .ref (z + b0)), (1, .int (s4.1 ||| x1)), (2, .int (s4.2 + (1 : Int32)))]) [2, 1, 0] rfl ?_
      exact dx_end (fun h => h)
def f_X3_longestSat (b1 : Nat) (w : Mem) : Option (Int32) :=
  (lp (S := (Int32 × Int32 × Int32)) (T := Int32) (fun s7 => (if s7.2.2 < (w b1 3) then rd 6 (w 5) s7.2.2 fun x1 => ((if s7.2.1 < x1 then rd 6 (w 5) s7.2.2 fun x3 => some ((s7.2.2, x3)) else some ((s7.1, s7.2.1))) : Option (Int32 × Int32)).bind fun v2 => some (Sum.inl (v2.1, v2.2, (s7.2.2 + (1 : Int32)))) else some (Sum.inr s7.1))) 5000000000 ((-1 : Int32), (0 : Int32), (0 : Int32))).bind fun v4 => some (v4)
set_option maxRecDepth 20000 in
set_option maxHeartbeats 4000000 in
theorem tf_X3_longestSat {G : GT} {l : Launch} {z n : Nat} (b1 : Nat) (hb1 : BrO b1) (w : Mem) (q : Int32) (hq : f_X3_longestSat b1 w = some q) : Mt G l z yX3_longestSat cX3_longestSat 5 (some .int) { frames := 0, cells := 0, slots := 0, locals := 0 } [.ref (z + 3), .ref (z + b1)] (hp G z w) n (some (.int q)) (hp G z w) n := by
  refine mt_of (by decide +kernel) (Nat.le_of_ble_eq_true rfl) ?_
  intro p e s m below meth c C hr hlk hnm
  refine (?_ : DX p l e _ s m _ below meth c G z 5 n _ (fun v => v = q) 0 [(0, .ref (z + 3)), (1, .ref (z + b1))] [] w (f_X3_longestSat b1 w)) q hq rfl
  unfold f_X3_longestSat
  refine dx_iconst (v := (-1 : Int32)) C dX3_longestSat_0 (by decide) ?_
  refine dx_istore_n C [(2, .int (-1 : Int32)), (0, .ref (z + 3)), (1, .ref (z + b1))] dX3_longestSat_1 rfl (by decide) rfl ?_
  refine dx_iconst (v := (0 : Int32)) C dX3_longestSat_2 (by decide) ?_
  refine dx_istore_n C [(3, .int (0 : Int32)), (2, .int (-1 : Int32)), (0, .ref (z + 3)), (1, .ref (z + b1))] dX3_longestSat_3 rfl (by decide) rfl ?_
  refine dx_iconst (v := (0 : Int32)) C dX3_longestSat_4 (by decide) ?_
  refine dx_istore C [(4, .int (0 : Int32)), (3, .int (0 : Int32)), (2, .int (-1 : Int32)), (0, .ref (z + 3)), (1, .ref (z + b1))] dX3_longestSat_5 (by decide) rfl ?_
  refine dx_mv (lo2 := [(0, .ref (z + 3)), (1, .ref (z + b1)), (2, .int (-1 : Int32)), (3, .int (0 : Int32)), (4, .int (0 : Int32))]) [3, 4, 2, 1, 0] rfl ?_
  refine dx_bind 44 (fun v4 => [(2, .int v4)]) (fun v4 => []) (fun v4 => w) (fun v4 => (?_ : DX p l e _ s m _ below meth c G z 5 n _ _ 44 [(2, .int v4)] [] w _)) ?_
  · refine dx_iload_n C 0 dX3_longestSat_44 rfl rfl ?_
    exact dx_iret1 C hr hlk dX3_longestSat_45 (fun h => h)
  · refine dx_lp (fun s7 => [(0, .ref (z + 3)), (1, .ref (z + b1)), (2, .int s7.1), (3, .int s7.2.1), (4, .int s7.2.2)]) [] (fun s7 => w) (fun s7 => (?_ : DX p l e _ s m _ below meth c G z 5 n _ _ 7 [(0, .ref (z + 3)), (1, .ref (z + b1)), (2, .int s7.1), (3, .int s7.2.1), (4, .int s7.2.2)] [] w _)) 5000000000 ((-1 : Int32), (0 : Int32), (0 : Int32))
    refine dx_iload C 4 dX3_longestSat_7 rfl ?_
    refine dx_aload_n C 1 dX3_longestSat_9 rfl rfl ?_
    refine dgX3_61 C hb1 dX3_longestSat_10 ?_
    refine dx_icmp_ge C 44 dX3_longestSat_13 (by decide) ?_ ?_
    · refine dx_mv (lo2 := [(2, .int s7.1)]) [2] rfl ?_
      exact dx_end (fun h => h)
    · refine dx_aload_n C 0 dX3_longestSat_16 rfl rfl ?_
      refine dgX3_46 C (Or.inl rfl) dX3_longestSat_17 ?_
      refine dx_iload C 4 dX3_longestSat_20 rfl ?_
      refine dx_rd C ly_5 dX3_longestSat_22 (fun x1 => ?_)
      refine dx_iload_n C 3 dX3_longestSat_23 rfl rfl ?_
      refine dx_bind 38 (fun v2 => [(0, .ref (z + 3)), (1, .ref (z + b1)), (2, .int v2.1), (3, .int v2.2), (4, .int s7.2.2)]) (fun v2 => []) (fun v2 => w) (fun v2 => (?_ : DX p l e _ s m _ below meth c G z 5 n _ _ 38 [(0, .ref (z + 3)), (1, .ref (z + b1)), (2, .int v2.1), (3, .int v2.2), (4, .int s7.2.2)] [] w _)) ?_
      · refine dx_iinc (v := (s7.2.2 + (1 : Int32))) C 4 [(4, .int (s7.2.2 + (1 : Int32))), (0, .ref (z + 3)), (1, .ref (z + b1)), (2, .int v2.1), (3, .int v2.2)] dX3_longestSat_38 rfl rfl (by decide) rfl ?_
        refine dx_goto C 7 dX3_longestSat_41 (by decide) ?_
        refine dx_mv (lo2 := [(0, .ref (z + 3)), (1, .ref (z + b1)), (2, .int v2.1), (3, .int v2.2), (4, .int (s7.2.2 + (1 : Int32)))]) [1, 2, 3, 4, 0] rfl ?_
        exact dx_end (fun h => h)
      · refine dx_icmp_le C 38 dX3_longestSat_24 (by decide) ?_ ?_
        · exact dx_end (fun h => h)
        · refine dx_aload_n C 0 dX3_longestSat_27 rfl rfl ?_
          refine dgX3_46 C (Or.inl rfl) dX3_longestSat_28 ?_
          refine dx_iload C 4 dX3_longestSat_31 rfl ?_
          refine dx_rd C ly_5 dX3_longestSat_33 (fun x3 => ?_)
          refine dx_istore_n C [(3, .int x3), (0, .ref (z + 3)), (1, .ref (z + b1)), (2, .int s7.1), (4, .int s7.2.2)] dX3_longestSat_34 rfl (by decide) rfl ?_
          refine dx_iload C 4 dX3_longestSat_35 rfl ?_
          refine dx_istore_n C [(2, .int s7.2.2), (3, .int x3), (0, .ref (z + 3)), (1, .ref (z + b1)), (4, .int s7.2.2)] dX3_longestSat_37 rfl (by decide) rfl ?_
          refine dx_mv (lo2 := [(0, .ref (z + 3)), (1, .ref (z + b1)), (2, .int s7.2.2), (3, .int x3), (4, .int s7.2.2)]) [2, 3, 0, 1, 4] rfl ?_
          exact dx_end (fun h => h)
def f_X9_leastOf (a0 : Int32) : Option (Int32) :=
  lp (S := Int32) (T := Int32) (fun s2 => (if s2 < (31 : Int32) then (f_X9_holds a0 s2).bind fun r1 => (if r1 = 0 then some (Sum.inl (s2 + (1 : Int32))) else some (Sum.inr (s2))) else some (Sum.inr ((-1 : Int32))))) 5000000000 (0 : Int32)
set_option maxRecDepth 20000 in
set_option maxHeartbeats 4000000 in
theorem tf_X9_leastOf {G : GT} {l : Launch} {z n : Nat} (a0 : Int32) (w : Mem) (q : Int32) (hq : f_X9_leastOf a0 = some q) : Mt G l z yX9_leastOf cX9_leastOf 2 (some .int) { frames := 1, cells := 0, slots := 0, locals := 21 } [.int a0] (hp G z w) n (some (.int q)) (hp G z w) n := by
  refine mt_of (by decide +kernel) (Nat.le_of_ble_eq_true rfl) ?_
  intro p e s m below meth c C hr hlk hnm
  refine (?_ : DX p l e _ s m _ below meth c G z 2 n _ (fun v => v = q) 0 [(0, .int a0)] [] w (f_X9_leastOf a0)) q hq rfl
  unfold f_X9_leastOf
  refine dx_iconst (v := (0 : Int32)) C dX9_leastOf_0 (by decide) ?_
  refine dx_istore_n C [(1, .int (0 : Int32)), (0, .int a0)] dX9_leastOf_1 rfl (by decide) rfl ?_
  refine dx_mv (lo2 := [(0, .int a0), (1, .int (0 : Int32))]) [1, 0] rfl ?_
  refine dx_lp (fun s2 => [(0, .int a0), (1, .int s2)]) [] (fun s2 => w) (fun s2 => (?_ : DX p l e _ s m _ below meth c G z 2 n _ _ 2 [(0, .int a0), (1, .int s2)] [] w _)) 5000000000 (0 : Int32)
  refine dx_iload_n C 1 dX9_leastOf_2 rfl rfl ?_
  refine dx_bipush (v := (31 : Int32)) C dX9_leastOf_3 (by decide) ?_
  refine dx_icmp_ge C 24 dX9_leastOf_5 (by decide) ?_ ?_
  · refine dx_iconst (v := (-1 : Int32)) C dX9_leastOf_24 (by decide) ?_
    exact dx_iret1 C hr hlk dX9_leastOf_25 (fun h => h)
  · refine dx_iload_n C 0 dX9_leastOf_8 rfl rfl ?_
    refine dx_iload_n C 1 dX9_leastOf_9 rfl rfl ?_
    refine dx_callS1 C cl_X9_holds kmX9_217 (As := [.int a0, .int s2]) (rest := []) (tf_X9_holds a0 s2 w) rfl rfl (Nat.le_of_ble_eq_true rfl) ⟨Nat.le_of_ble_eq_true rfl, Nat.le_of_ble_eq_true rfl⟩ dX9_leastOf_10 (fun r1 => ?_)
    refine dx_if_eq C 18 dX9_leastOf_13 (by decide) ?_ ?_
    · refine dx_iinc (v := (s2 + (1 : Int32))) C 1 [(1, .int (s2 + (1 : Int32))), (0, .int a0)] dX9_leastOf_18 rfl rfl (by decide) rfl ?_
      refine dx_goto C 2 dX9_leastOf_21 (by decide) ?_
      refine dx_mv (lo2 := [(0, .int a0), (1, .int (s2 + (1 : Int32)))]) [1, 0] rfl ?_
      exact dx_end (fun h => h)
    · refine dx_iload_n C 1 dX9_leastOf_16 rfl rfl ?_
      exact dx_iret1 C hr hlk dX9_leastOf_17 (fun h => h)
def f_X1_hasTraveller (b0 : Nat) (a1 : Int32) (w : Mem) : Option (Int32) :=
  (if a1 < 0 then some ((0 : Int32)) else (if a1 < (w b0 3) then (if a1 < (6 : Int32) then some ((1 : Int32)) else some ((0 : Int32))) else some ((0 : Int32))))
set_option maxRecDepth 20000 in
set_option maxHeartbeats 4000000 in
theorem tf_X1_hasTraveller {G : GT} {l : Launch} {z n : Nat} (b0 : Nat) (hb0 : BrO b0) (a1 : Int32) (w : Mem) (q : Int32) (hq : f_X1_hasTraveller b0 a1 w = some q) : Mt G l z yX1_hasTraveller cX1_hasTraveller 2 (some .boolean) { frames := 0, cells := 0, slots := 0, locals := 0 } [.ref (z + b0), .int a1] (hp G z w) n (some (.int q)) (hp G z w) n := by
  refine mt_of (by decide +kernel) (Nat.le_of_ble_eq_true rfl) ?_
  intro p e s m below meth c C hr hlk hnm
  refine (?_ : DX p l e _ s m _ below meth c G z 2 n _ (fun v => v = q) 0 [(0, .ref (z + b0)), (1, .int a1)] [] w (f_X1_hasTraveller b0 a1 w)) q hq rfl
  unfold f_X1_hasTraveller
  refine dx_iload_n C 1 dX1_hasTraveller_0 rfl rfl ?_
  refine dx_if_lt C 22 dX1_hasTraveller_1 (by decide) ?_ ?_
  · refine dx_iconst (v := (0 : Int32)) C dX1_hasTraveller_22 (by decide) ?_
    exact dx_zret1 C hr hlk (by decide) dX1_hasTraveller_23 (fun h => h)
  · refine dx_iload_n C 1 dX1_hasTraveller_4 rfl rfl ?_
    refine dx_aload_n C 0 dX1_hasTraveller_5 rfl rfl ?_
    refine dgX1_21 C hb0 dX1_hasTraveller_6 ?_
    refine dx_icmp_ge C 22 dX1_hasTraveller_9 (by decide) ?_ ?_
    · refine dx_iconst (v := (0 : Int32)) C dX1_hasTraveller_22 (by decide) ?_
      exact dx_zret1 C hr hlk (by decide) dX1_hasTraveller_23 (fun h => h)
    · refine dx_iload_n C 1 dX1_hasTraveller_12 rfl rfl ?_
      refine dx_bipush (v := (6 : Int32)) C dX1_hasTraveller_13 (by decide) ?_
      refine dx_icmp_ge C 22 dX1_hasTraveller_15 (by decide) ?_ ?_
      · refine dx_iconst (v := (0 : Int32)) C dX1_hasTraveller_22 (by decide) ?_
        exact dx_zret1 C hr hlk (by decide) dX1_hasTraveller_23 (fun h => h)
      · refine dx_iconst (v := (1 : Int32)) C dX1_hasTraveller_18 (by decide) ?_
        refine dx_goto C 23 dX1_hasTraveller_19 (by decide) ?_
        exact dx_zret1 C hr hlk (by decide) dX1_hasTraveller_23 (fun h => h)
def f_X1_hasMatter (b0 : Nat) (a1 : Int32) (w : Mem) : Option (Int32) :=
  (if a1 < 0 then some ((0 : Int32)) else (if a1 < (w b0 2) then (if a1 < (8 : Int32) then some ((1 : Int32)) else some ((0 : Int32))) else some ((0 : Int32))))
set_option maxRecDepth 20000 in
set_option maxHeartbeats 4000000 in
theorem tf_X1_hasMatter {G : GT} {l : Launch} {z n : Nat} (b0 : Nat) (hb0 : BrO b0) (a1 : Int32) (w : Mem) (q : Int32) (hq : f_X1_hasMatter b0 a1 w = some q) : Mt G l z yX1_hasMatter cX1_hasMatter 2 (some .boolean) { frames := 0, cells := 0, slots := 0, locals := 0 } [.ref (z + b0), .int a1] (hp G z w) n (some (.int q)) (hp G z w) n := by
  refine mt_of (by decide +kernel) (Nat.le_of_ble_eq_true rfl) ?_
  intro p e s m below meth c C hr hlk hnm
  refine (?_ : DX p l e _ s m _ below meth c G z 2 n _ (fun v => v = q) 0 [(0, .ref (z + b0)), (1, .int a1)] [] w (f_X1_hasMatter b0 a1 w)) q hq rfl
  unfold f_X1_hasMatter
  refine dx_iload_n C 1 dX1_hasMatter_0 rfl rfl ?_
  refine dx_if_lt C 22 dX1_hasMatter_1 (by decide) ?_ ?_
  · refine dx_iconst (v := (0 : Int32)) C dX1_hasMatter_22 (by decide) ?_
    exact dx_zret1 C hr hlk (by decide) dX1_hasMatter_23 (fun h => h)
  · refine dx_iload_n C 1 dX1_hasMatter_4 rfl rfl ?_
    refine dx_aload_n C 0 dX1_hasMatter_5 rfl rfl ?_
    refine dgX1_18 C hb0 dX1_hasMatter_6 ?_
    refine dx_icmp_ge C 22 dX1_hasMatter_9 (by decide) ?_ ?_
    · refine dx_iconst (v := (0 : Int32)) C dX1_hasMatter_22 (by decide) ?_
      exact dx_zret1 C hr hlk (by decide) dX1_hasMatter_23 (fun h => h)
    · refine dx_iload_n C 1 dX1_hasMatter_12 rfl rfl ?_
      refine dx_bipush (v := (8 : Int32)) C dX1_hasMatter_13 (by decide) ?_
      refine dx_icmp_ge C 22 dX1_hasMatter_15 (by decide) ?_ ?_
      · refine dx_iconst (v := (0 : Int32)) C dX1_hasMatter_22 (by decide) ?_
        exact dx_zret1 C hr hlk (by decide) dX1_hasMatter_23 (fun h => h)
      · refine dx_iconst (v := (1 : Int32)) C dX1_hasMatter_18 (by decide) ?_
        refine dx_goto C 23 dX1_hasMatter_19 (by decide) ?_
        exact dx_zret1 C hr hlk (by decide) dX1_hasMatter_23 (fun h => h)
def f_J6_bitCount_0f7a4 (a0 : Int32) : Option (Int32) :=
  lt ((a0 - (((a0).toUInt32 >>> (((1 : Int32)).toUInt32 &&& Int32.toUInt32 31)).toInt32 &&& (1431655765 : Int32)))) fun t1 => lt (((t1 &&& (858993459 : Int32)) + (((t1).toUInt32 >>> (((2 : Int32)).toUInt32 &&& Int32.toUInt32 31)).toInt32 &&& (858993459 : Int32)))) fun t2 => lt (((t2 + ((t2).toUInt32 >>> (((4 : Int32)).toUInt32 &&& Int32.toUInt32 31)).toInt32) &&& (252645135 : Int32))) fun t3 => lt ((t3 + ((t3).toUInt32 >>> (((8 : Int32)).toUInt32 &&& Int32.toUInt32 31)).toInt32)) fun t4 => lt ((t4 + ((t4).toUInt32 >>> (((16 : Int32)).toUInt32 &&& Int32.toUInt32 31)).toInt32)) fun t5 => some ((t5 &&& (63 : Int32)))
set_option maxRecDepth 20000 in
set_option maxHeartbeats 4000000 in
theorem tf_J6_bitCount_0f7a4 {G : GT} {l : Launch} {z n : Nat} (a0 : Int32) (w : Mem) (q : Int32) (hq : f_J6_bitCount_0f7a4 a0 = some q) : Mt G l z yJ6_bitCount_0f7a4 cJ6_bitCount_0f7a4 1 (some .int) { frames := 0, cells := 0, slots := 0, locals := 0 } [.int a0] (hp G z w) n (some (.int q)) (hp G z w) n := by
  refine mt_of (by decide +kernel) (Nat.le_of_ble_eq_true rfl) ?_
  intro p e s m below meth c C hr hlk hnm
  refine (?_ : DX p l e _ s m _ below meth c G z 1 n _ (fun v => v = q) 0 [(0, .int a0)] [] w (f_J6_bitCount_0f7a4 a0)) q hq rfl
  unfold f_J6_bitCount_0f7a4
  refine dx_iload_n C 0 dJ6_bitCount_0f7a4_0 rfl rfl ?_
  refine dx_iload_n C 0 dJ6_bitCount_0f7a4_1 rfl rfl ?_
  refine dx_iconst (v := (1 : Int32)) C dJ6_bitCount_0f7a4_2 (by decide) ?_
  refine dx_iushr C dJ6_bitCount_0f7a4_3 ?_
  refine dx_ldcw C kcJ6_265 dJ6_bitCount_0f7a4_4 ?_
  refine dx_iand C dJ6_bitCount_0f7a4_7 ?_
  refine dx_isub C dJ6_bitCount_0f7a4_8 ?_
  refine dx_lt (fun t1 => ?_)
  refine dx_istore_n C [(0, .int t1)] dJ6_bitCount_0f7a4_9 rfl (by decide) rfl ?_
  refine dx_iload_n C 0 dJ6_bitCount_0f7a4_10 rfl rfl ?_
  refine dx_ldcw C kcJ6_266 dJ6_bitCount_0f7a4_11 ?_
  refine dx_iand C dJ6_bitCount_0f7a4_14 ?_
  refine dx_iload_n C 0 dJ6_bitCount_0f7a4_15 rfl rfl ?_
  refine dx_iconst (v := (2 : Int32)) C dJ6_bitCount_0f7a4_16 (by decide) ?_
  refine dx_iushr C dJ6_bitCount_0f7a4_17 ?_
  refine dx_ldcw C kcJ6_266 dJ6_bitCount_0f7a4_18 ?_
  refine dx_iand C dJ6_bitCount_0f7a4_21 ?_
  refine dx_iadd C dJ6_bitCount_0f7a4_22 ?_
  refine dx_lt (fun t2 => ?_)
  refine dx_istore_n C [(0, .int t2)] dJ6_bitCount_0f7a4_23 rfl (by decide) rfl ?_
  refine dx_iload_n C 0 dJ6_bitCount_0f7a4_24 rfl rfl ?_
  refine dx_iload_n C 0 dJ6_bitCount_0f7a4_25 rfl rfl ?_
  refine dx_iconst (v := (4 : Int32)) C dJ6_bitCount_0f7a4_26 (by decide) ?_
  refine dx_iushr C dJ6_bitCount_0f7a4_27 ?_
  refine dx_iadd C dJ6_bitCount_0f7a4_28 ?_
  refine dx_ldcw C kcJ6_267 dJ6_bitCount_0f7a4_29 ?_
  refine dx_iand C dJ6_bitCount_0f7a4_32 ?_
  refine dx_lt (fun t3 => ?_)
  refine dx_istore_n C [(0, .int t3)] dJ6_bitCount_0f7a4_33 rfl (by decide) rfl ?_
  refine dx_iload_n C 0 dJ6_bitCount_0f7a4_34 rfl rfl ?_
  refine dx_iload_n C 0 dJ6_bitCount_0f7a4_35 rfl rfl ?_
  refine dx_bipush (v := (8 : Int32)) C dJ6_bitCount_0f7a4_36 (by decide) ?_
  refine dx_iushr C dJ6_bitCount_0f7a4_38 ?_
  refine dx_iadd C dJ6_bitCount_0f7a4_39 ?_
  refine dx_lt (fun t4 => ?_)
  refine dx_istore_n C [(0, .int t4)] dJ6_bitCount_0f7a4_40 rfl (by decide) rfl ?_
  refine dx_iload_n C 0 dJ6_bitCount_0f7a4_41 rfl rfl ?_
  refine dx_iload_n C 0 dJ6_bitCount_0f7a4_42 rfl rfl ?_
  refine dx_bipush (v := (16 : Int32)) C dJ6_bitCount_0f7a4_43 (by decide) ?_
  refine dx_iushr C dJ6_bitCount_0f7a4_45 ?_
  refine dx_iadd C dJ6_bitCount_0f7a4_46 ?_
  refine dx_lt (fun t5 => ?_)
  refine dx_istore_n C [(0, .int t5)] dJ6_bitCount_0f7a4_47 rfl (by decide) rfl ?_
  refine dx_iload_n C 0 dJ6_bitCount_0f7a4_48 rfl rfl ?_
  refine dx_bipush (v := (63 : Int32)) C dJ6_bitCount_0f7a4_49 (by decide) ?_
  refine dx_iand C dJ6_bitCount_0f7a4_51 ?_
  exact dx_iret1 C hr hlk dJ6_bitCount_0f7a4_52 (fun h => h)
def f_X1_stayOf (b0 : Nat) (a1 : Int32) (a2 : Int32) (w : Mem) : Option (Int32) :=
  (f_X1_hasTraveller b0 a1 w).bind fun r1 => (if r1 = 0 then some ((0 : Int32)) else (f_X1_hasMatter b0 a2 w).bind fun r2 => (if r2 = 0 then some ((0 : Int32)) else rd 6 (w (b0 + 5)) a1 fun x3 => (f_X9_holds x3 a2).bind fun r4 => (if r4 = 0 then some ((0 : Int32)) else rd 6 (w (b0 + 3)) a1 fun x5 => (if x5 = (0 : Int32) then rd 8 (w (b0 + 1)) a2 fun x6 => rd 6 (w (b0 + 4)) a1 fun x7 => some ((if (1 : Int32) < (x6 - x7) then (x6 - x7) else (1 : Int32))) else (if x5 = (1 : Int32) then rd 8 (w (b0 + 1)) a2 fun x9 => some (x9) else (if x5 = (2 : Int32) then rd 8 (w (b0 + 1)) a2 fun x11 => rd 6 (w (b0 + 4)) a1 fun x12 => some ((if (0 : Int32) < ((x11 / (2 : Int32)) - x12) then ((x11 / (2 : Int32)) - x12) else (0 : Int32))) else (if x5 = (3 : Int32) then rd 8 (w (b0 + 1)) a2 fun x14 => rd 8 (w (b0 + 2)) a2 fun x15 => (f_J6_bitCount_0f7a4 x15).bind fun r16 => some ((x14 + ((5 : Int32) * r16))) else some ((0 : Int32)))))))))
set_option maxRecDepth 20000 in
set_option maxHeartbeats 4000000 in
theorem tf_X1_stayOf {G : GT} {l : Launch} {z n : Nat} (b0 : Nat) (hb0 : BrO b0) (a1 : Int32) (a2 : Int32) (w : Mem) (q : Int32) (hq : f_X1_stayOf b0 a1 a2 w = some q) : Mt G l z yX1_stayOf cX1_stayOf 3 (some .int) { frames := 1, cells := 0, slots := 0, locals := 21 } [.ref (z + b0), .int a1, .int a2] (hp G z w) n (some (.int q)) (hp G z w) n := by
  refine mt_of (by decide +kernel) (Nat.le_of_ble_eq_true rfl) ?_
  intro p e s m below meth c C hr hlk hnm
  refine (?_ : DX p l e _ s m _ below meth c G z 3 n _ (fun v => v = q) 0 [(0, .ref (z + b0)), (1, .int a1), (2, .int a2)] [] w (f_X1_stayOf b0 a1 a2 w)) q hq rfl
  unfold f_X1_stayOf
  refine dx_aload_n C 0 dX1_stayOf_0 rfl rfl ?_
  refine dx_iload_n C 1 dX1_stayOf_1 rfl rfl ?_
  refine dx_callV1 C cl_X1_hasTraveller kmX1_54 (ci := 0) (b := b0) (As := [.int a1]) (rest := []) rfl (hp_of (lyBr0 hb0)) (tf_X1_hasTraveller b0 hb0 a1 w) rfl rfl (Nat.le_of_ble_eq_true rfl) ⟨Nat.le_of_ble_eq_true rfl, Nat.le_of_ble_eq_true rfl⟩ dX1_stayOf_2 (fun r1 => ?_)
  refine dx_if_eq C 29 dX1_stayOf_5 (by decide) ?_ ?_
  · refine dx_iconst (v := (0 : Int32)) C dX1_stayOf_29 (by decide) ?_
    exact dx_iret1 C hr hlk dX1_stayOf_30 (fun h => h)
  · refine dx_aload_n C 0 dX1_stayOf_8 rfl rfl ?_
    refine dx_iload_n C 2 dX1_stayOf_9 rfl rfl ?_
    refine dx_callV1 C cl_X1_hasMatter kmX1_58 (ci := 0) (b := b0) (As := [.int a2]) (rest := []) rfl (hp_of (lyBr0 hb0)) (tf_X1_hasMatter b0 hb0 a2 w) rfl rfl (Nat.le_of_ble_eq_true rfl) ⟨Nat.le_of_ble_eq_true rfl, Nat.le_of_ble_eq_true rfl⟩ dX1_stayOf_10 (fun r2 => ?_)
    refine dx_if_eq C 29 dX1_stayOf_13 (by decide) ?_ ?_
    · refine dx_iconst (v := (0 : Int32)) C dX1_stayOf_29 (by decide) ?_
      exact dx_iret1 C hr hlk dX1_stayOf_30 (fun h => h)
    · refine dx_aload_n C 0 dX1_stayOf_16 rfl rfl ?_
      refine dgX1_37 C hb0 dX1_stayOf_17 ?_
      refine dx_iload_n C 1 dX1_stayOf_20 rfl rfl ?_
      refine dx_rd C (lyBr5 hb0) dX1_stayOf_21 (fun x3 => ?_)
      refine dx_iload_n C 2 dX1_stayOf_22 rfl rfl ?_
      refine dx_callSN1 C cl_X9_holds knX1_50 (As := [.int x3, .int a2]) (rest := []) (tf_X9_holds x3 a2 w) rfl rfl (Nat.le_of_ble_eq_true rfl) ⟨Nat.le_of_ble_eq_true rfl, Nat.le_of_ble_eq_true rfl⟩ dX1_stayOf_23 (fun r4 => ?_)
      refine dx_if_ne C 31 dX1_stayOf_26 (by decide) ?_ ?_
      · refine dx_aload_n C 0 dX1_stayOf_31 rfl rfl ?_
        refine dgX1_31 C hb0 dX1_stayOf_32 ?_
        refine dx_iload_n C 1 dX1_stayOf_35 rfl rfl ?_
        refine dx_rd C (lyBr3 hb0) dX1_stayOf_36 (fun x5 => ?_)
        refine dx_ite (fun hs8 => ?_) (fun hs8 => ?_)
        · refine dx_tableIn C 68 dX1_stayOf_37 (by rw [hs8]; decide) (by rw [hs8]; decide) (by rw [hs8]; rfl) (by decide) ?_
          refine dx_iconst (v := (1 : Int32)) C dX1_stayOf_68 (by decide) ?_
          refine dx_aload_n C 0 dX1_stayOf_69 rfl rfl ?_
          refine dgX1_24 C hb0 dX1_stayOf_70 ?_
          refine dx_iload_n C 2 dX1_stayOf_73 rfl rfl ?_
          refine dx_rd C (lyBr1 hb0) dX1_stayOf_74 (fun x6 => ?_)
          refine dx_aload_n C 0 dX1_stayOf_75 rfl rfl ?_
          refine dgX1_34 C hb0 dX1_stayOf_76 ?_
          refine dx_iload_n C 1 dX1_stayOf_79 rfl rfl ?_
          refine dx_rd C (lyBr4 hb0) dX1_stayOf_80 (fun x7 => ?_)
          refine dx_isub C dX1_stayOf_81 ?_
          refine dx_max C kmX1_61 kMs_max kzMath kMc_max (Nat.le_of_ble_eq_true rfl) (Nat.le_of_ble_eq_true rfl) dX1_stayOf_82 ?_
          exact dx_iret1 C hr hlk dX1_stayOf_85 (fun h => h)
        · refine dx_ite (fun hs10 => ?_) (fun hs10 => ?_)
          · refine dx_tableIn C 86 dX1_stayOf_37 (by rw [hs10]; decide) (by rw [hs10]; decide) (by rw [hs10]; rfl) (by decide) ?_
            refine dx_aload_n C 0 dX1_stayOf_86 rfl rfl ?_
            refine dgX1_24 C hb0 dX1_stayOf_87 ?_
            refine dx_iload_n C 2 dX1_stayOf_90 rfl rfl ?_
            refine dx_rd C (lyBr1 hb0) dX1_stayOf_91 (fun x9 => ?_)
            exact dx_iret1 C hr hlk dX1_stayOf_92 (fun h => h)
          · refine dx_ite (fun hs13 => ?_) (fun hs13 => ?_)
            · refine dx_tableIn C 93 dX1_stayOf_37 (by rw [hs13]; decide) (by rw [hs13]; decide) (by rw [hs13]; rfl) (by decide) ?_
              refine dx_iconst (v := (0 : Int32)) C dX1_stayOf_93 (by decide) ?_
              refine dx_aload_n C 0 dX1_stayOf_94 rfl rfl ?_
              refine dgX1_24 C hb0 dX1_stayOf_95 ?_
              refine dx_iload_n C 2 dX1_stayOf_98 rfl rfl ?_
              refine dx_rd C (lyBr1 hb0) dX1_stayOf_99 (fun x11 => ?_)
              refine dx_iconst (v := (2 : Int32)) C dX1_stayOf_100 (by decide) ?_
              refine dx_idiv C dX1_stayOf_101 (by decide) ?_
              refine dx_aload_n C 0 dX1_stayOf_102 rfl rfl ?_
              refine dgX1_34 C hb0 dX1_stayOf_103 ?_
              refine dx_iload_n C 1 dX1_stayOf_106 rfl rfl ?_
              refine dx_rd C (lyBr4 hb0) dX1_stayOf_107 (fun x12 => ?_)
              refine dx_isub C dX1_stayOf_108 ?_
              refine dx_max C kmX1_61 kMs_max kzMath kMc_max (Nat.le_of_ble_eq_true rfl) (Nat.le_of_ble_eq_true rfl) dX1_stayOf_109 ?_
              exact dx_iret1 C hr hlk dX1_stayOf_112 (fun h => h)
            · refine dx_ite (fun hs17 => ?_) (fun hs17 => ?_)
              · refine dx_tableIn C 113 dX1_stayOf_37 (by rw [hs17]; decide) (by rw [hs17]; decide) (by rw [hs17]; rfl) (by decide) ?_
                refine dx_aload_n C 0 dX1_stayOf_113 rfl rfl ?_
                refine dgX1_24 C hb0 dX1_stayOf_114 ?_
                refine dx_iload_n C 2 dX1_stayOf_117 rfl rfl ?_
                refine dx_rd C (lyBr1 hb0) dX1_stayOf_118 (fun x14 => ?_)
                refine dx_iconst (v := (5 : Int32)) C dX1_stayOf_119 (by decide) ?_
                refine dx_aload_n C 0 dX1_stayOf_120 rfl rfl ?_
                refine dgX1_28 C hb0 dX1_stayOf_121 ?_
                refine dx_iload_n C 2 dX1_stayOf_124 rfl rfl ?_
                refine dx_rd C (lyBr2 hb0) dX1_stayOf_125 (fun x15 => ?_)
                refine dx_callS1 C cl_J6_bitCount_0f7a4 kmX1_67 (As := [.int x15]) (rest := [.int (5 : Int32), .int x14]) (tf_J6_bitCount_0f7a4 x15 w) rfl rfl (Nat.le_of_ble_eq_true rfl) ⟨Nat.le_of_ble_eq_true rfl, Nat.le_of_ble_eq_true rfl⟩ dX1_stayOf_126 (fun r16 => ?_)
                refine dx_imul C dX1_stayOf_129 ?_
                refine dx_iadd C dX1_stayOf_130 ?_
                exact dx_iret1 C hr hlk dX1_stayOf_131 (fun h => h)
              · have ehs8 : (x5).toInt ≠ 0 := fun q => hs8 ((i_eq_iff _ _).mpr (q.trans (by decide)))
                have ehs10 : (x5).toInt ≠ 1 := fun q => hs10 ((i_eq_iff _ _).mpr (q.trans (by decide)))
                have ehs13 : (x5).toInt ≠ 2 := fun q => hs13 ((i_eq_iff _ _).mpr (q.trans (by decide)))
                have ehs17 : (x5).toInt ≠ 3 := fun q => hs17 ((i_eq_iff _ _).mpr (q.trans (by decide)))
                refine dx_tableOut C 132 dX1_stayOf_37 (by omega) (by decide) ?_
                refine dx_iconst (v := (0 : Int32)) C dX1_stayOf_132 (by decide) ?_
                exact dx_iret1 C hr hlk dX1_stayOf_133 (fun h => h)
      · refine dx_iconst (v := (0 : Int32)) C dX1_stayOf_29 (by decide) ?_
        exact dx_iret1 C hr hlk dX1_stayOf_30 (fun h => h)
def f_X8_weigh (a1 : Int32) (a2 : Int32) (w : Mem) : Option (Mem) :=
  (if a2 = 0 then some (w) else rd 256 (w 100) a1 fun x1 => (if x1 = 0 then some (w) else rd 256 (w 100) a1 fun x2 => (if x2 < (w 99 1) then some (w) else (f_J6_bitCount_0f7a4 a1).bind fun r3 => (f_X9_leastOf a2).bind fun r4 => rd 256 (w 100) a1 fun x5 => (if (w 99 1) < x5 then rd 256 (w 100) a1 fun x6 => pw 99 1 x6 w fun w7 => pw 99 2 r4 w7 fun w8 => pw 99 3 r3 w8 fun w9 => some (w9) else (if r3 < (w 99 3) then rd 256 (w 100) a1 fun x10 => pw 99 1 x10 w fun w11 => pw 99 2 r4 w11 fun w12 => pw 99 3 r3 w12 fun w13 => some (w13) else (if r3 = (w 99 3) then (if r4 < (w 99 2) then rd 256 (w 100) a1 fun x14 => pw 99 1 x14 w fun w15 => pw 99 2 r4 w15 fun w16 => pw 99 3 r3 w16 fun w17 => some (w17) else some (w)) else some (w)))))))
set_option maxRecDepth 20000 in
set_option maxHeartbeats 4000000 in
theorem tf_X8_weigh {G : GT} {l : Launch} {z n : Nat} (a1 : Int32) (a2 : Int32) (w : Mem) (q : Mem) (hq : f_X8_weigh a1 a2 w = some q) : Mt G l z yX8_weigh cX8_weigh 5 none { frames := 2, cells := 0, slots := 0, locals := 42 } [.ref (z + 99), .int a1, .int a2] (hp G z w) n none (hp G z q) n := by
  refine mt_of (by decide +kernel) (Nat.le_of_ble_eq_true rfl) ?_
  intro p e s m below meth c C hr hlk hnm
  refine (?_ : DX p l e _ s m _ below meth c G z 5 n _ (fun v => v = q) 0 [(0, .ref (z + 99)), (1, .int a1), (2, .int a2)] [] w (f_X8_weigh a1 a2 w)) q hq rfl
  unfold f_X8_weigh
  refine dx_iload_n C 2 dX8_weigh_0 rfl rfl ?_
  refine dx_if_eq C 26 dX8_weigh_1 (by decide) ?_ ?_
  · exact dx_vret C hr hlk dX8_weigh_26 (fun h => h)
  · refine dx_aload_n C 0 dX8_weigh_4 rfl rfl ?_
    refine dgX8_9 C dX8_weigh_5 ?_
    refine dx_iload_n C 1 dX8_weigh_8 rfl rfl ?_
    refine dx_rd C ly_100 dX8_weigh_9 (fun x1 => ?_)
    refine dx_if_eq C 26 dX8_weigh_10 (by decide) ?_ ?_
    · exact dx_vret C hr hlk dX8_weigh_26 (fun h => h)
    · refine dx_aload_n C 0 dX8_weigh_13 rfl rfl ?_
      refine dgX8_9 C dX8_weigh_14 ?_
      refine dx_iload_n C 1 dX8_weigh_17 rfl rfl ?_
      refine dx_rd C ly_100 dX8_weigh_18 (fun x2 => ?_)
      refine dx_aload_n C 0 dX8_weigh_19 rfl rfl ?_
      refine dgX8_15 C dX8_weigh_20 ?_
      refine dx_icmp_ge C 27 dX8_weigh_23 (by decide) ?_ ?_
      · refine dx_iload_n C 1 dX8_weigh_27 rfl rfl ?_
        refine dx_callS1 C cl_J6_bitCount_0f7a4 kmX8_48 (As := [.int a1]) (rest := []) (tf_J6_bitCount_0f7a4 a1 w) rfl rfl (Nat.le_of_ble_eq_true rfl) ⟨Nat.le_of_ble_eq_true rfl, Nat.le_of_ble_eq_true rfl⟩ dX8_weigh_28 (fun r3 => ?_)
        refine dx_istore_n C [(3, .int r3), (0, .ref (z + 99)), (1, .int a1), (2, .int a2)] dX8_weigh_31 rfl (by decide) rfl ?_
        refine dx_iload_n C 3 dX8_weigh_32 rfl rfl ?_
        refine dx_callSN1 C cl_X9_leastOf knX8_34 (As := [.int a2]) (rest := []) (tf_X9_leastOf a2 w) rfl rfl (Nat.le_of_ble_eq_true rfl) ⟨Nat.le_of_ble_eq_true rfl, Nat.le_of_ble_eq_true rfl⟩ dX8_weigh_33 (fun r4 => ?_)
        refine dx_istore C [(4, .int r4), (3, .int r3), (0, .ref (z + 99)), (1, .int a1), (2, .int a2)] dX8_weigh_36 (by decide) rfl ?_
        refine dx_aload_n C 2 dX8_weigh_38 rfl rfl ?_
        refine dgX8_9 C dX8_weigh_39 ?_
        refine dx_iload_n C 3 dX8_weigh_42 rfl rfl ?_
        refine dx_rd C ly_100 dX8_weigh_43 (fun x5 => ?_)
        refine dx_aload_n C 2 dX8_weigh_44 rfl rfl ?_
        refine dgX8_15 C dX8_weigh_45 ?_
        refine dx_icmp_gt C 76 dX8_weigh_48 (by decide) ?_ ?_
        · refine dx_aload_n C 2 dX8_weigh_76 rfl rfl ?_
          refine dx_aload_n C 2 dX8_weigh_77 rfl rfl ?_
          refine dgX8_9 C dX8_weigh_78 ?_
          refine dx_iload_n C 3 dX8_weigh_81 rfl rfl ?_
          refine dx_rd C ly_100 dX8_weigh_82 (fun x6 => ?_)
          refine dpX8_15 C dX8_weigh_83 (fun w7 => ?_)
          refine dx_aload_n C 2 dX8_weigh_86 rfl rfl ?_
          refine dx_iload C 0 dX8_weigh_87 rfl ?_
          refine dpX8_19 C dX8_weigh_89 (fun w8 => ?_)
          refine dx_aload_n C 2 dX8_weigh_92 rfl rfl ?_
          refine dx_iload_n C 1 dX8_weigh_93 rfl rfl ?_
          refine dpX8_22 C dX8_weigh_94 (fun w9 => ?_)
          exact dx_vret C hr hlk dX8_weigh_97 (fun h => h)
        · refine dx_iload_n C 1 dX8_weigh_51 rfl rfl ?_
          refine dx_aload_n C 2 dX8_weigh_52 rfl rfl ?_
          refine dgX8_22 C dX8_weigh_53 ?_
          refine dx_icmp_lt C 76 dX8_weigh_56 (by decide) ?_ ?_
          · refine dx_aload_n C 2 dX8_weigh_76 rfl rfl ?_
            refine dx_aload_n C 2 dX8_weigh_77 rfl rfl ?_
            refine dgX8_9 C dX8_weigh_78 ?_
            refine dx_iload_n C 3 dX8_weigh_81 rfl rfl ?_
            refine dx_rd C ly_100 dX8_weigh_82 (fun x10 => ?_)
            refine dpX8_15 C dX8_weigh_83 (fun w11 => ?_)
            refine dx_aload_n C 2 dX8_weigh_86 rfl rfl ?_
            refine dx_iload C 0 dX8_weigh_87 rfl ?_
            refine dpX8_19 C dX8_weigh_89 (fun w12 => ?_)
            refine dx_aload_n C 2 dX8_weigh_92 rfl rfl ?_
            refine dx_iload_n C 1 dX8_weigh_93 rfl rfl ?_
            refine dpX8_22 C dX8_weigh_94 (fun w13 => ?_)
            exact dx_vret C hr hlk dX8_weigh_97 (fun h => h)
          · refine dx_iload_n C 1 dX8_weigh_59 rfl rfl ?_
            refine dx_aload_n C 2 dX8_weigh_60 rfl rfl ?_
            refine dgX8_22 C dX8_weigh_61 ?_
            refine dx_icmp_ne C 97 dX8_weigh_64 (by decide) ?_ ?_
            · exact dx_vret C hr hlk dX8_weigh_97 (fun h => h)
            · refine dx_iload C 0 dX8_weigh_67 rfl ?_
              refine dx_aload_n C 2 dX8_weigh_69 rfl rfl ?_
              refine dgX8_19 C dX8_weigh_70 ?_
              refine dx_icmp_ge C 97 dX8_weigh_73 (by decide) ?_ ?_
              · exact dx_vret C hr hlk dX8_weigh_97 (fun h => h)
              · refine dx_aload_n C 2 dX8_weigh_76 rfl rfl ?_
                refine dx_aload_n C 2 dX8_weigh_77 rfl rfl ?_
                refine dgX8_9 C dX8_weigh_78 ?_
                refine dx_iload_n C 3 dX8_weigh_81 rfl rfl ?_
                refine dx_rd C ly_100 dX8_weigh_82 (fun x14 => ?_)
                refine dpX8_15 C dX8_weigh_83 (fun w15 => ?_)
                refine dx_aload_n C 2 dX8_weigh_86 rfl rfl ?_
                refine dx_iload C 0 dX8_weigh_87 rfl ?_
                refine dpX8_19 C dX8_weigh_89 (fun w16 => ?_)
                refine dx_aload_n C 2 dX8_weigh_92 rfl rfl ?_
                refine dx_iload_n C 1 dX8_weigh_93 rfl rfl ?_
                refine dpX8_22 C dX8_weigh_94 (fun w17 => ?_)
                exact dx_vret C hr hlk dX8_weigh_97 (fun h => h)
      · exact dx_vret C hr hlk dX8_weigh_26 (fun h => h)
def f_X8_tryWith (b1 : Nat) (a2 : Int32) (a3 : Int32) (w : Mem) : Option (Mem) :=
  pw 99 1 (0 : Int32) w fun w1 => pw 99 2 (-1 : Int32) w1 fun w2 => pw 99 3 (0 : Int32) w2 fun w3 => (f_X9_setOfFirst (w3 b1 2)).bind fun r4 => (lp (S := (Int32 × Mem)) (T := Mem) (fun s27 => (if r4 < s27.1 then some (Sum.inr s27.2) else ((if (s27.1 &&& (a3 ^^^ (-1 : Int32))) = 0 then rd 256 (s27.2 100) (s27.1 &&& (s27.1 - (1 : Int32))) fun x6 => (f_X9_leastOf s27.1).bind fun r7 => (f_X1_stayOf b1 a2 r7 s27.2).bind fun r8 => wr 256 100 s27.1 (x6 + r8) s27.2 fun w9 => rd 256 (w9 (b1 + 6)) s27.1 fun x10 => (f_X8_weigh s27.1 x10 w9).bind fun w11 => some (w11) else some (s27.2)) : Option Mem).bind fun v5 => some (Sum.inl ((s27.1 + (1 : Int32)), v5)))) 5000000000 ((1 : Int32), w3)).bind fun v12 => some (v12)
set_option maxRecDepth 20000 in
set_option maxHeartbeats 4000000 in
theorem tf_X8_tryWith {G : GT} {l : Launch} {z n : Nat} (b1 : Nat) (hb1 : BrO b1) (a2 : Int32) (a3 : Int32) (w : Mem) (q : Mem) (hq : f_X8_tryWith b1 a2 a3 w = some q) : Mt G l z yX8_tryWith cX8_tryWith 6 none { frames := 3, cells := 0, slots := 0, locals := 66 } [.ref (z + 99), .ref (z + b1), .int a2, .int a3] (hp G z w) n none (hp G z q) n := by
  refine mt_of (by decide +kernel) (Nat.le_of_ble_eq_true rfl) ?_
  intro p e s m below meth c C hr hlk hnm
  refine (?_ : DX p l e _ s m _ below meth c G z 6 n _ (fun v => v = q) 0 [(0, .ref (z + 99)), (1, .ref (z + b1)), (2, .int a2), (3, .int a3)] [] w (f_X8_tryWith b1 a2 a3 w)) q hq rfl
  unfold f_X8_tryWith
  refine dx_aload_n C 0 dX8_tryWith_0 rfl rfl ?_
  refine dx_iconst (v := (0 : Int32)) C dX8_tryWith_1 (by decide) ?_
  refine dpX8_15 C dX8_tryWith_2 (fun w1 => ?_)
  refine dx_aload_n C 0 dX8_tryWith_5 rfl rfl ?_
  refine dx_iconst (v := (-1 : Int32)) C dX8_tryWith_6 (by decide) ?_
  refine dpX8_19 C dX8_tryWith_7 (fun w2 => ?_)
  refine dx_aload_n C 0 dX8_tryWith_10 rfl rfl ?_
  refine dx_iconst (v := (0 : Int32)) C dX8_tryWith_11 (by decide) ?_
  refine dpX8_22 C dX8_tryWith_12 (fun w3 => ?_)
  refine dx_aload_n C 1 dX8_tryWith_15 rfl rfl ?_
  refine dgX8_25 C hb1 dX8_tryWith_16 ?_
  refine dx_callSN1 C cl_X9_setOfFirst knX8_30 (As := [.int (w3 b1 2)]) (rest := []) (tf_X9_setOfFirst (w3 b1 2) w3) rfl rfl (Nat.le_of_ble_eq_true rfl) ⟨Nat.le_of_ble_eq_true rfl, Nat.le_of_ble_eq_true rfl⟩ dX8_tryWith_19 (fun r4 => ?_)
  refine dx_istore C [(4, .int r4), (0, .ref (z + 99)), (1, .ref (z + b1)), (2, .int a2), (3, .int a3)] dX8_tryWith_22 (by decide) rfl ?_
  refine dx_iconst (v := (1 : Int32)) C dX8_tryWith_24 (by decide) ?_
  refine dx_istore C [(5, .int (1 : Int32)), (4, .int r4), (0, .ref (z + 99)), (1, .ref (z + b1)), (2, .int a2), (3, .int a3)] dX8_tryWith_25 (by decide) rfl ?_
  refine dx_mv (lo2 := [(0, .ref (z + 99)), (1, .ref (z + b1)), (2, .int a2), (3, .int a3), (4, .int r4), (5, .int (1 : Int32))]) [2, 3, 4, 5, 1, 0] rfl ?_
  refine dx_bind 92 (fun v12 => []) (fun v12 => []) (fun v12 => v12) (fun v12 => (?_ : DX p l e _ s m _ below meth c G z 6 n _ _ 92 [] [] v12 _)) ?_
  · exact dx_vret C hr hlk dX8_tryWith_92 (fun h => h)
  · refine dx_lp (fun s27 => [(0, .ref (z + 99)), (1, .ref (z + b1)), (2, .int a2), (3, .int a3), (4, .int r4), (5, .int s27.1)]) [] (fun s27 => s27.2) (fun s27 => (?_ : DX p l e _ s m _ below meth c G z 6 n _ _ 27 [(0, .ref (z + 99)), (1, .ref (z + b1)), (2, .int a2), (3, .int a3), (4, .int r4), (5, .int s27.1)] [] s27.2 _)) 5000000000 ((1 : Int32), w3)
    refine dx_iload C 5 dX8_tryWith_27 rfl ?_
    refine dx_iload C 4 dX8_tryWith_29 rfl ?_
    refine dx_icmp_gt C 92 dX8_tryWith_31 (by decide) ?_ ?_
    · refine dx_mv (lo2 := []) [] rfl ?_
      exact dx_end (fun h => h)
    · refine dx_iload C 5 dX8_tryWith_34 rfl ?_
      refine dx_iload_n C 3 dX8_tryWith_36 rfl rfl ?_
      refine dx_iconst (v := (-1 : Int32)) C dX8_tryWith_37 (by decide) ?_
      refine dx_ixor C dX8_tryWith_38 ?_
      refine dx_iand C dX8_tryWith_39 ?_
      refine dx_bind 86 (fun v5 => [(0, .ref (z + 99)), (1, .ref (z + b1)), (2, .int a2), (3, .int a3), (4, .int r4), (5, .int s27.1)]) (fun v5 => []) (fun v5 => v5) (fun v5 => (?_ : DX p l e _ s m _ below meth c G z 6 n _ _ 86 [(0, .ref (z + 99)), (1, .ref (z + b1)), (2, .int a2), (3, .int a3), (4, .int r4), (5, .int s27.1)] [] v5 _)) ?_
      · refine dx_iinc (v := (s27.1 + (1 : Int32))) C 5 [(5, .int (s27.1 + (1 : Int32))), (0, .ref (z + 99)), (1, .ref (z + b1)), (2, .int a2), (3, .int a3), (4, .int r4)] dX8_tryWith_86 rfl rfl (by decide) rfl ?_
        refine dx_goto C 27 dX8_tryWith_89 (by decide) ?_
        refine dx_mv (lo2 := [(0, .ref (z + 99)), (1, .ref (z + b1)), (2, .int a2), (3, .int a3), (4, .int r4), (5, .int (s27.1 + (1 : Int32)))]) [1, 2, 3, 4, 5, 0] rfl ?_
        exact dx_end (fun h => h)
      · refine dx_if_ne C 86 dX8_tryWith_40 (by decide) ?_ ?_
        · exact dx_end (fun h => h)
        · refine dx_aload_n C 0 dX8_tryWith_43 rfl rfl ?_
          refine dgX8_9 C dX8_tryWith_44 ?_
          refine dx_iload C 5 dX8_tryWith_47 rfl ?_
          refine dx_aload_n C 0 dX8_tryWith_49 rfl rfl ?_
          refine dgX8_9 C dX8_tryWith_50 ?_
          refine dx_iload C 5 dX8_tryWith_53 rfl ?_
          refine dx_iload C 5 dX8_tryWith_55 rfl ?_
          refine dx_iconst (v := (1 : Int32)) C dX8_tryWith_57 (by decide) ?_
          refine dx_isub C dX8_tryWith_58 ?_
          refine dx_iand C dX8_tryWith_59 ?_
          refine dx_rd C ly_100 dX8_tryWith_60 (fun x6 => ?_)
          refine dx_aload_n C 1 dX8_tryWith_61 rfl rfl ?_
          refine dx_iload_n C 2 dX8_tryWith_62 rfl rfl ?_
          refine dx_iload C 5 dX8_tryWith_63 rfl ?_
          refine dx_callSN1 C cl_X9_leastOf knX8_34 (As := [.int s27.1]) (rest := [.int a2, .ref (z + b1), .int x6, .int s27.1, .ref (z + 100)]) (tf_X9_leastOf s27.1 s27.2) rfl rfl (Nat.le_of_ble_eq_true rfl) ⟨Nat.le_of_ble_eq_true rfl, Nat.le_of_ble_eq_true rfl⟩ dX8_tryWith_65 (fun r7 => ?_)
          refine dx_callV1 C cl_X1_stayOf kmX8_37 (ci := 0) (b := b1) (As := [.int a2, .int r7]) (rest := [.int x6, .int s27.1, .ref (z + 100)]) rfl (hp_of (lyBr0 hb1)) (tf_X1_stayOf b1 hb1 a2 r7 s27.2) rfl rfl (Nat.le_of_ble_eq_true rfl) ⟨Nat.le_of_ble_eq_true rfl, Nat.le_of_ble_eq_true rfl⟩ dX8_tryWith_68 (fun r8 => ?_)
          refine dx_iadd C dX8_tryWith_71 ?_
          refine dx_wr C ly_100 dX8_tryWith_72 (fun w9 => ?_)
          refine dx_aload_n C 0 dX8_tryWith_73 rfl rfl ?_
          refine dx_iload C 5 dX8_tryWith_74 rfl ?_
          refine dx_aload_n C 1 dX8_tryWith_76 rfl rfl ?_
          refine dgX8_41 C hb1 dX8_tryWith_77 ?_
          refine dx_iload C 5 dX8_tryWith_80 rfl ?_
          refine dx_rd C (lyBr6 hb1) dX8_tryWith_82 (fun x10 => ?_)
          refine dx_callV3 C cl_X8_weigh kmX8_44 (ci := 7) (b := 99) (As := [.int s27.1, .int x10]) (rest := []) rfl (hp_of ly_99) (tf_X8_weigh s27.1 x10 w9) rfl rfl (Nat.le_of_ble_eq_true rfl) ⟨Nat.le_of_ble_eq_true rfl, Nat.le_of_ble_eq_true rfl⟩ dX8_tryWith_83 (fun w11 => ?_)
          exact dx_end (fun h => h)
def f_X1_payFor (b0 : Nat) (a1 : Int32) (w : Mem) : Option (Int32) :=
  (if (w b0 0) < (1 : Int32) then some ((0 : Int32)) else nz ((w b0 0)) (some (((a1 / (w b0 0)) * (w b0 1)))))
set_option maxRecDepth 20000 in
set_option maxHeartbeats 4000000 in
theorem tf_X1_payFor {G : GT} {l : Launch} {z n : Nat} (b0 : Nat) (hb0 : BrO b0) (a1 : Int32) (w : Mem) (q : Int32) (hq : f_X1_payFor b0 a1 w = some q) : Mt G l z yX1_payFor cX1_payFor 2 (some .int) { frames := 0, cells := 0, slots := 0, locals := 0 } [.ref (z + b0), .int a1] (hp G z w) n (some (.int q)) (hp G z w) n := by
  refine mt_of (by decide +kernel) (Nat.le_of_ble_eq_true rfl) ?_
  intro p e s m below meth c C hr hlk hnm
  refine (?_ : DX p l e _ s m _ below meth c G z 2 n _ (fun v => v = q) 0 [(0, .ref (z + b0)), (1, .int a1)] [] w (f_X1_payFor b0 a1 w)) q hq rfl
  unfold f_X1_payFor
  refine dx_aload_n C 0 dX1_payFor_0 rfl rfl ?_
  refine dgX1_9 C hb0 dX1_payFor_1 ?_
  refine dx_iconst (v := (1 : Int32)) C dX1_payFor_4 (by decide) ?_
  refine dx_icmp_ge C 12 dX1_payFor_5 (by decide) ?_ ?_
  · refine dx_iload_n C 1 dX1_payFor_12 rfl rfl ?_
    refine dx_aload_n C 0 dX1_payFor_13 rfl rfl ?_
    refine dgX1_9 C hb0 dX1_payFor_14 ?_
    refine dx_nz (fun hn1 => ?_)
    refine dx_idiv C dX1_payFor_17 hn1 ?_
    refine dx_aload_n C 0 dX1_payFor_18 rfl rfl ?_
    refine dgX1_15 C hb0 dX1_payFor_19 ?_
    refine dx_imul C dX1_payFor_22 ?_
    exact dx_iret1 C hr hlk dX1_payFor_23 (fun h => h)
  · refine dx_iconst (v := (0 : Int32)) C dX1_payFor_8 (by decide) ?_
    refine dx_goto C 23 dX1_payFor_9 (by decide) ?_
    exact dx_iret1 C hr hlk dX1_payFor_23 (fun h => h)
def f_X8_worthOfAll (b1 : Nat) (a2 : Int32) (w : Mem) : Option (Int32 × Mem) :=
  (lp (S := (Int32 × Int32 × Mem)) (T := (Int32 × Mem)) (fun s5 => (if s5.2.1 < (s5.2.2 b1 3) then (f_X8_tryWith b1 s5.2.1 a2 s5.2.2).bind fun w1 => (f_X1_payFor b1 (w1 99 1) w1).bind fun r2 => some (Sum.inl ((s5.1 + r2), (s5.2.1 + (1 : Int32)), w1)) else some (Sum.inr (s5.1, s5.2.2)))) 5000000000 ((0 : Int32), (0 : Int32), w)).bind fun v3 => some ((v3.1, v3.2))
set_option maxRecDepth 20000 in
set_option maxHeartbeats 4000000 in
theorem tf_X8_worthOfAll {G : GT} {l : Launch} {z n : Nat} (b1 : Nat) (hb1 : BrO b1) (a2 : Int32) (w : Mem) (q : Int32 × Mem) (hq : f_X8_worthOfAll b1 a2 w = some q) : Mt G l z yX8_worthOfAll cX8_worthOfAll 5 (some .int) { frames := 4, cells := 0, slots := 0, locals := 91 } [.ref (z + 99), .ref (z + b1), .int a2] (hp G z w) n (some (.int q.1)) (hp G z q.2) n := by
  refine mt_of (by decide +kernel) (Nat.le_of_ble_eq_true rfl) ?_
  intro p e s m below meth c C hr hlk hnm
  refine (?_ : DX p l e _ s m _ below meth c G z 5 n _ (fun v => v = q) 0 [(0, .ref (z + 99)), (1, .ref (z + b1)), (2, .int a2)] [] w (f_X8_worthOfAll b1 a2 w)) q hq rfl
  unfold f_X8_worthOfAll
  refine dx_iconst (v := (0 : Int32)) C dX8_worthOfAll_0 (by decide) ?_
  refine dx_istore_n C [(3, .int (0 : Int32)), (0, .ref (z + 99)), (1, .ref (z + b1)), (2, .int a2)] dX8_worthOfAll_1 rfl (by decide) rfl ?_
  refine dx_iconst (v := (0 : Int32)) C dX8_worthOfAll_2 (by decide) ?_
  refine dx_istore C [(4, .int (0 : Int32)), (3, .int (0 : Int32)), (0, .ref (z + 99)), (1, .ref (z + b1)), (2, .int a2)] dX8_worthOfAll_3 (by decide) rfl ?_
  refine dx_mv (lo2 := [(0, .ref (z + 99)), (1, .ref (z + b1)), (2, .int a2), (3, .int (0 : Int32)), (4, .int (0 : Int32))]) [2, 3, 4, 1, 0] rfl ?_
  refine dx_bind 39 (fun v3 => [(3, .int v3.1)]) (fun v3 => []) (fun v3 => v3.2) (fun v3 => (?_ : DX p l e _ s m _ below meth c G z 5 n _ _ 39 [(3, .int v3.1)] [] v3.2 _)) ?_
  · refine dx_iload_n C 0 dX8_worthOfAll_39 rfl rfl ?_
    exact dx_iret2 C hr hlk dX8_worthOfAll_40 (fun h => h)
  · refine dx_lp (fun s5 => [(0, .ref (z + 99)), (1, .ref (z + b1)), (2, .int a2), (3, .int s5.1), (4, .int s5.2.1)]) [] (fun s5 => s5.2.2) (fun s5 => (?_ : DX p l e _ s m _ below meth c G z 5 n _ _ 5 [(0, .ref (z + 99)), (1, .ref (z + b1)), (2, .int a2), (3, .int s5.1), (4, .int s5.2.1)] [] s5.2.2 _)) 5000000000 ((0 : Int32), (0 : Int32), w)
    refine dx_iload C 4 dX8_worthOfAll_5 rfl ?_
    refine dx_aload_n C 1 dX8_worthOfAll_7 rfl rfl ?_
    refine dgX8_53 C hb1 dX8_worthOfAll_8 ?_
    refine dx_icmp_ge C 39 dX8_worthOfAll_11 (by decide) ?_ ?_
    · refine dx_mv (lo2 := [(3, .int s5.1)]) [3] rfl ?_
      exact dx_end (fun h => h)
    · refine dx_aload_n C 0 dX8_worthOfAll_14 rfl rfl ?_
      refine dx_aload_n C 1 dX8_worthOfAll_15 rfl rfl ?_
      refine dx_iload C 4 dX8_worthOfAll_16 rfl ?_
      refine dx_iload_n C 2 dX8_worthOfAll_18 rfl rfl ?_
      refine dx_callV3 C cl_X8_tryWith kmX8_56 (ci := 7) (b := 99) (As := [.ref (z + b1), .int s5.2.1, .int a2]) (rest := []) rfl (hp_of ly_99) (tf_X8_tryWith b1 hb1 s5.2.1 a2 s5.2.2) rfl rfl (Nat.le_of_ble_eq_true rfl) ⟨Nat.le_of_ble_eq_true rfl, Nat.le_of_ble_eq_true rfl⟩ dX8_worthOfAll_19 (fun w1 => ?_)
      refine dx_iload_n C 3 dX8_worthOfAll_22 rfl rfl ?_
      refine dx_aload_n C 1 dX8_worthOfAll_23 rfl rfl ?_
      refine dx_aload_n C 0 dX8_worthOfAll_24 rfl rfl ?_
      refine dgX8_15 C dX8_worthOfAll_25 ?_
      refine dx_callV1 C cl_X1_payFor kmX8_60 (ci := 0) (b := b1) (As := [.int (w1 99 1)]) (rest := [.int s5.1]) rfl (hp_of (lyBr0 hb1)) (tf_X1_payFor b1 hb1 (w1 99 1) w1) rfl rfl (Nat.le_of_ble_eq_true rfl) ⟨Nat.le_of_ble_eq_true rfl, Nat.le_of_ble_eq_true rfl⟩ dX8_worthOfAll_28 (fun r2 => ?_)
      refine dx_iadd C dX8_worthOfAll_31 ?_
      refine dx_istore_n C [(3, .int (s5.1 + r2)), (0, .ref (z + 99)), (1, .ref (z + b1)), (2, .int a2), (4, .int s5.2.1)] dX8_worthOfAll_32 rfl (by decide) rfl ?_
      refine dx_iinc (v := (s5.2.1 + (1 : Int32))) C 4 [(4, .int (s5.2.1 + (1 : Int32))), (3, .int (s5.1 + r2)), (0, .ref (z + 99)), (1, .ref (z + b1)), (2, .int a2)] dX8_worthOfAll_33 rfl rfl (by decide) rfl ?_
      refine dx_goto C 5 dX8_worthOfAll_36 (by decide) ?_
      refine dx_mv (lo2 := [(0, .ref (z + 99)), (1, .ref (z + b1)), (2, .int a2), (3, .int (s5.1 + r2)), (4, .int (s5.2.1 + (1 : Int32)))]) [2, 3, 4, 1, 0] rfl ?_
      exact dx_end (fun h => h)
def f_X8_bestToLearn (b1 : Nat) (a2 : Int32) (w : Mem) : Option (Int32 × Mem) :=
  (lp (S := (Int32 × Int32 × Int32 × Mem)) (T := (Int32 × Mem)) (fun s8 => (if s8.2.2.1 < (s8.2.2.2 b1 2) then (f_X9_holds a2 s8.2.2.1).bind fun r1 => ((if r1 = 0 then (f_X8_worthOfAll b1 (a2 ||| ((1 : Int32) <<< (s8.2.2.1 &&& 31))) s8.2.2.2).bind fun q4 => some ((q4.1, q4.2)) else some (((-1 : Int32), s8.2.2.2))) : Option (Int32 × Mem)).bind fun v2 => ((if s8.2.1 < v2.1 then some ((s8.2.2.1, v2.1)) else some ((s8.1, s8.2.1))) : Option (Int32 × Int32)).bind fun v3 => some (Sum.inl (v3.1, v3.2, (s8.2.2.1 + (1 : Int32)), v2.2)) else some (Sum.inr (s8.1, s8.2.2.2)))) 5000000000 ((-1 : Int32), (-1 : Int32), (0 : Int32), w)).bind fun v5 => some ((v5.1, v5.2))
set_option maxRecDepth 20000 in
set_option maxHeartbeats 4000000 in
theorem tf_X8_bestToLearn {G : GT} {l : Launch} {z n : Nat} (b1 : Nat) (hb1 : BrO b1) (a2 : Int32) (w : Mem) (q : Int32 × Mem) (hq : f_X8_bestToLearn b1 a2 w = some q) : Mt G l z yX8_bestToLearn cX8_bestToLearn 7 (some .int) { frames := 5, cells := 0, slots := 0, locals := 115 } [.ref (z + 99), .ref (z + b1), .int a2] (hp G z w) n (some (.int q.1)) (hp G z q.2) n := by
  refine mt_of (by decide +kernel) (Nat.le_of_ble_eq_true rfl) ?_
  intro p e s m below meth c C hr hlk hnm
  refine (?_ : DX p l e _ s m _ below meth c G z 7 n _ (fun v => v = q) 0 [(0, .ref (z + 99)), (1, .ref (z + b1)), (2, .int a2)] [] w (f_X8_bestToLearn b1 a2 w)) q hq rfl
  unfold f_X8_bestToLearn
  refine dx_iconst (v := (-1 : Int32)) C dX8_bestToLearn_0 (by decide) ?_
  refine dx_istore_n C [(3, .int (-1 : Int32)), (0, .ref (z + 99)), (1, .ref (z + b1)), (2, .int a2)] dX8_bestToLearn_1 rfl (by decide) rfl ?_
  refine dx_iconst (v := (-1 : Int32)) C dX8_bestToLearn_2 (by decide) ?_
  refine dx_istore C [(4, .int (-1 : Int32)), (3, .int (-1 : Int32)), (0, .ref (z + 99)), (1, .ref (z + b1)), (2, .int a2)] dX8_bestToLearn_3 (by decide) rfl ?_
  refine dx_iconst (v := (0 : Int32)) C dX8_bestToLearn_5 (by decide) ?_
  refine dx_istore C [(5, .int (0 : Int32)), (4, .int (-1 : Int32)), (3, .int (-1 : Int32)), (0, .ref (z + 99)), (1, .ref (z + b1)), (2, .int a2)] dX8_bestToLearn_6 (by decide) rfl ?_
  refine dx_mv (lo2 := [(0, .ref (z + 99)), (1, .ref (z + b1)), (2, .int a2), (3, .int (-1 : Int32)), (4, .int (-1 : Int32)), (5, .int (0 : Int32))]) [3, 4, 5, 2, 1, 0] rfl ?_
  refine dx_bind 63 (fun v5 => [(3, .int v5.1)]) (fun v5 => []) (fun v5 => v5.2) (fun v5 => (?_ : DX p l e _ s m _ below meth c G z 7 n _ _ 63 [(3, .int v5.1)] [] v5.2 _)) ?_
  · refine dx_iload_n C 0 dX8_bestToLearn_63 rfl rfl ?_
    exact dx_iret2 C hr hlk dX8_bestToLearn_64 (fun h => h)
  · refine dx_lp (fun s8 => [(0, .ref (z + 99)), (1, .ref (z + b1)), (2, .int a2), (3, .int s8.1), (4, .int s8.2.1), (5, .int s8.2.2.1)]) [] (fun s8 => s8.2.2.2) (fun s8 => (?_ : DX p l e _ s m _ below meth c G z 7 n _ _ 8 [(0, .ref (z + 99)), (1, .ref (z + b1)), (2, .int a2), (3, .int s8.1), (4, .int s8.2.1), (5, .int s8.2.2.1)] [] s8.2.2.2 _)) 5000000000 ((-1 : Int32), (-1 : Int32), (0 : Int32), w)
    refine dx_iload C 5 dX8_bestToLearn_8 rfl ?_
    refine dx_aload_n C 1 dX8_bestToLearn_10 rfl rfl ?_
    refine dgX8_25 C hb1 dX8_bestToLearn_11 ?_
    refine dx_icmp_ge C 63 dX8_bestToLearn_14 (by decide) ?_ ?_
    · refine dx_mv (lo2 := [(3, .int s8.1)]) [3] rfl ?_
      exact dx_end (fun h => h)
    · refine dx_iload_n C 2 dX8_bestToLearn_17 rfl rfl ?_
      refine dx_iload C 5 dX8_bestToLearn_18 rfl ?_
      refine dx_callSN1 C cl_X9_holds knX8_63 (As := [.int a2, .int s8.2.2.1]) (rest := []) (tf_X9_holds a2 s8.2.2.1 s8.2.2.2) rfl rfl (Nat.le_of_ble_eq_true rfl) ⟨Nat.le_of_ble_eq_true rfl, Nat.le_of_ble_eq_true rfl⟩ dX8_bestToLearn_20 (fun r1 => ?_)
      refine dx_bind 41 (fun v2 => [(0, .ref (z + 99)), (1, .ref (z + b1)), (2, .int a2), (3, .int s8.1), (4, .int s8.2.1), (5, .int s8.2.2.1)]) (fun v2 => [.int v2.1]) (fun v2 => v2.2) (fun v2 => (?_ : DX p l e _ s m _ below meth c G z 7 n _ _ 41 [(0, .ref (z + 99)), (1, .ref (z + b1)), (2, .int a2), (3, .int s8.1), (4, .int s8.2.1), (5, .int s8.2.2.1)] [.int v2.1] v2.2 _)) ?_
      · refine dx_istore C [(6, .int v2.1), (0, .ref (z + 99)), (1, .ref (z + b1)), (2, .int a2), (3, .int s8.1), (4, .int s8.2.1), (5, .int s8.2.2.1)] dX8_bestToLearn_41 (by decide) rfl ?_
        refine dx_iload C 0 dX8_bestToLearn_43 rfl ?_
        refine dx_iload C 5 dX8_bestToLearn_45 rfl ?_
        refine dx_bind 57 (fun v3 => [(0, .ref (z + 99)), (1, .ref (z + b1)), (2, .int a2), (3, .int v3.1), (4, .int v3.2), (5, .int s8.2.2.1)]) (fun v3 => []) (fun v3 => v2.2) (fun v3 => (?_ : DX p l e _ s m _ below meth c G z 7 n _ _ 57 [(0, .ref (z + 99)), (1, .ref (z + b1)), (2, .int a2), (3, .int v3.1), (4, .int v3.2), (5, .int s8.2.2.1)] [] v2.2 _)) ?_
        · refine dx_iinc (v := (s8.2.2.1 + (1 : Int32))) C 5 [(5, .int (s8.2.2.1 + (1 : Int32))), (0, .ref (z + 99)), (1, .ref (z + b1)), (2, .int a2), (3, .int v3.1), (4, .int v3.2)] dX8_bestToLearn_57 rfl rfl (by decide) rfl ?_
          refine dx_goto C 8 dX8_bestToLearn_60 (by decide) ?_
          refine dx_mv (lo2 := [(0, .ref (z + 99)), (1, .ref (z + b1)), (2, .int a2), (3, .int v3.1), (4, .int v3.2), (5, .int (s8.2.2.1 + (1 : Int32)))]) [1, 2, 3, 4, 5, 0] rfl ?_
          exact dx_end (fun h => h)
        · refine dx_icmp_le C 57 dX8_bestToLearn_47 (by decide) ?_ ?_
          · refine dx_mv (lo2 := [(0, .ref (z + 99)), (1, .ref (z + b1)), (2, .int a2), (3, .int s8.1), (4, .int s8.2.1), (5, .int s8.2.2.1)]) [1, 2, 3, 4, 5, 6] rfl ?_
            exact dx_end (fun h => h)
          · refine dx_iload C 0 dX8_bestToLearn_50 rfl ?_
            refine dx_istore C [(4, .int v2.1), (6, .int v2.1), (0, .ref (z + 99)), (1, .ref (z + b1)), (2, .int a2), (3, .int s8.1), (5, .int s8.2.2.1)] dX8_bestToLearn_52 (by decide) rfl ?_
            refine dx_iload C 6 dX8_bestToLearn_54 rfl ?_
            refine dx_istore_n C [(3, .int s8.2.2.1), (4, .int v2.1), (6, .int v2.1), (0, .ref (z + 99)), (1, .ref (z + b1)), (2, .int a2), (5, .int s8.2.2.1)] dX8_bestToLearn_56 rfl (by decide) rfl ?_
            refine dx_mv (lo2 := [(0, .ref (z + 99)), (1, .ref (z + b1)), (2, .int a2), (3, .int s8.2.2.1), (4, .int v2.1), (5, .int s8.2.2.1)]) [3, 4, 5, 0, 1, 6] rfl ?_
            exact dx_end (fun h => h)
      · refine dx_if_eq C 30 dX8_bestToLearn_23 (by decide) ?_ ?_
        · refine dx_aload_n C 0 dX8_bestToLearn_30 rfl rfl ?_
          refine dx_aload_n C 1 dX8_bestToLearn_31 rfl rfl ?_
          refine dx_iload_n C 2 dX8_bestToLearn_32 rfl rfl ?_
          refine dx_iconst (v := (1 : Int32)) C dX8_bestToLearn_33 (by decide) ?_
          refine dx_iload C 5 dX8_bestToLearn_34 rfl ?_
          refine dx_ishl C dX8_bestToLearn_36 ?_
          refine dx_ior C dX8_bestToLearn_37 ?_
          refine dx_callV2 C cl_X8_worthOfAll kmX8_67 (ci := 7) (b := 99) (As := [.ref (z + b1), .int (a2 ||| ((1 : Int32) <<< (s8.2.2.1 &&& 31)))]) (rest := []) rfl (hp_of ly_99) (tf_X8_worthOfAll b1 hb1 (a2 ||| ((1 : Int32) <<< (s8.2.2.1 &&& 31))) s8.2.2.2) rfl rfl (Nat.le_of_ble_eq_true rfl) ⟨Nat.le_of_ble_eq_true rfl, Nat.le_of_ble_eq_true rfl⟩ dX8_bestToLearn_38 (fun q4 => ?_)
          exact dx_end (fun h => h)
        · refine dx_iconst (v := (-1 : Int32)) C dX8_bestToLearn_26 (by decide) ?_
          refine dx_goto C 41 dX8_bestToLearn_27 (by decide) ?_
          exact dx_end (fun h => h)
def f_X9_told (a1 : Int32) (w : Mem) : Option (Int32 × Mem) :=
  (if a1 = (0 : Int32) then some (((w (brp (w 0 8)) 0), w)) else (if a1 = (1 : Int32) then some (((w (brp (w 0 8)) 1), w)) else (if a1 = (2 : Int32) then some (((w (brp (w 0 8)) 2), w)) else (if a1 = (3 : Int32) then some (((w (brp (w 0 8)) 3), w)) else (if a1 = (4 : Int32) then some (((w 1 1), w)) else (if a1 = (5 : Int32) then (f_X9_toldOfEvening a1 w).bind fun r6 => some ((r6, w)) else (if a1 = (6 : Int32) then (f_X9_toldOfEvening a1 w).bind fun r8 => some ((r8, w)) else (if a1 = (7 : Int32) then (f_X9_toldOfEvening a1 w).bind fun r10 => some ((r10, w)) else (if a1 = (8 : Int32) then (f_X9_toldOfEvening a1 w).bind fun r12 => some ((r12, w)) else (if a1 = (9 : Int32) then (f_X9_toldOfEvening a1 w).bind fun r14 => some ((r14, w)) else (if a1 = (10 : Int32) then (f_X9_toldOfEvening a1 w).bind fun r16 => some ((r16, w)) else (if a1 = (11 : Int32) then (f_X9_toldOfEvening a1 w).bind fun r18 => some ((r18, w)) else (if a1 = (12 : Int32) then (f_X9_toldOfEvening a1 w).bind fun r20 => some ((r20, w)) else (if a1 = (13 : Int32) then (f_X9_toldOfEvening a1 w).bind fun r22 => some ((r22, w)) else (if a1 = (14 : Int32) then (f_X9_toldOfEvening a1 w).bind fun r24 => some ((r24, w)) else (if a1 = (15 : Int32) then (f_X1_nobodys (brp (w 0 8)) w).bind fun r26 => some ((r26, w)) else (if a1 = (16 : Int32) then (f_X3_longestSat (brp (w 0 8)) w).bind fun r28 => some ((r28, w)) else (if a1 = (17 : Int32) then (f_X8_bestToLearn (brp (w 0 8)) (w 3 3) w).bind fun q30 => some ((q30.1, q30.2)) else (if a1 = (18 : Int32) then some (((w 106 2), w)) else (if a1 = (19 : Int32) then some (((w 109 2), w)) else (if a1 = (20 : Int32) then some (((w 6 1), w)) else (f_X9_toldOfEvening a1 w).bind fun r35 => some ((r35, w)))))))))))))))))))))))
set_option maxRecDepth 20000 in
set_option maxHeartbeats 4000000 in
theorem tf_X9_told {G : GT} {l : Launch} {z n : Nat} (a1 : Int32) (w : Mem) (q : Int32 × Mem) (hq : f_X9_told a1 w = some q) : Mt G l z yX9_told cX9_told 2 (some .int) { frames := 6, cells := 0, slots := 0, locals := 141 } [.ref (z + 0), .int a1] (hp G z w) n (some (.int q.1)) (hp G z q.2) n := by
  refine mt_of (by decide +kernel) (Nat.le_of_ble_eq_true rfl) ?_
  intro p e s m below meth c C hr hlk hnm
  refine (?_ : DX p l e _ s m _ below meth c G z 2 n _ (fun v => v = q) 0 [(0, .ref (z + 0)), (1, .int a1)] [] w (f_X9_told a1 w)) q hq rfl
  unfold f_X9_told
  refine dx_iload_n C 1 dX9_told_0 rfl rfl ?_
  refine dx_ite (fun hs1 => ?_) (fun hs1 => ?_)
  · refine dx_tableIn C 100 dX9_told_1 (by rw [hs1]; decide) (by rw [hs1]; decide) (by rw [hs1]; rfl) (by decide) ?_
    refine dx_aload_n C 0 dX9_told_100 rfl rfl ?_
    refine dgX9_65 C dX9_told_101 ?_
    refine dgX9_117 C (brp_ok (w 0 8)) dX9_told_104 ?_
    exact dx_iret2 C hr hlk dX9_told_107 (fun h => h)
  · refine dx_ite (fun hs2 => ?_) (fun hs2 => ?_)
    · refine dx_tableIn C 108 dX9_told_1 (by rw [hs2]; decide) (by rw [hs2]; decide) (by rw [hs2]; rfl) (by decide) ?_
      refine dx_aload_n C 0 dX9_told_108 rfl rfl ?_
      refine dgX9_65 C dX9_told_109 ?_
      refine dgX9_120 C (brp_ok (w 0 8)) dX9_told_112 ?_
      exact dx_iret2 C hr hlk dX9_told_115 (fun h => h)
    · refine dx_ite (fun hs3 => ?_) (fun hs3 => ?_)
      · refine dx_tableIn C 116 dX9_told_1 (by rw [hs3]; decide) (by rw [hs3]; decide) (by rw [hs3]; rfl) (by decide) ?_
        refine dx_aload_n C 0 dX9_told_116 rfl rfl ?_
        refine dgX9_65 C dX9_told_117 ?_
        refine dgX9_123 C (brp_ok (w 0 8)) dX9_told_120 ?_
        exact dx_iret2 C hr hlk dX9_told_123 (fun h => h)
      · refine dx_ite (fun hs4 => ?_) (fun hs4 => ?_)
        · refine dx_tableIn C 124 dX9_told_1 (by rw [hs4]; decide) (by rw [hs4]; decide) (by rw [hs4]; rfl) (by decide) ?_
          refine dx_aload_n C 0 dX9_told_124 rfl rfl ?_
          refine dgX9_65 C dX9_told_125 ?_
          refine dgX9_103 C (brp_ok (w 0 8)) dX9_told_128 ?_
          exact dx_iret2 C hr hlk dX9_told_131 (fun h => h)
        · refine dx_ite (fun hs5 => ?_) (fun hs5 => ?_)
          · refine dx_tableIn C 132 dX9_told_1 (by rw [hs5]; decide) (by rw [hs5]; decide) (by rw [hs5]; rfl) (by decide) ?_
            refine dx_aload_n C 0 dX9_told_132 rfl rfl ?_
            refine dgX9_10 C dX9_told_133 ?_
            refine dgX9_85 C dX9_told_136 ?_
            exact dx_iret2 C hr hlk dX9_told_139 (fun h => h)
          · refine dx_ite (fun hs7 => ?_) (fun hs7 => ?_)
            · refine dx_tableIn C 203 dX9_told_1 (by rw [hs7]; decide) (by rw [hs7]; decide) (by rw [hs7]; rfl) (by decide) ?_
              refine dx_aload_n C 0 dX9_told_203 rfl rfl ?_
              refine dx_iload_n C 1 dX9_told_204 rfl rfl ?_
              refine dx_callV1 C cl_X9_toldOfEvening kmX9_145 (ci := 8) (b := 0) (As := [.int a1]) (rest := []) rfl (hp_of ly_0) (tf_X9_toldOfEvening a1 w) rfl rfl (Nat.le_of_ble_eq_true rfl) ⟨Nat.le_of_ble_eq_true rfl, Nat.le_of_ble_eq_true rfl⟩ dX9_told_205 (fun r6 => ?_)
              exact dx_iret2 C hr hlk dX9_told_208 (fun h => h)
            · refine dx_ite (fun hs9 => ?_) (fun hs9 => ?_)
              · refine dx_tableIn C 203 dX9_told_1 (by rw [hs9]; decide) (by rw [hs9]; decide) (by rw [hs9]; rfl) (by decide) ?_
                refine dx_aload_n C 0 dX9_told_203 rfl rfl ?_
                refine dx_iload_n C 1 dX9_told_204 rfl rfl ?_
                refine dx_callV1 C cl_X9_toldOfEvening kmX9_145 (ci := 8) (b := 0) (As := [.int a1]) (rest := []) rfl (hp_of ly_0) (tf_X9_toldOfEvening a1 w) rfl rfl (Nat.le_of_ble_eq_true rfl) ⟨Nat.le_of_ble_eq_true rfl, Nat.le_of_ble_eq_true rfl⟩ dX9_told_205 (fun r8 => ?_)
                exact dx_iret2 C hr hlk dX9_told_208 (fun h => h)
              · refine dx_ite (fun hs11 => ?_) (fun hs11 => ?_)
                · refine dx_tableIn C 203 dX9_told_1 (by rw [hs11]; decide) (by rw [hs11]; decide) (by rw [hs11]; rfl) (by decide) ?_
                  refine dx_aload_n C 0 dX9_told_203 rfl rfl ?_
                  refine dx_iload_n C 1 dX9_told_204 rfl rfl ?_
                  refine dx_callV1 C cl_X9_toldOfEvening kmX9_145 (ci := 8) (b := 0) (As := [.int a1]) (rest := []) rfl (hp_of ly_0) (tf_X9_toldOfEvening a1 w) rfl rfl (Nat.le_of_ble_eq_true rfl) ⟨Nat.le_of_ble_eq_true rfl, Nat.le_of_ble_eq_true rfl⟩ dX9_told_205 (fun r10 => ?_)
                  exact dx_iret2 C hr hlk dX9_told_208 (fun h => h)
                · refine dx_ite (fun hs13 => ?_) (fun hs13 => ?_)
                  · refine dx_tableIn C 203 dX9_told_1 (by rw [hs13]; decide) (by rw [hs13]; decide) (by rw [hs13]; rfl) (by decide) ?_
                    refine dx_aload_n C 0 dX9_told_203 rfl rfl ?_
                    refine dx_iload_n C 1 dX9_told_204 rfl rfl ?_
                    refine dx_callV1 C cl_X9_toldOfEvening kmX9_145 (ci := 8) (b := 0) (As := [.int a1]) (rest := []) rfl (hp_of ly_0) (tf_X9_toldOfEvening a1 w) rfl rfl (Nat.le_of_ble_eq_true rfl) ⟨Nat.le_of_ble_eq_true rfl, Nat.le_of_ble_eq_true rfl⟩ dX9_told_205 (fun r12 => ?_)
                    exact dx_iret2 C hr hlk dX9_told_208 (fun h => h)
                  · refine dx_ite (fun hs15 => ?_) (fun hs15 => ?_)
                    · refine dx_tableIn C 203 dX9_told_1 (by rw [hs15]; decide) (by rw [hs15]; decide) (by rw [hs15]; rfl) (by decide) ?_
                      refine dx_aload_n C 0 dX9_told_203 rfl rfl ?_
                      refine dx_iload_n C 1 dX9_told_204 rfl rfl ?_
                      refine dx_callV1 C cl_X9_toldOfEvening kmX9_145 (ci := 8) (b := 0) (As := [.int a1]) (rest := []) rfl (hp_of ly_0) (tf_X9_toldOfEvening a1 w) rfl rfl (Nat.le_of_ble_eq_true rfl) ⟨Nat.le_of_ble_eq_true rfl, Nat.le_of_ble_eq_true rfl⟩ dX9_told_205 (fun r14 => ?_)
                      exact dx_iret2 C hr hlk dX9_told_208 (fun h => h)
                    · refine dx_ite (fun hs17 => ?_) (fun hs17 => ?_)
                      · refine dx_tableIn C 203 dX9_told_1 (by rw [hs17]; decide) (by rw [hs17]; decide) (by rw [hs17]; rfl) (by decide) ?_
                        refine dx_aload_n C 0 dX9_told_203 rfl rfl ?_
                        refine dx_iload_n C 1 dX9_told_204 rfl rfl ?_
                        refine dx_callV1 C cl_X9_toldOfEvening kmX9_145 (ci := 8) (b := 0) (As := [.int a1]) (rest := []) rfl (hp_of ly_0) (tf_X9_toldOfEvening a1 w) rfl rfl (Nat.le_of_ble_eq_true rfl) ⟨Nat.le_of_ble_eq_true rfl, Nat.le_of_ble_eq_true rfl⟩ dX9_told_205 (fun r16 => ?_)
                        exact dx_iret2 C hr hlk dX9_told_208 (fun h => h)
                      · refine dx_ite (fun hs19 => ?_) (fun hs19 => ?_)
                        · refine dx_tableIn C 203 dX9_told_1 (by rw [hs19]; decide) (by rw [hs19]; decide) (by rw [hs19]; rfl) (by decide) ?_
                          refine dx_aload_n C 0 dX9_told_203 rfl rfl ?_
                          refine dx_iload_n C 1 dX9_told_204 rfl rfl ?_
                          refine dx_callV1 C cl_X9_toldOfEvening kmX9_145 (ci := 8) (b := 0) (As := [.int a1]) (rest := []) rfl (hp_of ly_0) (tf_X9_toldOfEvening a1 w) rfl rfl (Nat.le_of_ble_eq_true rfl) ⟨Nat.le_of_ble_eq_true rfl, Nat.le_of_ble_eq_true rfl⟩ dX9_told_205 (fun r18 => ?_)
                          exact dx_iret2 C hr hlk dX9_told_208 (fun h => h)
                        · refine dx_ite (fun hs21 => ?_) (fun hs21 => ?_)
                          · refine dx_tableIn C 203 dX9_told_1 (by rw [hs21]; decide) (by rw [hs21]; decide) (by rw [hs21]; rfl) (by decide) ?_
                            refine dx_aload_n C 0 dX9_told_203 rfl rfl ?_
                            refine dx_iload_n C 1 dX9_told_204 rfl rfl ?_
                            refine dx_callV1 C cl_X9_toldOfEvening kmX9_145 (ci := 8) (b := 0) (As := [.int a1]) (rest := []) rfl (hp_of ly_0) (tf_X9_toldOfEvening a1 w) rfl rfl (Nat.le_of_ble_eq_true rfl) ⟨Nat.le_of_ble_eq_true rfl, Nat.le_of_ble_eq_true rfl⟩ dX9_told_205 (fun r20 => ?_)
                            exact dx_iret2 C hr hlk dX9_told_208 (fun h => h)
                          · refine dx_ite (fun hs23 => ?_) (fun hs23 => ?_)
                            · refine dx_tableIn C 203 dX9_told_1 (by rw [hs23]; decide) (by rw [hs23]; decide) (by rw [hs23]; rfl) (by decide) ?_
                              refine dx_aload_n C 0 dX9_told_203 rfl rfl ?_
                              refine dx_iload_n C 1 dX9_told_204 rfl rfl ?_
                              refine dx_callV1 C cl_X9_toldOfEvening kmX9_145 (ci := 8) (b := 0) (As := [.int a1]) (rest := []) rfl (hp_of ly_0) (tf_X9_toldOfEvening a1 w) rfl rfl (Nat.le_of_ble_eq_true rfl) ⟨Nat.le_of_ble_eq_true rfl, Nat.le_of_ble_eq_true rfl⟩ dX9_told_205 (fun r22 => ?_)
                              exact dx_iret2 C hr hlk dX9_told_208 (fun h => h)
                            · refine dx_ite (fun hs25 => ?_) (fun hs25 => ?_)
                              · refine dx_tableIn C 203 dX9_told_1 (by rw [hs25]; decide) (by rw [hs25]; decide) (by rw [hs25]; rfl) (by decide) ?_
                                refine dx_aload_n C 0 dX9_told_203 rfl rfl ?_
                                refine dx_iload_n C 1 dX9_told_204 rfl rfl ?_
                                refine dx_callV1 C cl_X9_toldOfEvening kmX9_145 (ci := 8) (b := 0) (As := [.int a1]) (rest := []) rfl (hp_of ly_0) (tf_X9_toldOfEvening a1 w) rfl rfl (Nat.le_of_ble_eq_true rfl) ⟨Nat.le_of_ble_eq_true rfl, Nat.le_of_ble_eq_true rfl⟩ dX9_told_205 (fun r24 => ?_)
                                exact dx_iret2 C hr hlk dX9_told_208 (fun h => h)
                              · refine dx_ite (fun hs27 => ?_) (fun hs27 => ?_)
                                · refine dx_tableIn C 140 dX9_told_1 (by rw [hs27]; decide) (by rw [hs27]; decide) (by rw [hs27]; rfl) (by decide) ?_
                                  refine dx_aload_n C 0 dX9_told_140 rfl rfl ?_
                                  refine dgX9_65 C dX9_told_141 ?_
                                  refine dx_callV1 C cl_X1_nobodys kmX9_126 (ci := 0) (b := (brp (w 0 8))) (As := []) (rest := []) rfl (hp_of (lyBr0 (brp_ok (w 0 8)))) (tf_X1_nobodys (brp (w 0 8)) (brp_ok (w 0 8)) w) rfl rfl (Nat.le_of_ble_eq_true rfl) ⟨Nat.le_of_ble_eq_true rfl, Nat.le_of_ble_eq_true rfl⟩ dX9_told_144 (fun r26 => ?_)
                                  exact dx_iret2 C hr hlk dX9_told_147 (fun h => h)
                                · refine dx_ite (fun hs29 => ?_) (fun hs29 => ?_)
                                  · refine dx_tableIn C 148 dX9_told_1 (by rw [hs29]; decide) (by rw [hs29]; decide) (by rw [hs29]; rfl) (by decide) ?_
                                    refine dx_aload_n C 0 dX9_told_148 rfl rfl ?_
                                    refine dgX9_19 C dX9_told_149 ?_
                                    refine dx_aload_n C 0 dX9_told_152 rfl rfl ?_
                                    refine dgX9_65 C dX9_told_153 ?_
                                    refine dx_callV1 C cl_X3_longestSat kmX9_130 (ci := 2) (b := 3) (As := [.ref (z + (brp (w 0 8)))]) (rest := []) rfl (hp_of ly_3) (tf_X3_longestSat (brp (w 0 8)) (brp_ok (w 0 8)) w) rfl rfl (Nat.le_of_ble_eq_true rfl) ⟨Nat.le_of_ble_eq_true rfl, Nat.le_of_ble_eq_true rfl⟩ dX9_told_156 (fun r28 => ?_)
                                    exact dx_iret2 C hr hlk dX9_told_159 (fun h => h)
                                  · refine dx_ite (fun hs31 => ?_) (fun hs31 => ?_)
                                    · refine dx_tableIn C 160 dX9_told_1 (by rw [hs31]; decide) (by rw [hs31]; decide) (by rw [hs31]; rfl) (by decide) ?_
                                      refine dx_aload_n C 0 dX9_told_160 rfl rfl ?_
                                      refine dgX9_39 C dX9_told_161 ?_
                                      refine dx_aload_n C 0 dX9_told_164 rfl rfl ?_
                                      refine dgX9_65 C dX9_told_165 ?_
                                      refine dx_aload_n C 0 dX9_told_168 rfl rfl ?_
                                      refine dgX9_19 C dX9_told_169 ?_
                                      refine dgX9_134 C (Or.inl rfl) dX9_told_172 ?_
                                      refine dx_callV2 C cl_X8_bestToLearn kmX9_137 (ci := 7) (b := 99) (As := [.ref (z + (brp (w 0 8))), .int (w 3 3)]) (rest := []) rfl (hp_of ly_99) (tf_X8_bestToLearn (brp (w 0 8)) (brp_ok (w 0 8)) (w 3 3) w) rfl rfl (Nat.le_of_ble_eq_true rfl) ⟨Nat.le_of_ble_eq_true rfl, Nat.le_of_ble_eq_true rfl⟩ dX9_told_175 (fun q30 => ?_)
                                      exact dx_iret2 C hr hlk dX9_told_178 (fun h => h)
                                    · refine dx_ite (fun hs32 => ?_) (fun hs32 => ?_)
                                      · refine dx_tableIn C 179 dX9_told_1 (by rw [hs32]; decide) (by rw [hs32]; decide) (by rw [hs32]; rfl) (by decide) ?_
                                        refine dx_aload_n C 0 dX9_told_179 rfl rfl ?_
                                        refine dgX9_55 C dX9_told_180 ?_
                                        refine dgX9_141_106 C dX9_told_183 ?_
                                        exact dx_iret2 C hr hlk dX9_told_186 (fun h => h)
                                      · refine dx_ite (fun hs33 => ?_) (fun hs33 => ?_)
                                        · refine dx_tableIn C 187 dX9_told_1 (by rw [hs33]; decide) (by rw [hs33]; decide) (by rw [hs33]; rfl) (by decide) ?_
                                          refine dx_aload_n C 0 dX9_told_187 rfl rfl ?_
                                          refine dgX9_59 C dX9_told_188 ?_
                                          refine dgX9_141_109 C dX9_told_191 ?_
                                          exact dx_iret2 C hr hlk dX9_told_194 (fun h => h)
                                        · refine dx_ite (fun hs34 => ?_) (fun hs34 => ?_)
                                          · refine dx_tableIn C 195 dX9_told_1 (by rw [hs34]; decide) (by rw [hs34]; decide) (by rw [hs34]; rfl) (by decide) ?_
                                            refine dx_aload_n C 0 dX9_told_195 rfl rfl ?_
                                            refine dgX9_26 C dX9_told_196 ?_
                                            refine dgX9_144 C dX9_told_199 ?_
                                            exact dx_iret2 C hr hlk dX9_told_202 (fun h => h)
                                          · have ehs1 : (a1).toInt ≠ 0 := fun q => hs1 ((i_eq_iff _ _).mpr (q.trans (by decide)))
                                            have ehs2 : (a1).toInt ≠ 1 := fun q => hs2 ((i_eq_iff _ _).mpr (q.trans (by decide)))
                                            have ehs3 : (a1).toInt ≠ 2 := fun q => hs3 ((i_eq_iff _ _).mpr (q.trans (by decide)))
                                            have ehs4 : (a1).toInt ≠ 3 := fun q => hs4 ((i_eq_iff _ _).mpr (q.trans (by decide)))
                                            have ehs5 : (a1).toInt ≠ 4 := fun q => hs5 ((i_eq_iff _ _).mpr (q.trans (by decide)))
                                            have ehs7 : (a1).toInt ≠ 5 := fun q => hs7 ((i_eq_iff _ _).mpr (q.trans (by decide)))
                                            have ehs9 : (a1).toInt ≠ 6 := fun q => hs9 ((i_eq_iff _ _).mpr (q.trans (by decide)))
                                            have ehs11 : (a1).toInt ≠ 7 := fun q => hs11 ((i_eq_iff _ _).mpr (q.trans (by decide)))
                                            have ehs13 : (a1).toInt ≠ 8 := fun q => hs13 ((i_eq_iff _ _).mpr (q.trans (by decide)))
                                            have ehs15 : (a1).toInt ≠ 9 := fun q => hs15 ((i_eq_iff _ _).mpr (q.trans (by decide)))
                                            have ehs17 : (a1).toInt ≠ 10 := fun q => hs17 ((i_eq_iff _ _).mpr (q.trans (by decide)))
                                            have ehs19 : (a1).toInt ≠ 11 := fun q => hs19 ((i_eq_iff _ _).mpr (q.trans (by decide)))
                                            have ehs21 : (a1).toInt ≠ 12 := fun q => hs21 ((i_eq_iff _ _).mpr (q.trans (by decide)))
                                            have ehs23 : (a1).toInt ≠ 13 := fun q => hs23 ((i_eq_iff _ _).mpr (q.trans (by decide)))
                                            have ehs25 : (a1).toInt ≠ 14 := fun q => hs25 ((i_eq_iff _ _).mpr (q.trans (by decide)))
                                            have ehs27 : (a1).toInt ≠ 15 := fun q => hs27 ((i_eq_iff _ _).mpr (q.trans (by decide)))
                                            have ehs29 : (a1).toInt ≠ 16 := fun q => hs29 ((i_eq_iff _ _).mpr (q.trans (by decide)))
                                            have ehs31 : (a1).toInt ≠ 17 := fun q => hs31 ((i_eq_iff _ _).mpr (q.trans (by decide)))
                                            have ehs32 : (a1).toInt ≠ 18 := fun q => hs32 ((i_eq_iff _ _).mpr (q.trans (by decide)))
                                            have ehs33 : (a1).toInt ≠ 19 := fun q => hs33 ((i_eq_iff _ _).mpr (q.trans (by decide)))
                                            have ehs34 : (a1).toInt ≠ 20 := fun q => hs34 ((i_eq_iff _ _).mpr (q.trans (by decide)))
                                            refine dx_tableOut C 203 dX9_told_1 (by omega) (by decide) ?_
                                            refine dx_aload_n C 0 dX9_told_203 rfl rfl ?_
                                            refine dx_iload_n C 1 dX9_told_204 rfl rfl ?_
                                            refine dx_callV1 C cl_X9_toldOfEvening kmX9_145 (ci := 8) (b := 0) (As := [.int a1]) (rest := []) rfl (hp_of ly_0) (tf_X9_toldOfEvening a1 w) rfl rfl (Nat.le_of_ble_eq_true rfl) ⟨Nat.le_of_ble_eq_true rfl, Nat.le_of_ble_eq_true rfl⟩ dX9_told_205 (fun r35 => ?_)
                                            exact dx_iret2 C hr hlk dX9_told_208 (fun h => h)
def f_X1_oneStepFrom (b0 : Nat) (a1 : Int32) (w : Mem) : Option (Int32) :=
  (lp (S := (Int32 × Int32)) (T := Int32) (fun s4 => (if s4.2 < (w b0 2) then (f_X9_holds a1 s4.2).bind fun r1 => ((if r1 = 0 then some (s4.1) else rd 8 (w (b0 + 2)) s4.2 fun x3 => some ((s4.1 ||| x3))) : Option Int32).bind fun v2 => some (Sum.inl (v2, (s4.2 + (1 : Int32)))) else some (Sum.inr s4.1))) 5000000000 ((0 : Int32), (0 : Int32))).bind fun v4 => some (v4)
set_option maxRecDepth 20000 in
set_option maxHeartbeats 4000000 in
theorem tf_X1_oneStepFrom {G : GT} {l : Launch} {z n : Nat} (b0 : Nat) (hb0 : BrO b0) (a1 : Int32) (w : Mem) (q : Int32) (hq : f_X1_oneStepFrom b0 a1 w = some q) : Mt G l z yX1_oneStepFrom cX1_oneStepFrom 4 (some .int) { frames := 1, cells := 0, slots := 0, locals := 21 } [.ref (z + b0), .int a1] (hp G z w) n (some (.int q)) (hp G z w) n := by
  refine mt_of (by decide +kernel) (Nat.le_of_ble_eq_true rfl) ?_
  intro p e s m below meth c C hr hlk hnm
  refine (?_ : DX p l e _ s m _ below meth c G z 4 n _ (fun v => v = q) 0 [(0, .ref (z + b0)), (1, .int a1)] [] w (f_X1_oneStepFrom b0 a1 w)) q hq rfl
  unfold f_X1_oneStepFrom
  refine dx_iconst (v := (0 : Int32)) C dX1_oneStepFrom_0 (by decide) ?_
  refine dx_istore_n C [(2, .int (0 : Int32)), (0, .ref (z + b0)), (1, .int a1)] dX1_oneStepFrom_1 rfl (by decide) rfl ?_
  refine dx_iconst (v := (0 : Int32)) C dX1_oneStepFrom_2 (by decide) ?_
  refine dx_istore_n C [(3, .int (0 : Int32)), (2, .int (0 : Int32)), (0, .ref (z + b0)), (1, .int a1)] dX1_oneStepFrom_3 rfl (by decide) rfl ?_
  refine dx_mv (lo2 := [(0, .ref (z + b0)), (1, .int a1), (2, .int (0 : Int32)), (3, .int (0 : Int32))]) [2, 3, 1, 0] rfl ?_
  refine dx_bind 35 (fun v4 => [(2, .int v4)]) (fun v4 => []) (fun v4 => w) (fun v4 => (?_ : DX p l e _ s m _ below meth c G z 4 n _ _ 35 [(2, .int v4)] [] w _)) ?_
  · refine dx_iload_n C 0 dX1_oneStepFrom_35 rfl rfl ?_
    exact dx_iret1 C hr hlk dX1_oneStepFrom_36 (fun h => h)
  · refine dx_lp (fun s4 => [(0, .ref (z + b0)), (1, .int a1), (2, .int s4.1), (3, .int s4.2)]) [] (fun s4 => w) (fun s4 => (?_ : DX p l e _ s m _ below meth c G z 4 n _ _ 4 [(0, .ref (z + b0)), (1, .int a1), (2, .int s4.1), (3, .int s4.2)] [] w _)) 5000000000 ((0 : Int32), (0 : Int32))
    refine dx_iload_n C 3 dX1_oneStepFrom_4 rfl rfl ?_
    refine dx_aload_n C 0 dX1_oneStepFrom_5 rfl rfl ?_
    refine dgX1_18 C hb0 dX1_oneStepFrom_6 ?_
    refine dx_icmp_ge C 35 dX1_oneStepFrom_9 (by decide) ?_ ?_
    · refine dx_mv (lo2 := [(2, .int s4.1)]) [2] rfl ?_
      exact dx_end (fun h => h)
    · refine dx_iload_n C 1 dX1_oneStepFrom_12 rfl rfl ?_
      refine dx_iload_n C 3 dX1_oneStepFrom_13 rfl rfl ?_
      refine dx_callSN1 C cl_X9_holds knX1_50 (As := [.int a1, .int s4.2]) (rest := []) (tf_X9_holds a1 s4.2 w) rfl rfl (Nat.le_of_ble_eq_true rfl) ⟨Nat.le_of_ble_eq_true rfl, Nat.le_of_ble_eq_true rfl⟩ dX1_oneStepFrom_14 (fun r1 => ?_)
      refine dx_bind 29 (fun v2 => [(0, .ref (z + b0)), (1, .int a1), (2, .int v2), (3, .int s4.2)]) (fun v2 => []) (fun v2 => w) (fun v2 => (?_ : DX p l e _ s m _ below meth c G z 4 n _ _ 29 [(0, .ref (z + b0)), (1, .int a1), (2, .int v2), (3, .int s4.2)] [] w _)) ?_
      · refine dx_iinc (v := (s4.2 + (1 : Int32))) C 3 [(3, .int (s4.2 + (1 : Int32))), (0, .ref (z + b0)), (1, .int a1), (2, .int v2)] dX1_oneStepFrom_29 rfl rfl (by decide) rfl ?_
        refine dx_goto C 4 dX1_oneStepFrom_32 (by decide) ?_
        refine dx_mv (lo2 := [(0, .ref (z + b0)), (1, .int a1), (2, .int v2), (3, .int (s4.2 + (1 : Int32)))]) [1, 2, 3, 0] rfl ?_
        exact dx_end (fun h => h)
      · refine dx_if_eq C 29 dX1_oneStepFrom_17 (by decide) ?_ ?_
        · exact dx_end (fun h => h)
        · refine dx_iload_n C 2 dX1_oneStepFrom_20 rfl rfl ?_
          refine dx_aload_n C 0 dX1_oneStepFrom_21 rfl rfl ?_
          refine dgX1_28 C hb0 dX1_oneStepFrom_22 ?_
          refine dx_iload_n C 3 dX1_oneStepFrom_25 rfl rfl ?_
          refine dx_rd C (lyBr2 hb0) dX1_oneStepFrom_26 (fun x3 => ?_)
          refine dx_ior C dX1_oneStepFrom_27 ?_
          refine dx_istore_n C [(2, .int (s4.1 ||| x3)), (0, .ref (z + b0)), (1, .int a1), (3, .int s4.2)] dX1_oneStepFrom_28 rfl (by decide) rfl ?_
          refine dx_mv (lo2 := [(0, .ref (z + b0)), (1, .int a1), (2, .int (s4.1 ||| x3)), (3, .int s4.2)]) [1, 2, 0, 3] rfl ?_
          exact dx_end (fun h => h)
def f_X1_leadsFrom (b0 : Nat) (a1 : Int32) (w : Mem) : Option (Int32) :=
  (f_X1_hasMatter b0 a1 w).bind fun r1 => ((if r1 = 0 then some ((0 : Int32)) else rd 8 (w (b0 + 2)) a1 fun x5 => some (x5)) : Option Int32).bind fun v2 => (lp (S := (Int32 × Int32)) (T := Int32) (fun s21 => (if s21.2 < (w b0 2) then (f_X1_oneStepFrom b0 s21.1 w).bind fun r3 => some (Sum.inl ((s21.1 ||| r3), (s21.2 + (1 : Int32)))) else some (Sum.inr s21.1))) 5000000000 (v2, (1 : Int32))).bind fun v4 => some (v4)
set_option maxRecDepth 20000 in
set_option maxHeartbeats 4000000 in
theorem tf_X1_leadsFrom {G : GT} {l : Launch} {z n : Nat} (b0 : Nat) (hb0 : BrO b0) (a1 : Int32) (w : Mem) (q : Int32) (hq : f_X1_leadsFrom b0 a1 w = some q) : Mt G l z yX1_leadsFrom cX1_leadsFrom 4 (some .int) { frames := 2, cells := 0, slots := 0, locals := 44 } [.ref (z + b0), .int a1] (hp G z w) n (some (.int q)) (hp G z w) n := by
  refine mt_of (by decide +kernel) (Nat.le_of_ble_eq_true rfl) ?_
  intro p e s m below meth c C hr hlk hnm
  refine (?_ : DX p l e _ s m _ below meth c G z 4 n _ (fun v => v = q) 0 [(0, .ref (z + b0)), (1, .int a1)] [] w (f_X1_leadsFrom b0 a1 w)) q hq rfl
  unfold f_X1_leadsFrom
  refine dx_aload_n C 0 dX1_leadsFrom_0 rfl rfl ?_
  refine dx_iload_n C 1 dX1_leadsFrom_1 rfl rfl ?_
  refine dx_callV1 C cl_X1_hasMatter kmX1_58 (ci := 0) (b := b0) (As := [.int a1]) (rest := []) rfl (hp_of (lyBr0 hb0)) (tf_X1_hasMatter b0 hb0 a1 w) rfl rfl (Nat.le_of_ble_eq_true rfl) ⟨Nat.le_of_ble_eq_true rfl, Nat.le_of_ble_eq_true rfl⟩ dX1_leadsFrom_2 (fun r1 => ?_)
  refine dx_bind 18 (fun v2 => [(0, .ref (z + b0))]) (fun v2 => [.int v2]) (fun v2 => w) (fun v2 => (?_ : DX p l e _ s m _ below meth c G z 4 n _ _ 18 [(0, .ref (z + b0))] [.int v2] w _)) ?_
  · refine dx_istore_n C [(2, .int v2), (0, .ref (z + b0))] dX1_leadsFrom_18 rfl (by decide) rfl ?_
    refine dx_iconst (v := (1 : Int32)) C dX1_leadsFrom_19 (by decide) ?_
    refine dx_istore_n C [(3, .int (1 : Int32)), (2, .int v2), (0, .ref (z + b0))] dX1_leadsFrom_20 rfl (by decide) rfl ?_
    refine dx_mv (lo2 := [(0, .ref (z + b0)), (2, .int v2), (3, .int (1 : Int32))]) [2, 1, 0] rfl ?_
    refine dx_bind 43 (fun v4 => [(2, .int v4)]) (fun v4 => []) (fun v4 => w) (fun v4 => (?_ : DX p l e _ s m _ below meth c G z 4 n _ _ 43 [(2, .int v4)] [] w _)) ?_
    · refine dx_iload_n C 0 dX1_leadsFrom_43 rfl rfl ?_
      exact dx_iret1 C hr hlk dX1_leadsFrom_44 (fun h => h)
    · refine dx_lp (fun s21 => [(0, .ref (z + b0)), (2, .int s21.1), (3, .int s21.2)]) [] (fun s21 => w) (fun s21 => (?_ : DX p l e _ s m _ below meth c G z 4 n _ _ 21 [(0, .ref (z + b0)), (2, .int s21.1), (3, .int s21.2)] [] w _)) 5000000000 (v2, (1 : Int32))
      refine dx_iload_n C 2 dX1_leadsFrom_21 rfl rfl ?_
      refine dx_aload_n C 0 dX1_leadsFrom_22 rfl rfl ?_
      refine dgX1_18 C hb0 dX1_leadsFrom_23 ?_
      refine dx_icmp_ge C 43 dX1_leadsFrom_26 (by decide) ?_ ?_
      · refine dx_mv (lo2 := [(2, .int s21.1)]) [1] rfl ?_
        exact dx_end (fun h => h)
      · refine dx_iload_n C 1 dX1_leadsFrom_29 rfl rfl ?_
        refine dx_aload_n C 0 dX1_leadsFrom_30 rfl rfl ?_
        refine dx_iload_n C 1 dX1_leadsFrom_31 rfl rfl ?_
        refine dx_callV1 C cl_X1_oneStepFrom kmX1_72 (ci := 0) (b := b0) (As := [.int s21.1]) (rest := [.int s21.1]) rfl (hp_of (lyBr0 hb0)) (tf_X1_oneStepFrom b0 hb0 s21.1 w) rfl rfl (Nat.le_of_ble_eq_true rfl) ⟨Nat.le_of_ble_eq_true rfl, Nat.le_of_ble_eq_true rfl⟩ dX1_leadsFrom_32 (fun r3 => ?_)
        refine dx_ior C dX1_leadsFrom_35 ?_
        refine dx_istore_n C [(2, .int (s21.1 ||| r3)), (0, .ref (z + b0)), (3, .int s21.2)] dX1_leadsFrom_36 rfl (by decide) rfl ?_
        refine dx_iinc (v := (s21.2 + (1 : Int32))) C 2 [(3, .int (s21.2 + (1 : Int32))), (2, .int (s21.1 ||| r3)), (0, .ref (z + b0))] dX1_leadsFrom_37 rfl rfl (by decide) rfl ?_
        refine dx_goto C 21 dX1_leadsFrom_40 (by decide) ?_
        refine dx_mv (lo2 := [(0, .ref (z + b0)), (2, .int (s21.1 ||| r3)), (3, .int (s21.2 + (1 : Int32)))]) [2, 1, 0] rfl ?_
        exact dx_end (fun h => h)
  · refine dx_if_eq C 17 dX1_leadsFrom_5 (by decide) ?_ ?_
    · refine dx_iconst (v := (0 : Int32)) C dX1_leadsFrom_17 (by decide) ?_
      refine dx_mv (lo2 := [(0, .ref (z + b0))]) [0] rfl ?_
      exact dx_end (fun h => h)
    · refine dx_aload_n C 0 dX1_leadsFrom_8 rfl rfl ?_
      refine dgX1_28 C hb0 dX1_leadsFrom_9 ?_
      refine dx_iload_n C 1 dX1_leadsFrom_12 rfl rfl ?_
      refine dx_rd C (lyBr2 hb0) dX1_leadsFrom_13 (fun x5 => ?_)
      refine dx_goto C 18 dX1_leadsFrom_14 (by decide) ?_
      refine dx_mv (lo2 := [(0, .ref (z + b0))]) [0] rfl ?_
      exact dx_end (fun h => h)
