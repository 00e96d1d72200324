def f_X10_stayed (a1 : Int32) (a2 : Int32) (w : Mem) : Option (Int32 × Mem) :=
  (f_X10_isTraveller a1 w).bind fun r1 => (if r1 = 0 then some (((-1000000001 : Int32), w)) else (f_X10_in a2 (0 : Int32) (100 : Int32)).bind fun r2 => (if r2 = 0 then some (((-1000000002 : Int32), w)) else (if (w 134 34) = (6 : Int32) then some (((-1000000004 : Int32), w)) else wr 6 150 (w 134 34) a1 w fun w3 => wr 6 151 (w3 134 34) a2 w3 fun w4 => pw 134 34 ((w4 134 34) + (1 : Int32)) w4 fun w5 => some (((w5 134 34), w5)))))
set_option maxRecDepth 20000 in
set_option maxHeartbeats 4000000 in
theorem tf_X10_stayed {G : GT} {l : Launch} {z n : Nat} (a1 : Int32) (a2 : Int32) (w : Mem) (q : Int32 × Mem) (hq : f_X10_stayed a1 a2 w = some q) : Mt G l z yX10_stayed cX10_stayed 3 (some .int) { frames := 2, cells := 0, slots := 0, locals := 43 } [.ref (z + 134), .int a1, .int a2] (hp G z w) n (some (.int q.1)) (hp G z q.2) n := by
  refine mt_of (by decide +kernel) (Nat.le_of_ble_eq_true rfl) ?_
  intro p e s m below meth c C hr hlk hnm
  refine (?_ : DX p l e _ s m _ below meth c G z 3 n _ (fun v => v = q) 0 [(0, .ref (z + 134)), (1, .int a1), (2, .int a2)] [] w (f_X10_stayed a1 a2 w)) q hq rfl
  unfold f_X10_stayed
  refine dx_aload_n C 0 dX10_stayed_0 rfl rfl ?_
  refine dx_iload_n C 1 dX10_stayed_1 rfl rfl ?_
  refine dx_callV1 C cl_X10_isTraveller kmX10_203 (ci := 9) (b := 134) (As := [.int a1]) (rest := []) rfl (hp_of ly_134) (tf_X10_isTraveller a1 w) rfl rfl (Nat.le_of_ble_eq_true rfl) ⟨Nat.le_of_ble_eq_true rfl, Nat.le_of_ble_eq_true rfl⟩ dX10_stayed_2 (fun r1 => ?_)
  refine dx_if_ne C 11 dX10_stayed_5 (by decide) ?_ ?_
  · refine dx_iload_n C 2 dX10_stayed_11 rfl rfl ?_
    refine dx_iconst (v := (0 : Int32)) C dX10_stayed_12 (by decide) ?_
    refine dx_bipush (v := (100 : Int32)) C dX10_stayed_13 (by decide) ?_
    refine dx_callS1 C cl_X10_in kmX10_82 (As := [.int a2, .int (0 : Int32), .int (100 : Int32)]) (rest := []) (tf_X10_in a2 (0 : Int32) (100 : Int32) w) rfl rfl (Nat.le_of_ble_eq_true rfl) ⟨Nat.le_of_ble_eq_true rfl, Nat.le_of_ble_eq_true rfl⟩ dX10_stayed_15 (fun r2 => ?_)
    refine dx_if_ne C 24 dX10_stayed_18 (by decide) ?_ ?_
    · refine dx_aload_n C 0 dX10_stayed_24 rfl rfl ?_
      refine dgX10_162 C dX10_stayed_25 ?_
      refine dx_bipush (v := (6 : Int32)) C dX10_stayed_28 (by decide) ?_
      refine dx_icmp_ne C 36 dX10_stayed_30 (by decide) ?_ ?_
      · refine dx_aload_n C 0 dX10_stayed_36 rfl rfl ?_
        refine dgX10_59 C dX10_stayed_37 ?_
        refine dx_aload_n C 0 dX10_stayed_40 rfl rfl ?_
        refine dgX10_162 C dX10_stayed_41 ?_
        refine dx_iload_n C 1 dX10_stayed_44 rfl rfl ?_
        refine dx_wr C ly_150 dX10_stayed_45 (fun w3 => ?_)
        refine dx_aload_n C 0 dX10_stayed_46 rfl rfl ?_
        refine dgX10_62 C dX10_stayed_47 ?_
        refine dx_aload_n C 0 dX10_stayed_50 rfl rfl ?_
        refine dgX10_162 C dX10_stayed_51 ?_
        refine dx_iload_n C 2 dX10_stayed_54 rfl rfl ?_
        refine dx_wr C ly_151 dX10_stayed_55 (fun w4 => ?_)
        refine dx_aload_n C 0 dX10_stayed_56 rfl rfl ?_
        refine dx_dup C dX10_stayed_57 rfl ?_
        refine dgX10_162 C dX10_stayed_58 ?_
        refine dx_iconst (v := (1 : Int32)) C dX10_stayed_61 (by decide) ?_
        refine dx_iadd C dX10_stayed_62 ?_
        refine dpX10_162 C dX10_stayed_63 (fun w5 => ?_)
        refine dx_aload_n C 0 dX10_stayed_66 rfl rfl ?_
        refine dgX10_162 C dX10_stayed_67 ?_
        exact dx_iret2 C hr hlk dX10_stayed_70 (fun h => h)
      · refine dx_ldc C kcX10_90 dX10_stayed_33 ?_
        exact dx_iret2 C hr hlk dX10_stayed_35 (fun h => h)
    · refine dx_ldc C kcX10_86 dX10_stayed_21 ?_
      exact dx_iret2 C hr hlk dX10_stayed_23 (fun h => h)
  · refine dx_ldc C kcX10_193 dX10_stayed_8 ?_
    exact dx_iret2 C hr hlk dX10_stayed_10 (fun h => h)
def f_X10_couldBe (w : Mem) : Option (Int32) :=
  (lp (S := (Int32 × Int32)) (T := Int32) (fun s4 => (if s4.2 < (w 134 17) then (lp (S := (Int32 × Int32)) (T := Int32) (fun s17 => (if s17.2 < (w 134 34) then ((if s17.1 = 0 then some ((0 : Int32)) else rd 6 (w 150) s17.2 fun x2 => (f_X10_stayOf x2 s4.2 w).bind fun r3 => rd 6 (w 151) s17.2 fun x4 => (if r3 = x4 then some ((1 : Int32)) else some ((0 : Int32)))) : Option Int32).bind fun v1 => some (Sum.inl (v1, (s17.2 + (1 : Int32)))) else some (Sum.inr s17.1))) 5000000000 ((1 : Int32), (0 : Int32))).bind fun v5 => ((if v5 = 0 then some ((0 : Int32)) else some (((1 : Int32) <<< (s4.2 &&& 31)))) : Option Int32).bind fun v6 => some (Sum.inl ((s4.1 ||| v6), (s4.2 + (1 : Int32)))) else some (Sum.inr s4.1))) 5000000000 ((0 : Int32), (0 : Int32))).bind fun v7 => some (v7)
set_option maxRecDepth 20000 in
set_option maxHeartbeats 4000000 in
theorem tf_X10_couldBe {G : GT} {l : Launch} {z n : Nat} (w : Mem) (q : Int32) (hq : f_X10_couldBe w = some q) : Mt G l z yX10_couldBe cX10_couldBe 5 (some .int) { frames := 2, cells := 0, slots := 0, locals := 45 } [.ref (z + 134)] (hp G z w) n (some (.int q)) (hp G z w) n := by
  refine mt_of (by decide +kernel) (Nat.le_of_ble_eq_true rfl) ?_
  intro p e s m below meth c C hr hlk hnm
  refine (?_ : DX p l e _ s m _ below meth c G z 5 n _ (fun v => v = q) 0 [(0, .ref (z + 134))] [] w (f_X10_couldBe w)) q hq rfl
  unfold f_X10_couldBe
  refine dx_iconst (v := (0 : Int32)) C dX10_couldBe_0 (by decide) ?_
  refine dx_istore_n C [(1, .int (0 : Int32)), (0, .ref (z + 134))] dX10_couldBe_1 rfl (by decide) rfl ?_
  refine dx_iconst (v := (0 : Int32)) C dX10_couldBe_2 (by decide) ?_
  refine dx_istore_n C [(2, .int (0 : Int32)), (1, .int (0 : Int32)), (0, .ref (z + 134))] dX10_couldBe_3 rfl (by decide) rfl ?_
  refine dx_mv (lo2 := [(0, .ref (z + 134)), (1, .int (0 : Int32)), (2, .int (0 : Int32))]) [2, 1, 0] rfl ?_
  refine dx_bind 84 (fun v7 => [(1, .int v7)]) (fun v7 => []) (fun v7 => w) (fun v7 => (?_ : DX p l e _ s m _ below meth c G z 5 n _ _ 84 [(1, .int v7)] [] w _)) ?_
  · refine dx_iload_n C 0 dX10_couldBe_84 rfl rfl ?_
    exact dx_iret1 C hr hlk dX10_couldBe_85 (fun h => h)
  · refine dx_lp (fun s4 => [(0, .ref (z + 134)), (1, .int s4.1), (2, .int s4.2)]) [] (fun s4 => w) (fun s4 => (?_ : DX p l e _ s m _ below meth c G z 5 n _ _ 4 [(0, .ref (z + 134)), (1, .int s4.1), (2, .int s4.2)] [] w _)) 5000000000 ((0 : Int32), (0 : Int32))
    refine dx_iload_n C 2 dX10_couldBe_4 rfl rfl ?_
    refine dx_aload_n C 0 dX10_couldBe_5 rfl rfl ?_
    refine dgX10_153 C dX10_couldBe_6 ?_
    refine dx_icmp_ge C 84 dX10_couldBe_9 (by decide) ?_ ?_
    · refine dx_mv (lo2 := [(1, .int s4.1)]) [1] rfl ?_
      exact dx_end (fun h => h)
    · refine dx_iconst (v := (1 : Int32)) C dX10_couldBe_12 (by decide) ?_
      refine dx_istore_n C [(3, .int (1 : Int32)), (0, .ref (z + 134)), (1, .int s4.1), (2, .int s4.2)] dX10_couldBe_13 rfl (by decide) rfl ?_
      refine dx_iconst (v := (0 : Int32)) C dX10_couldBe_14 (by decide) ?_
      refine dx_istore C [(4, .int (0 : Int32)), (3, .int (1 : Int32)), (0, .ref (z + 134)), (1, .int s4.1), (2, .int s4.2)] dX10_couldBe_15 (by decide) rfl ?_
      refine dx_mv (lo2 := [(0, .ref (z + 134)), (1, .int s4.1), (2, .int s4.2), (3, .int (1 : Int32)), (4, .int (0 : Int32))]) [2, 3, 4, 1, 0] rfl ?_
      refine dx_bind 64 (fun v5 => [(0, .ref (z + 134)), (1, .int s4.1), (2, .int s4.2), (3, .int v5)]) (fun v5 => []) (fun v5 => w) (fun v5 => (?_ : DX p l e _ s m _ below meth c G z 5 n _ _ 64 [(0, .ref (z + 134)), (1, .int s4.1), (2, .int s4.2), (3, .int v5)] [] w _)) ?_
      · refine dx_iload_n C 1 dX10_couldBe_64 rfl rfl ?_
        refine dx_iload_n C 3 dX10_couldBe_65 rfl rfl ?_
        refine dx_bind 76 (fun v6 => [(0, .ref (z + 134)), (2, .int s4.2)]) (fun v6 => [.int v6, .int s4.1]) (fun v6 => w) (fun v6 => (?_ : DX p l e _ s m _ below meth c G z 5 n _ _ 76 [(0, .ref (z + 134)), (2, .int s4.2)] [.int v6, .int s4.1] w _)) ?_
        · refine dx_ior C dX10_couldBe_76 ?_
          refine dx_istore_n C [(1, .int (s4.1 ||| v6)), (0, .ref (z + 134)), (2, .int s4.2)] dX10_couldBe_77 rfl (by decide) rfl ?_
          refine dx_iinc (v := (s4.2 + (1 : Int32))) C 2 [(2, .int (s4.2 + (1 : Int32))), (1, .int (s4.1 ||| v6)), (0, .ref (z + 134))] dX10_couldBe_78 rfl rfl (by decide) rfl ?_
          refine dx_goto C 4 dX10_couldBe_81 (by decide) ?_
          refine dx_mv (lo2 := [(0, .ref (z + 134)), (1, .int (s4.1 ||| v6)), (2, .int (s4.2 + (1 : Int32)))]) [2, 1, 0] rfl ?_
          exact dx_end (fun h => h)
        · refine dx_if_eq C 75 dX10_couldBe_66 (by decide) ?_ ?_
          · refine dx_iconst (v := (0 : Int32)) C dX10_couldBe_75 (by decide) ?_
            refine dx_mv (lo2 := [(0, .ref (z + 134)), (2, .int s4.2)]) [0, 2] rfl ?_
            exact dx_end (fun h => h)
          · refine dx_iconst (v := (1 : Int32)) C dX10_couldBe_69 (by decide) ?_
            refine dx_iload_n C 2 dX10_couldBe_70 rfl rfl ?_
            refine dx_ishl C dX10_couldBe_71 ?_
            refine dx_goto C 76 dX10_couldBe_72 (by decide) ?_
            refine dx_mv (lo2 := [(0, .ref (z + 134)), (2, .int s4.2)]) [0, 2] rfl ?_
            exact dx_end (fun h => h)
      · refine dx_lp (fun s17 => [(0, .ref (z + 134)), (1, .int s4.1), (2, .int s4.2), (3, .int s17.1), (4, .int s17.2)]) [] (fun s17 => w) (fun s17 => (?_ : DX p l e _ s m _ below meth c G z 5 n _ _ 17 [(0, .ref (z + 134)), (1, .int s4.1), (2, .int s4.2), (3, .int s17.1), (4, .int s17.2)] [] w _)) 5000000000 ((1 : Int32), (0 : Int32))
        refine dx_iload C 4 dX10_couldBe_17 rfl ?_
        refine dx_aload_n C 0 dX10_couldBe_19 rfl rfl ?_
        refine dgX10_162 C dX10_couldBe_20 ?_
        refine dx_icmp_ge C 64 dX10_couldBe_23 (by decide) ?_ ?_
        · refine dx_mv (lo2 := [(0, .ref (z + 134)), (1, .int s4.1), (2, .int s4.2), (3, .int s17.1)]) [0, 1, 2, 3] rfl ?_
          exact dx_end (fun h => h)
        · refine dx_iload_n C 3 dX10_couldBe_26 rfl rfl ?_
          refine dx_bind 57 (fun v1 => [(0, .ref (z + 134)), (1, .int s4.1), (2, .int s4.2), (4, .int s17.2)]) (fun v1 => [.int v1]) (fun v1 => w) (fun v1 => (?_ : DX p l e _ s m _ below meth c G z 5 n _ _ 57 [(0, .ref (z + 134)), (1, .int s4.1), (2, .int s4.2), (4, .int s17.2)] [.int v1] w _)) ?_
          · refine dx_istore_n C [(3, .int v1), (0, .ref (z + 134)), (1, .int s4.1), (2, .int s4.2), (4, .int s17.2)] dX10_couldBe_57 rfl (by decide) rfl ?_
            refine dx_iinc (v := (s17.2 + (1 : Int32))) C 4 [(4, .int (s17.2 + (1 : Int32))), (3, .int v1), (0, .ref (z + 134)), (1, .int s4.1), (2, .int s4.2)] dX10_couldBe_58 rfl rfl (by decide) rfl ?_
            refine dx_goto C 17 dX10_couldBe_61 (by decide) ?_
            refine dx_mv (lo2 := [(0, .ref (z + 134)), (1, .int s4.1), (2, .int s4.2), (3, .int v1), (4, .int (s17.2 + (1 : Int32)))]) [2, 3, 4, 1, 0] rfl ?_
            exact dx_end (fun h => h)
          · refine dx_if_eq C 56 dX10_couldBe_27 (by decide) ?_ ?_
            · refine dx_iconst (v := (0 : Int32)) C dX10_couldBe_56 (by decide) ?_
              refine dx_mv (lo2 := [(0, .ref (z + 134)), (1, .int s4.1), (2, .int s4.2), (4, .int s17.2)]) [0, 1, 2, 4] rfl ?_
              exact dx_end (fun h => h)
            · refine dx_aload_n C 0 dX10_couldBe_30 rfl rfl ?_
              refine dx_aload_n C 0 dX10_couldBe_31 rfl rfl ?_
              refine dgX10_59 C dX10_couldBe_32 ?_
              refine dx_iload C 4 dX10_couldBe_35 rfl ?_
              refine dx_rd C ly_150 dX10_couldBe_37 (fun x2 => ?_)
              refine dx_iload_n C 2 dX10_couldBe_38 rfl rfl ?_
              refine dx_callV1 C cl_X10_stayOf kmX10_200 (ci := 9) (b := 134) (As := [.int x2, .int s4.2]) (rest := []) rfl (hp_of ly_134) (tf_X10_stayOf x2 s4.2 w) rfl rfl (Nat.le_of_ble_eq_true rfl) ⟨Nat.le_of_ble_eq_true rfl, Nat.le_of_ble_eq_true rfl⟩ dX10_couldBe_39 (fun r3 => ?_)
              refine dx_aload_n C 0 dX10_couldBe_42 rfl rfl ?_
              refine dgX10_62 C dX10_couldBe_43 ?_
              refine dx_iload C 4 dX10_couldBe_46 rfl ?_
              refine dx_rd C ly_151 dX10_couldBe_48 (fun x4 => ?_)
              refine dx_icmp_ne C 56 dX10_couldBe_49 (by decide) ?_ ?_
              · refine dx_iconst (v := (0 : Int32)) C dX10_couldBe_56 (by decide) ?_
                refine dx_mv (lo2 := [(0, .ref (z + 134)), (1, .int s4.1), (2, .int s4.2), (4, .int s17.2)]) [0, 1, 2, 4] rfl ?_
                exact dx_end (fun h => h)
              · refine dx_iconst (v := (1 : Int32)) C dX10_couldBe_52 (by decide) ?_
                refine dx_goto C 57 dX10_couldBe_53 (by decide) ?_
                refine dx_mv (lo2 := [(0, .ref (z + 134)), (1, .int s4.1), (2, .int s4.2), (4, .int s17.2)]) [0, 1, 2, 4] rfl ?_
                exact dx_end (fun h => h)
def f_X10_alike (a1 : Int32) (a2 : Int32) (w : Mem) : Option (Int32) :=
  (lp (S := (Int32 × Int32)) (T := Int32) (fun s5 => (if s5.2 < (w 134 17) then (lp (S := (Int32 × Int32)) (T := Int32) (fun s20 => (if s20.2 < (w 134 17) then (f_X10_has a1 s5.2).bind fun r1 => ((if r1 = 0 then some ((0 : Int32)) else (f_X10_has a1 s20.2).bind fun r3 => (if r3 = 0 then some ((0 : Int32)) else (f_X10_stayOf a2 s5.2 w).bind fun r4 => (f_X10_stayOf a2 s20.2 w).bind fun r5 => (if r4 = r5 then some ((1 : Int32)) else some ((0 : Int32))))) : Option Int32).bind fun v2 => some (Sum.inl ((s20.1 + v2), (s20.2 + (1 : Int32)))) else some (Sum.inr s20.1))) 5000000000 ((0 : Int32), (0 : Int32))).bind fun v6 => ((if s5.1 < v6 then some (v6) else some (s5.1)) : Option Int32).bind fun v7 => some (Sum.inl (v7, (s5.2 + (1 : Int32)))) else some (Sum.inr s5.1))) 5000000000 ((0 : Int32), (0 : Int32))).bind fun v8 => some (v8)
set_option maxRecDepth 20000 in
set_option maxHeartbeats 4000000 in
theorem tf_X10_alike {G : GT} {l : Launch} {z n : Nat} (a1 : Int32) (a2 : Int32) (w : Mem) (q : Int32) (hq : f_X10_alike a1 a2 w = some q) : Mt G l z yX10_alike cX10_alike 7 (some .int) { frames := 2, cells := 0, slots := 0, locals := 45 } [.ref (z + 134), .int a1, .int a2] (hp G z w) n (some (.int q)) (hp G z w) n := by
  refine mt_of (by decide +kernel) (Nat.le_of_ble_eq_true rfl) ?_
  intro p e s m below meth c C hr hlk hnm
  refine (?_ : DX p l e _ s m _ below meth c G z 7 n _ (fun v => v = q) 0 [(0, .ref (z + 134)), (1, .int a1), (2, .int a2)] [] w (f_X10_alike a1 a2 w)) q hq rfl
  unfold f_X10_alike
  refine dx_iconst (v := (0 : Int32)) C dX10_alike_0 (by decide) ?_
  refine dx_istore_n C [(3, .int (0 : Int32)), (0, .ref (z + 134)), (1, .int a1), (2, .int a2)] dX10_alike_1 rfl (by decide) rfl ?_
  refine dx_iconst (v := (0 : Int32)) C dX10_alike_2 (by decide) ?_
  refine dx_istore C [(4, .int (0 : Int32)), (3, .int (0 : Int32)), (0, .ref (z + 134)), (1, .int a1), (2, .int a2)] dX10_alike_3 (by decide) rfl ?_
  refine dx_mv (lo2 := [(0, .ref (z + 134)), (1, .int a1), (2, .int a2), (3, .int (0 : Int32)), (4, .int (0 : Int32))]) [2, 3, 4, 1, 0] rfl ?_
  refine dx_bind 99 (fun v8 => [(3, .int v8)]) (fun v8 => []) (fun v8 => w) (fun v8 => (?_ : DX p l e _ s m _ below meth c G z 7 n _ _ 99 [(3, .int v8)] [] w _)) ?_
  · refine dx_iload_n C 0 dX10_alike_99 rfl rfl ?_
    exact dx_iret1 C hr hlk dX10_alike_100 (fun h => h)
  · refine dx_lp (fun s5 => [(0, .ref (z + 134)), (1, .int a1), (2, .int a2), (3, .int s5.1), (4, .int s5.2)]) [] (fun s5 => w) (fun s5 => (?_ : DX p l e _ s m _ below meth c G z 7 n _ _ 5 [(0, .ref (z + 134)), (1, .int a1), (2, .int a2), (3, .int s5.1), (4, .int s5.2)] [] w _)) 5000000000 ((0 : Int32), (0 : Int32))
    refine dx_iload C 4 dX10_alike_5 rfl ?_
    refine dx_aload_n C 0 dX10_alike_7 rfl rfl ?_
    refine dgX10_153 C dX10_alike_8 ?_
    refine dx_icmp_ge C 99 dX10_alike_11 (by decide) ?_ ?_
    · refine dx_mv (lo2 := [(3, .int s5.1)]) [3] rfl ?_
      exact dx_end (fun h => h)
    · refine dx_iconst (v := (0 : Int32)) C dX10_alike_14 (by decide) ?_
      refine dx_istore C [(5, .int (0 : Int32)), (0, .ref (z + 134)), (1, .int a1), (2, .int a2), (3, .int s5.1), (4, .int s5.2)] dX10_alike_15 (by decide) rfl ?_
      refine dx_iconst (v := (0 : Int32)) C dX10_alike_17 (by decide) ?_
      refine dx_istore C [(6, .int (0 : Int32)), (5, .int (0 : Int32)), (0, .ref (z + 134)), (1, .int a1), (2, .int a2), (3, .int s5.1), (4, .int s5.2)] dX10_alike_18 (by decide) rfl ?_
      refine dx_mv (lo2 := [(0, .ref (z + 134)), (1, .int a1), (2, .int a2), (3, .int s5.1), (4, .int s5.2), (5, .int (0 : Int32)), (6, .int (0 : Int32))]) [2, 3, 4, 5, 6, 1, 0] rfl ?_
      refine dx_bind 80 (fun v6 => [(0, .ref (z + 134)), (1, .int a1), (2, .int a2), (3, .int s5.1), (4, .int s5.2), (5, .int v6)]) (fun v6 => []) (fun v6 => w) (fun v6 => (?_ : DX p l e _ s m _ below meth c G z 7 n _ _ 80 [(0, .ref (z + 134)), (1, .int a1), (2, .int a2), (3, .int s5.1), (4, .int s5.2), (5, .int v6)] [] w _)) ?_
      · refine dx_iload C 5 dX10_alike_80 rfl ?_
        refine dx_iload_n C 3 dX10_alike_82 rfl rfl ?_
        refine dx_bind 92 (fun v7 => [(0, .ref (z + 134)), (1, .int a1), (2, .int a2), (4, .int s5.2)]) (fun v7 => [.int v7]) (fun v7 => w) (fun v7 => (?_ : DX p l e _ s m _ below meth c G z 7 n _ _ 92 [(0, .ref (z + 134)), (1, .int a1), (2, .int a2), (4, .int s5.2)] [.int v7] w _)) ?_
        · refine dx_istore_n C [(3, .int v7), (0, .ref (z + 134)), (1, .int a1), (2, .int a2), (4, .int s5.2)] dX10_alike_92 rfl (by decide) rfl ?_
          refine dx_iinc (v := (s5.2 + (1 : Int32))) C 4 [(4, .int (s5.2 + (1 : Int32))), (3, .int v7), (0, .ref (z + 134)), (1, .int a1), (2, .int a2)] dX10_alike_93 rfl rfl (by decide) rfl ?_
          refine dx_goto C 5 dX10_alike_96 (by decide) ?_
          refine dx_mv (lo2 := [(0, .ref (z + 134)), (1, .int a1), (2, .int a2), (3, .int v7), (4, .int (s5.2 + (1 : Int32)))]) [2, 3, 4, 1, 0] rfl ?_
          exact dx_end (fun h => h)
        · refine dx_icmp_le C 91 dX10_alike_83 (by decide) ?_ ?_
          · refine dx_iload_n C 3 dX10_alike_91 rfl rfl ?_
            refine dx_mv (lo2 := [(0, .ref (z + 134)), (1, .int a1), (2, .int a2), (4, .int s5.2)]) [0, 1, 2, 4] rfl ?_
            exact dx_end (fun h => h)
          · refine dx_iload C 5 dX10_alike_86 rfl ?_
            refine dx_goto C 92 dX10_alike_88 (by decide) ?_
            refine dx_mv (lo2 := [(0, .ref (z + 134)), (1, .int a1), (2, .int a2), (4, .int s5.2)]) [0, 1, 2, 4] rfl ?_
            exact dx_end (fun h => h)
      · refine dx_lp (fun s20 => [(0, .ref (z + 134)), (1, .int a1), (2, .int a2), (3, .int s5.1), (4, .int s5.2), (5, .int s20.1), (6, .int s20.2)]) [] (fun s20 => w) (fun s20 => (?_ : DX p l e _ s m _ below meth c G z 7 n _ _ 20 [(0, .ref (z + 134)), (1, .int a1), (2, .int a2), (3, .int s5.1), (4, .int s5.2), (5, .int s20.1), (6, .int s20.2)] [] w _)) 5000000000 ((0 : Int32), (0 : Int32))
        refine dx_iload C 6 dX10_alike_20 rfl ?_
        refine dx_aload_n C 0 dX10_alike_22 rfl rfl ?_
        refine dgX10_153 C dX10_alike_23 ?_
        refine dx_icmp_ge C 80 dX10_alike_26 (by decide) ?_ ?_
        · refine dx_mv (lo2 := [(0, .ref (z + 134)), (1, .int a1), (2, .int a2), (3, .int s5.1), (4, .int s5.2), (5, .int s20.1)]) [0, 1, 2, 3, 4, 5] rfl ?_
          exact dx_end (fun h => h)
        · refine dx_iload C 5 dX10_alike_29 rfl ?_
          refine dx_iload_n C 1 dX10_alike_31 rfl rfl ?_
          refine dx_iload C 4 dX10_alike_32 rfl ?_
          refine dx_callS1 C cl_X10_has kmX10_168 (As := [.int a1, .int s5.2]) (rest := [.int s20.1]) (tf_X10_has a1 s5.2 w) rfl rfl (Nat.le_of_ble_eq_true rfl) ⟨Nat.le_of_ble_eq_true rfl, Nat.le_of_ble_eq_true rfl⟩ dX10_alike_34 (fun r1 => ?_)
          refine dx_bind 71 (fun v2 => [(0, .ref (z + 134)), (1, .int a1), (2, .int a2), (3, .int s5.1), (4, .int s5.2), (6, .int s20.2)]) (fun v2 => [.int v2, .int s20.1]) (fun v2 => w) (fun v2 => (?_ : DX p l e _ s m _ below meth c G z 7 n _ _ 71 [(0, .ref (z + 134)), (1, .int a1), (2, .int a2), (3, .int s5.1), (4, .int s5.2), (6, .int s20.2)] [.int v2, .int s20.1] w _)) ?_
          · refine dx_iadd C dX10_alike_71 ?_
            refine dx_istore C [(5, .int (s20.1 + v2)), (0, .ref (z + 134)), (1, .int a1), (2, .int a2), (3, .int s5.1), (4, .int s5.2), (6, .int s20.2)] dX10_alike_72 (by decide) rfl ?_
            refine dx_iinc (v := (s20.2 + (1 : Int32))) C 6 [(6, .int (s20.2 + (1 : Int32))), (5, .int (s20.1 + v2)), (0, .ref (z + 134)), (1, .int a1), (2, .int a2), (3, .int s5.1), (4, .int s5.2)] dX10_alike_74 rfl rfl (by decide) rfl ?_
            refine dx_goto C 20 dX10_alike_77 (by decide) ?_
            refine dx_mv (lo2 := [(0, .ref (z + 134)), (1, .int a1), (2, .int a2), (3, .int s5.1), (4, .int s5.2), (5, .int (s20.1 + v2)), (6, .int (s20.2 + (1 : Int32)))]) [2, 3, 4, 5, 6, 1, 0] rfl ?_
            exact dx_end (fun h => h)
          · refine dx_if_eq C 70 dX10_alike_37 (by decide) ?_ ?_
            · refine dx_iconst (v := (0 : Int32)) C dX10_alike_70 (by decide) ?_
              refine dx_mv (lo2 := [(0, .ref (z + 134)), (1, .int a1), (2, .int a2), (3, .int s5.1), (4, .int s5.2), (6, .int s20.2)]) [0, 1, 2, 3, 4, 6] rfl ?_
              exact dx_end (fun h => h)
            · refine dx_iload_n C 1 dX10_alike_40 rfl rfl ?_
              refine dx_iload C 6 dX10_alike_41 rfl ?_
              refine dx_callS1 C cl_X10_has kmX10_168 (As := [.int a1, .int s20.2]) (rest := [.int s20.1]) (tf_X10_has a1 s20.2 w) rfl rfl (Nat.le_of_ble_eq_true rfl) ⟨Nat.le_of_ble_eq_true rfl, Nat.le_of_ble_eq_true rfl⟩ dX10_alike_43 (fun r3 => ?_)
              refine dx_if_eq C 70 dX10_alike_46 (by decide) ?_ ?_
              · refine dx_iconst (v := (0 : Int32)) C dX10_alike_70 (by decide) ?_
                refine dx_mv (lo2 := [(0, .ref (z + 134)), (1, .int a1), (2, .int a2), (3, .int s5.1), (4, .int s5.2), (6, .int s20.2)]) [0, 1, 2, 3, 4, 6] rfl ?_
                exact dx_end (fun h => h)
              · refine dx_aload_n C 0 dX10_alike_49 rfl rfl ?_
                refine dx_iload_n C 2 dX10_alike_50 rfl rfl ?_
                refine dx_iload C 4 dX10_alike_51 rfl ?_
                refine dx_callV1 C cl_X10_stayOf kmX10_200 (ci := 9) (b := 134) (As := [.int a2, .int s5.2]) (rest := [.int s20.1]) rfl (hp_of ly_134) (tf_X10_stayOf a2 s5.2 w) rfl rfl (Nat.le_of_ble_eq_true rfl) ⟨Nat.le_of_ble_eq_true rfl, Nat.le_of_ble_eq_true rfl⟩ dX10_alike_53 (fun r4 => ?_)
                refine dx_aload_n C 0 dX10_alike_56 rfl rfl ?_
                refine dx_iload_n C 2 dX10_alike_57 rfl rfl ?_
                refine dx_iload C 6 dX10_alike_58 rfl ?_
                refine dx_callV1 C cl_X10_stayOf kmX10_200 (ci := 9) (b := 134) (As := [.int a2, .int s20.2]) (rest := [.int r4, .int s20.1]) rfl (hp_of ly_134) (tf_X10_stayOf a2 s20.2 w) rfl rfl (Nat.le_of_ble_eq_true rfl) ⟨Nat.le_of_ble_eq_true rfl, Nat.le_of_ble_eq_true rfl⟩ dX10_alike_60 (fun r5 => ?_)
                refine dx_icmp_ne C 70 dX10_alike_63 (by decide) ?_ ?_
                · refine dx_iconst (v := (0 : Int32)) C dX10_alike_70 (by decide) ?_
                  refine dx_mv (lo2 := [(0, .ref (z + 134)), (1, .int a1), (2, .int a2), (3, .int s5.1), (4, .int s5.2), (6, .int s20.2)]) [0, 1, 2, 3, 4, 6] rfl ?_
                  exact dx_end (fun h => h)
                · refine dx_iconst (v := (1 : Int32)) C dX10_alike_66 (by decide) ?_
                  refine dx_goto C 71 dX10_alike_67 (by decide) ?_
                  refine dx_mv (lo2 := [(0, .ref (z + 134)), (1, .int a1), (2, .int a2), (3, .int s5.1), (4, .int s5.2), (6, .int s20.2)]) [0, 1, 2, 3, 4, 6] rfl ?_
                  exact dx_end (fun h => h)
def f_X10_ask (w : Mem) : Option (Int32) :=
  (f_X10_couldBe w).bind fun r1 => (f_X10_bits r1).bind fun r2 => (lp (S := (Int32 × Int32 × Int32)) (T := Int32) (fun s15 => (if s15.2.2 < (w 134 18) then (f_X10_alike r1 s15.2.2 w).bind fun r3 => ((if r3 < s15.2.1 then some (s15.2.2) else some (s15.1)) : Option Int32).bind fun v4 => ((if r3 < s15.2.1 then some (r3) else some (s15.2.1)) : Option Int32).bind fun v5 => some (Sum.inl (v4, v5, (s15.2.2 + (1 : Int32)))) else some (Sum.inr s15.1))) 5000000000 ((-1 : Int32), r2, (0 : Int32))).bind fun v6 => some (v6)
set_option maxRecDepth 20000 in
set_option maxHeartbeats 4000000 in
theorem tf_X10_ask {G : GT} {l : Launch} {z n : Nat} (w : Mem) (q : Int32) (hq : f_X10_ask w = some q) : Mt G l z yX10_ask cX10_ask 6 (some .int) { frames := 3, cells := 0, slots := 0, locals := 71 } [.ref (z + 134)] (hp G z w) n (some (.int q)) (hp G z w) n := by
  refine mt_of (by decide +kernel) (Nat.le_of_ble_eq_true rfl) ?_
  intro p e s m below meth c C hr hlk hnm
  refine (?_ : DX p l e _ s m _ below meth c G z 6 n _ (fun v => v = q) 0 [(0, .ref (z + 134))] [] w (f_X10_ask w)) q hq rfl
  unfold f_X10_ask
  refine dx_aload_n C 0 dX10_ask_0 rfl rfl ?_
  refine dx_callV1 C cl_X10_couldBe kmX10_290 (ci := 9) (b := 134) (As := []) (rest := []) rfl (hp_of ly_134) (tf_X10_couldBe w) rfl rfl (Nat.le_of_ble_eq_true rfl) ⟨Nat.le_of_ble_eq_true rfl, Nat.le_of_ble_eq_true rfl⟩ dX10_ask_1 (fun r1 => ?_)
  refine dx_istore_n C [(1, .int r1), (0, .ref (z + 134))] dX10_ask_4 rfl (by decide) rfl ?_
  refine dx_iconst (v := (-1 : Int32)) C dX10_ask_5 (by decide) ?_
  refine dx_istore_n C [(2, .int (-1 : Int32)), (1, .int r1), (0, .ref (z + 134))] dX10_ask_6 rfl (by decide) rfl ?_
  refine dx_iload_n C 1 dX10_ask_7 rfl rfl ?_
  refine dx_callS1 C cl_X10_bits kmX10_172 (As := [.int r1]) (rest := []) (tf_X10_bits r1 w) rfl rfl (Nat.le_of_ble_eq_true rfl) ⟨Nat.le_of_ble_eq_true rfl, Nat.le_of_ble_eq_true rfl⟩ dX10_ask_8 (fun r2 => ?_)
  refine dx_istore_n C [(3, .int r2), (2, .int (-1 : Int32)), (1, .int r1), (0, .ref (z + 134))] dX10_ask_11 rfl (by decide) rfl ?_
  refine dx_iconst (v := (0 : Int32)) C dX10_ask_12 (by decide) ?_
  refine dx_istore C [(4, .int (0 : Int32)), (3, .int r2), (2, .int (-1 : Int32)), (1, .int r1), (0, .ref (z + 134))] dX10_ask_13 (by decide) rfl ?_
  refine dx_mv (lo2 := [(0, .ref (z + 134)), (1, .int r1), (2, .int (-1 : Int32)), (3, .int r2), (4, .int (0 : Int32))]) [4, 3, 2, 1, 0] rfl ?_
  refine dx_bind 65 (fun v6 => [(2, .int v6)]) (fun v6 => []) (fun v6 => w) (fun v6 => (?_ : DX p l e _ s m _ below meth c G z 6 n _ _ 65 [(2, .int v6)] [] w _)) ?_
  · refine dx_iload_n C 0 dX10_ask_65 rfl rfl ?_
    exact dx_iret1 C hr hlk dX10_ask_66 (fun h => h)
  · refine dx_lp (fun s15 => [(0, .ref (z + 134)), (1, .int r1), (2, .int s15.1), (3, .int s15.2.1), (4, .int s15.2.2)]) [] (fun s15 => w) (fun s15 => (?_ : DX p l e _ s m _ below meth c G z 6 n _ _ 15 [(0, .ref (z + 134)), (1, .int r1), (2, .int s15.1), (3, .int s15.2.1), (4, .int s15.2.2)] [] w _)) 5000000000 ((-1 : Int32), r2, (0 : Int32))
    refine dx_iload C 4 dX10_ask_15 rfl ?_
    refine dx_aload_n C 0 dX10_ask_17 rfl rfl ?_
    refine dgX10_156 C dX10_ask_18 ?_
    refine dx_icmp_ge C 65 dX10_ask_21 (by decide) ?_ ?_
    · refine dx_mv (lo2 := [(2, .int s15.1)]) [2] rfl ?_
      exact dx_end (fun h => h)
    · refine dx_aload_n C 0 dX10_ask_24 rfl rfl ?_
      refine dx_iload_n C 1 dX10_ask_25 rfl rfl ?_
      refine dx_iload C 4 dX10_ask_26 rfl ?_
      refine dx_callV1 C cl_X10_alike kmX10_293 (ci := 9) (b := 134) (As := [.int r1, .int s15.2.2]) (rest := []) rfl (hp_of ly_134) (tf_X10_alike r1 s15.2.2 w) rfl rfl (Nat.le_of_ble_eq_true rfl) ⟨Nat.le_of_ble_eq_true rfl, Nat.le_of_ble_eq_true rfl⟩ dX10_ask_28 (fun r3 => ?_)
      refine dx_istore C [(5, .int r3), (0, .ref (z + 134)), (1, .int r1), (2, .int s15.1), (3, .int s15.2.1), (4, .int s15.2.2)] dX10_ask_31 (by decide) rfl ?_
      refine dx_iload C 0 dX10_ask_33 rfl ?_
      refine dx_iload_n C 4 dX10_ask_35 rfl rfl ?_
      refine dx_bind 45 (fun v4 => [(0, .ref (z + 134)), (1, .int r1), (3, .int s15.2.1), (4, .int s15.2.2), (5, .int r3)]) (fun v4 => [.int v4]) (fun v4 => w) (fun v4 => (?_ : DX p l e _ s m _ below meth c G z 6 n _ _ 45 [(0, .ref (z + 134)), (1, .int r1), (3, .int s15.2.1), (4, .int s15.2.2), (5, .int r3)] [.int v4] w _)) ?_
      · refine dx_istore_n C [(2, .int v4), (0, .ref (z + 134)), (1, .int r1), (3, .int s15.2.1), (4, .int s15.2.2), (5, .int r3)] dX10_ask_45 rfl (by decide) rfl ?_
        refine dx_iload C 5 dX10_ask_46 rfl ?_
        refine dx_iload_n C 3 dX10_ask_48 rfl rfl ?_
        refine dx_bind 58 (fun v5 => [(0, .ref (z + 134)), (1, .int r1), (2, .int v4), (4, .int s15.2.2)]) (fun v5 => [.int v5]) (fun v5 => w) (fun v5 => (?_ : DX p l e _ s m _ below meth c G z 6 n _ _ 58 [(0, .ref (z + 134)), (1, .int r1), (2, .int v4), (4, .int s15.2.2)] [.int v5] w _)) ?_
        · refine dx_istore_n C [(3, .int v5), (0, .ref (z + 134)), (1, .int r1), (2, .int v4), (4, .int s15.2.2)] dX10_ask_58 rfl (by decide) rfl ?_
          refine dx_iinc (v := (s15.2.2 + (1 : Int32))) C 4 [(4, .int (s15.2.2 + (1 : Int32))), (3, .int v5), (0, .ref (z + 134)), (1, .int r1), (2, .int v4)] dX10_ask_59 rfl rfl (by decide) rfl ?_
          refine dx_goto C 15 dX10_ask_62 (by decide) ?_
          refine dx_mv (lo2 := [(0, .ref (z + 134)), (1, .int r1), (2, .int v4), (3, .int v5), (4, .int (s15.2.2 + (1 : Int32)))]) [2, 3, 4, 1, 0] rfl ?_
          exact dx_end (fun h => h)
        · refine dx_icmp_ge C 57 dX10_ask_49 (by decide) ?_ ?_
          · refine dx_iload_n C 3 dX10_ask_57 rfl rfl ?_
            refine dx_mv (lo2 := [(0, .ref (z + 134)), (1, .int r1), (2, .int v4), (4, .int s15.2.2)]) [1, 2, 0, 4] rfl ?_
            exact dx_end (fun h => h)
          · refine dx_iload C 5 dX10_ask_52 rfl ?_
            refine dx_goto C 58 dX10_ask_54 (by decide) ?_
            refine dx_mv (lo2 := [(0, .ref (z + 134)), (1, .int r1), (2, .int v4), (4, .int s15.2.2)]) [1, 2, 0, 4] rfl ?_
            exact dx_end (fun h => h)
      · refine dx_icmp_ge C 44 dX10_ask_36 (by decide) ?_ ?_
        · refine dx_iload_n C 3 dX10_ask_44 rfl rfl ?_
          refine dx_mv (lo2 := [(0, .ref (z + 134)), (1, .int r1), (3, .int s15.2.1), (4, .int s15.2.2), (5, .int r3)]) [1, 2, 4, 5, 0] rfl ?_
          exact dx_end (fun h => h)
        · refine dx_iload C 5 dX10_ask_39 rfl ?_
          refine dx_goto C 45 dX10_ask_41 (by decide) ?_
          refine dx_mv (lo2 := [(0, .ref (z + 134)), (1, .int r1), (3, .int s15.2.1), (4, .int s15.2.2), (5, .int r3)]) [1, 2, 4, 5, 0] rfl ?_
          exact dx_end (fun h => h)
def f_X10_write (a1 : Int32) (a2 : Int32) (w : Mem) : Option (Int32 × Mem) :=
  (f_X10_isTraveller a1 w).bind fun r1 => (if r1 = 0 then some (((-1000000001 : Int32), w)) else (f_X10_in a2 (0 : Int32) (9999 : Int32)).bind fun r2 => (if r2 = 0 then some (((-1000000002 : Int32), w)) else (if (w 134 37) = (20 : Int32) then some (((-1000000004 : Int32), w)) else wr 20 152 (w 134 37) a1 w fun w3 => wr 20 153 (w3 134 37) a2 w3 fun w4 => pw 134 37 ((w4 134 37) + (1 : Int32)) w4 fun w5 => some (((w5 134 37), w5)))))
set_option maxRecDepth 20000 in
set_option maxHeartbeats 4000000 in
theorem tf_X10_write {G : GT} {l : Launch} {z n : Nat} (a1 : Int32) (a2 : Int32) (w : Mem) (q : Int32 × Mem) (hq : f_X10_write a1 a2 w = some q) : Mt G l z yX10_write cX10_write 3 (some .int) { frames := 2, cells := 0, slots := 0, locals := 43 } [.ref (z + 134), .int a1, .int a2] (hp G z w) n (some (.int q.1)) (hp G z q.2) n := by
  refine mt_of (by decide +kernel) (Nat.le_of_ble_eq_true rfl) ?_
  intro p e s m below meth c C hr hlk hnm
  refine (?_ : DX p l e _ s m _ below meth c G z 3 n _ (fun v => v = q) 0 [(0, .ref (z + 134)), (1, .int a1), (2, .int a2)] [] w (f_X10_write a1 a2 w)) q hq rfl
  unfold f_X10_write
  refine dx_aload_n C 0 dX10_write_0 rfl rfl ?_
  refine dx_iload_n C 1 dX10_write_1 rfl rfl ?_
  refine dx_callV1 C cl_X10_isTraveller kmX10_203 (ci := 9) (b := 134) (As := [.int a1]) (rest := []) rfl (hp_of ly_134) (tf_X10_isTraveller a1 w) rfl rfl (Nat.le_of_ble_eq_true rfl) ⟨Nat.le_of_ble_eq_true rfl, Nat.le_of_ble_eq_true rfl⟩ dX10_write_2 (fun r1 => ?_)
  refine dx_if_ne C 11 dX10_write_5 (by decide) ?_ ?_
  · refine dx_iload_n C 2 dX10_write_11 rfl rfl ?_
    refine dx_iconst (v := (0 : Int32)) C dX10_write_12 (by decide) ?_
    refine dx_sipush (v := (9999 : Int32)) C dX10_write_13 (by decide) ?_
    refine dx_callS1 C cl_X10_in kmX10_82 (As := [.int a2, .int (0 : Int32), .int (9999 : Int32)]) (rest := []) (tf_X10_in a2 (0 : Int32) (9999 : Int32) w) rfl rfl (Nat.le_of_ble_eq_true rfl) ⟨Nat.le_of_ble_eq_true rfl, Nat.le_of_ble_eq_true rfl⟩ dX10_write_16 (fun r2 => ?_)
    refine dx_if_ne C 25 dX10_write_19 (by decide) ?_ ?_
    · refine dx_aload_n C 0 dX10_write_25 rfl rfl ?_
      refine dgX10_165 C dX10_write_26 ?_
      refine dx_bipush (v := (20 : Int32)) C dX10_write_29 (by decide) ?_
      refine dx_icmp_ne C 37 dX10_write_31 (by decide) ?_ ?_
      · refine dx_aload_n C 0 dX10_write_37 rfl rfl ?_
        refine dgX10_65 C dX10_write_38 ?_
        refine dx_aload_n C 0 dX10_write_41 rfl rfl ?_
        refine dgX10_165 C dX10_write_42 ?_
        refine dx_iload_n C 1 dX10_write_45 rfl rfl ?_
        refine dx_wr C ly_152 dX10_write_46 (fun w3 => ?_)
        refine dx_aload_n C 0 dX10_write_47 rfl rfl ?_
        refine dgX10_68 C dX10_write_48 ?_
        refine dx_aload_n C 0 dX10_write_51 rfl rfl ?_
        refine dgX10_165 C dX10_write_52 ?_
        refine dx_iload_n C 2 dX10_write_55 rfl rfl ?_
        refine dx_wr C ly_153 dX10_write_56 (fun w4 => ?_)
        refine dx_aload_n C 0 dX10_write_57 rfl rfl ?_
        refine dx_dup C dX10_write_58 rfl ?_
        refine dgX10_165 C dX10_write_59 ?_
        refine dx_iconst (v := (1 : Int32)) C dX10_write_62 (by decide) ?_
        refine dx_iadd C dX10_write_63 ?_
        refine dpX10_165 C dX10_write_64 (fun w5 => ?_)
        refine dx_aload_n C 0 dX10_write_67 rfl rfl ?_
        refine dgX10_165 C dX10_write_68 ?_
        exact dx_iret2 C hr hlk dX10_write_71 (fun h => h)
      · refine dx_ldc C kcX10_90 dX10_write_34 ?_
        exact dx_iret2 C hr hlk dX10_write_36 (fun h => h)
    · refine dx_ldc C kcX10_86 dX10_write_22 ?_
      exact dx_iret2 C hr hlk dX10_write_24 (fun h => h)
  · refine dx_ldc C kcX10_193 dX10_write_8 ?_
    exact dx_iret2 C hr hlk dX10_write_10 (fun h => h)
def f_X10_judge (w : Mem) : Option (Int32) :=
  lp (S := Int32) (T := Int32) (fun s2 => (if s2 < (w 134 37) then rd 20 (w 152) s2 fun x1 => rd 25 (w 146) ((13 : Int32) + x1) fun x2 => rd 20 (w 153) s2 fun x3 => (if x2 = x3 then some (Sum.inl (s2 + (1 : Int32))) else some (Sum.inr (s2))) else some (Sum.inr ((-1 : Int32))))) 5000000000 (0 : Int32)
set_option maxRecDepth 20000 in
set_option maxHeartbeats 4000000 in
theorem tf_X10_judge {G : GT} {l : Launch} {z n : Nat} (w : Mem) (q : Int32) (hq : f_X10_judge w = some q) : Mt G l z yX10_judge cX10_judge 2 (some .int) { frames := 0, cells := 0, slots := 0, locals := 0 } [.ref (z + 134)] (hp G z w) n (some (.int q)) (hp G z w) n := by
  refine mt_of (by decide +kernel) (Nat.le_of_ble_eq_true rfl) ?_
  intro p e s m below meth c C hr hlk hnm
  refine (?_ : DX p l e _ s m _ below meth c G z 2 n _ (fun v => v = q) 0 [(0, .ref (z + 134))] [] w (f_X10_judge w)) q hq rfl
  unfold f_X10_judge
  refine dx_iconst (v := (0 : Int32)) C dX10_judge_0 (by decide) ?_
  refine dx_istore_n C [(1, .int (0 : Int32)), (0, .ref (z + 134))] dX10_judge_1 rfl (by decide) rfl ?_
  refine dx_mv (lo2 := [(0, .ref (z + 134)), (1, .int (0 : Int32))]) [1, 0] rfl ?_
  refine dx_lp (fun s2 => [(0, .ref (z + 134)), (1, .int s2)]) [] (fun s2 => w) (fun s2 => (?_ : DX p l e _ s m _ below meth c G z 2 n _ _ 2 [(0, .ref (z + 134)), (1, .int s2)] [] w _)) 5000000000 (0 : Int32)
  refine dx_iload_n C 1 dX10_judge_2 rfl rfl ?_
  refine dx_aload_n C 0 dX10_judge_3 rfl rfl ?_
  refine dgX10_165 C dX10_judge_4 ?_
  refine dx_icmp_ge C 41 dX10_judge_7 (by decide) ?_ ?_
  · refine dx_iconst (v := (-1 : Int32)) C dX10_judge_41 (by decide) ?_
    exact dx_iret1 C hr hlk dX10_judge_42 (fun h => h)
  · refine dx_aload_n C 0 dX10_judge_10 rfl rfl ?_
    refine dgX10_47 C dX10_judge_11 ?_
    refine dx_bipush (v := (13 : Int32)) C dX10_judge_14 (by decide) ?_
    refine dx_aload_n C 0 dX10_judge_16 rfl rfl ?_
    refine dgX10_65 C dX10_judge_17 ?_
    refine dx_iload_n C 1 dX10_judge_20 rfl rfl ?_
    refine dx_rd C ly_152 dX10_judge_21 (fun x1 => ?_)
    refine dx_iadd C dX10_judge_22 ?_
    refine dx_rd C ly_146 dX10_judge_23 (fun x2 => ?_)
    refine dx_aload_n C 0 dX10_judge_24 rfl rfl ?_
    refine dgX10_68 C dX10_judge_25 ?_
    refine dx_iload_n C 1 dX10_judge_28 rfl rfl ?_
    refine dx_rd C ly_153 dX10_judge_29 (fun x3 => ?_)
    refine dx_icmp_eq C 35 dX10_judge_30 (by decide) ?_ ?_
    · refine dx_iinc (v := (s2 + (1 : Int32))) C 1 [(1, .int (s2 + (1 : Int32))), (0, .ref (z + 134))] dX10_judge_35 rfl rfl (by decide) rfl ?_
      refine dx_goto C 2 dX10_judge_38 (by decide) ?_
      refine dx_mv (lo2 := [(0, .ref (z + 134)), (1, .int (s2 + (1 : Int32)))]) [1, 0] rfl ?_
      exact dx_end (fun h => h)
    · refine dx_iload_n C 1 dX10_judge_33 rfl rfl ?_
      exact dx_iret1 C hr hlk dX10_judge_34 (fun h => h)
def f_X10_tear (w : Mem) : Option (Int32 × Mem) :=
  lt (((w 134 34) + (w 134 37))) fun t1 => pw 134 34 (0 : Int32) w fun w2 => pw 134 37 (0 : Int32) w2 fun w3 => some ((t1, w3))
set_option maxRecDepth 20000 in
set_option maxHeartbeats 4000000 in
theorem tf_X10_tear {G : GT} {l : Launch} {z n : Nat} (w : Mem) (q : Int32 × Mem) (hq : f_X10_tear w = some q) : Mt G l z yX10_tear cX10_tear 2 (some .int) { frames := 0, cells := 0, slots := 0, locals := 0 } [.ref (z + 134)] (hp G z w) n (some (.int q.1)) (hp G z q.2) n := by
  refine mt_of (by decide +kernel) (Nat.le_of_ble_eq_true rfl) ?_
  intro p e s m below meth c C hr hlk hnm
  refine (?_ : DX p l e _ s m _ below meth c G z 2 n _ (fun v => v = q) 0 [(0, .ref (z + 134))] [] w (f_X10_tear w)) q hq rfl
  unfold f_X10_tear
  refine dx_aload_n C 0 dX10_tear_0 rfl rfl ?_
  refine dgX10_162 C dX10_tear_1 ?_
  refine dx_aload_n C 0 dX10_tear_4 rfl rfl ?_
  refine dgX10_165 C dX10_tear_5 ?_
  refine dx_iadd C dX10_tear_8 ?_
  refine dx_lt (fun t1 => ?_)
  refine dx_istore_n C [(1, .int t1), (0, .ref (z + 134))] dX10_tear_9 rfl (by decide) rfl ?_
  refine dx_aload_n C 1 dX10_tear_10 rfl rfl ?_
  refine dx_iconst (v := (0 : Int32)) C dX10_tear_11 (by decide) ?_
  refine dpX10_162 C dX10_tear_12 (fun w2 => ?_)
  refine dx_aload_n C 1 dX10_tear_15 rfl rfl ?_
  refine dx_iconst (v := (0 : Int32)) C dX10_tear_16 (by decide) ?_
  refine dpX10_165 C dX10_tear_17 (fun w3 => ?_)
  refine dx_iload_n C 0 dX10_tear_20 rfl rfl ?_
  exact dx_iret2 C hr hlk dX10_tear_21 (fun h => h)
def f_X10_seed (a1 : Int32) (w : Mem) : Option (Int32 × Mem) :=
  (if a1 < 0 then some (((-1000000002 : Int32), w)) else lt (((w 134 28).toInt64).toInt32) fun t1 => pl 134 28 ((a1).toInt64) w fun w2 => some ((t1, w2)))
set_option maxRecDepth 20000 in
set_option maxHeartbeats 4000000 in
theorem tf_X10_seed {G : GT} {l : Launch} {z n : Nat} (a1 : Int32) (w : Mem) (q : Int32 × Mem) (hq : f_X10_seed a1 w = some q) : Mt G l z yX10_seed cX10_seed 3 (some .int) { frames := 0, cells := 0, slots := 0, locals := 0 } [.ref (z + 134), .int a1] (hp G z w) n (some (.int q.1)) (hp G z q.2) n := by
  refine mt_of (by decide +kernel) (Nat.le_of_ble_eq_true rfl) ?_
  intro p e s m below meth c C hr hlk hnm
  refine (?_ : DX p l e _ s m _ below meth c G z 3 n _ (fun v => v = q) 0 [(0, .ref (z + 134)), (1, .int a1)] [] w (f_X10_seed a1 w)) q hq rfl
  unfold f_X10_seed
  refine dx_iload_n C 1 dX10_seed_0 rfl rfl ?_
  refine dx_if_ge C 7 dX10_seed_1 (by decide) ?_ ?_
  · refine dx_aload_n C 0 dX10_seed_7 rfl rfl ?_
    refine dgX10_243 C dX10_seed_8 ?_
    refine dx_l2i C dX10_seed_11 ?_
    refine dx_lt (fun t1 => ?_)
    refine dx_istore_n C [(2, .int t1), (0, .ref (z + 134)), (1, .int a1)] dX10_seed_12 rfl (by decide) rfl ?_
    refine dx_aload_n C 1 dX10_seed_13 rfl rfl ?_
    refine dx_iload_n C 2 dX10_seed_14 rfl rfl ?_
    refine dx_i2l C dX10_seed_15 ?_
    refine dpX10_243 C dX10_seed_16 (fun w2 => ?_)
    refine dx_iload_n C 0 dX10_seed_19 rfl rfl ?_
    exact dx_iret2 C hr hlk dX10_seed_20 (fun h => h)
  · refine dx_ldc C kcX10_86 dX10_seed_4 ?_
    exact dx_iret2 C hr hlk dX10_seed_6 (fun h => h)
def f_X10_keep (a1 : Int32) (w : Mem) : Option (Int32 × Mem) :=
  (f_X10_in a1 (0 : Int32) (1 : Int32)).bind fun r1 => (if r1 = 0 then some (((-1000000001 : Int32), w)) else wr 2 154 a1 (1 : Int32) w fun w2 => wrl 2 156 a1 ((w2 134 28).toInt64) w2 fun w3 => pw 134 25 (0 : Int32) w3 fun w4 => (lp (S := (Int32 × Mem)) (T := Mem) (fun s36 => (if s36.1 < (25 : Int32) then rd 25 (s36.2 146) s36.1 fun x5 => wr 50 155 (((25 : Int32) * a1) + s36.1) x5 s36.2 fun w6 => some (Sum.inl ((s36.1 + (1 : Int32)), w6)) else some (Sum.inr s36.2))) 5000000000 ((0 : Int32), w4)).bind fun v7 => some (((1 : Int32), v7)))
set_option maxRecDepth 20000 in
set_option maxHeartbeats 4000000 in
theorem tf_X10_keep {G : GT} {l : Launch} {z n : Nat} (a1 : Int32) (w : Mem) (q : Int32 × Mem) (hq : f_X10_keep a1 w = some q) : Mt G l z yX10_keep cX10_keep 3 (some .int) { frames := 1, cells := 0, slots := 0, locals := 22 } [.ref (z + 134), .int a1] (hp G z w) n (some (.int q.1)) (hp G z q.2) n := by
  refine mt_of (by decide +kernel) (Nat.le_of_ble_eq_true rfl) ?_
  intro p e s m below meth c C hr hlk hnm
  refine (?_ : DX p l e _ s m _ below meth c G z 3 n _ (fun v => v = q) 0 [(0, .ref (z + 134)), (1, .int a1)] [] w (f_X10_keep a1 w)) q hq rfl
  unfold f_X10_keep
  refine dx_iload_n C 1 dX10_keep_0 rfl rfl ?_
  refine dx_iconst (v := (0 : Int32)) C dX10_keep_1 (by decide) ?_
  refine dx_iconst (v := (1 : Int32)) C dX10_keep_2 (by decide) ?_
  refine dx_callS1 C cl_X10_in kmX10_82 (As := [.int a1, .int (0 : Int32), .int (1 : Int32)]) (rest := []) (tf_X10_in a1 (0 : Int32) (1 : Int32) w) rfl rfl (Nat.le_of_ble_eq_true rfl) ⟨Nat.le_of_ble_eq_true rfl, Nat.le_of_ble_eq_true rfl⟩ dX10_keep_3 (fun r1 => ?_)
  refine dx_if_ne C 12 dX10_keep_6 (by decide) ?_ ?_
  · refine dx_aload_n C 0 dX10_keep_12 rfl rfl ?_
    refine dgX10_71 C dX10_keep_13 ?_
    refine dx_iload_n C 1 dX10_keep_16 rfl rfl ?_
    refine dx_iconst (v := (1 : Int32)) C dX10_keep_17 (by decide) ?_
    refine dx_wrz C ly_154 dX10_keep_18 (by decide) (fun w2 => ?_)
    refine dx_aload_n C 0 dX10_keep_19 rfl rfl ?_
    refine dgX10_78 C dX10_keep_20 ?_
    refine dx_iload_n C 1 dX10_keep_23 rfl rfl ?_
    refine dx_aload_n C 0 dX10_keep_24 rfl rfl ?_
    refine dgX10_243 C dX10_keep_25 ?_
    refine dx_wrl C ly_156 dX10_keep_28 (fun w3 => ?_)
    refine dx_aload_n C 0 dX10_keep_29 rfl rfl ?_
    refine dx_iconst (v := (0 : Int32)) C dX10_keep_30 (by decide) ?_
    refine dpX10_159 C dX10_keep_31 (fun w4 => ?_)
    refine dx_iconst (v := (0 : Int32)) C dX10_keep_34 (by decide) ?_
    refine dx_istore_n C [(2, .int (0 : Int32)), (0, .ref (z + 134)), (1, .int a1)] dX10_keep_35 rfl (by decide) rfl ?_
    refine dx_mv (lo2 := [(0, .ref (z + 134)), (1, .int a1), (2, .int (0 : Int32))]) [1, 2, 0] rfl ?_
    refine dx_bind 65 (fun v7 => []) (fun v7 => []) (fun v7 => v7) (fun v7 => (?_ : DX p l e _ s m _ below meth c G z 3 n _ _ 65 [] [] v7 _)) ?_
    · refine dx_iconst (v := (1 : Int32)) C dX10_keep_65 (by decide) ?_
      exact dx_iret2 C hr hlk dX10_keep_66 (fun h => h)
    · refine dx_lp (fun s36 => [(0, .ref (z + 134)), (1, .int a1), (2, .int s36.1)]) [] (fun s36 => s36.2) (fun s36 => (?_ : DX p l e _ s m _ below meth c G z 3 n _ _ 36 [(0, .ref (z + 134)), (1, .int a1), (2, .int s36.1)] [] s36.2 _)) 5000000000 ((0 : Int32), w4)
      refine dx_iload_n C 2 dX10_keep_36 rfl rfl ?_
      refine dx_bipush (v := (25 : Int32)) C dX10_keep_37 (by decide) ?_
      refine dx_icmp_ge C 65 dX10_keep_39 (by decide) ?_ ?_
      · refine dx_mv (lo2 := []) [] rfl ?_
        exact dx_end (fun h => h)
      · refine dx_aload_n C 0 dX10_keep_42 rfl rfl ?_
        refine dgX10_75 C dX10_keep_43 ?_
        refine dx_bipush (v := (25 : Int32)) C dX10_keep_46 (by decide) ?_
        refine dx_iload_n C 1 dX10_keep_48 rfl rfl ?_
        refine dx_imul C dX10_keep_49 ?_
        refine dx_iload_n C 2 dX10_keep_50 rfl rfl ?_
        refine dx_iadd C dX10_keep_51 ?_
        refine dx_aload_n C 0 dX10_keep_52 rfl rfl ?_
        refine dgX10_47 C dX10_keep_53 ?_
        refine dx_iload_n C 2 dX10_keep_56 rfl rfl ?_
        refine dx_rd C ly_146 dX10_keep_57 (fun x5 => ?_)
        refine dx_wr C ly_155 dX10_keep_58 (fun w6 => ?_)
        refine dx_iinc (v := (s36.1 + (1 : Int32))) C 2 [(2, .int (s36.1 + (1 : Int32))), (0, .ref (z + 134)), (1, .int a1)] dX10_keep_59 rfl rfl (by decide) rfl ?_
        refine dx_goto C 36 dX10_keep_62 (by decide) ?_
        refine dx_mv (lo2 := [(0, .ref (z + 134)), (1, .int a1), (2, .int (s36.1 + (1 : Int32)))]) [1, 2, 0] rfl ?_
        exact dx_end (fun h => h)
  · refine dx_ldc C kcX10_193 dX10_keep_9 ?_
    exact dx_iret2 C hr hlk dX10_keep_11 (fun h => h)
def f_X10_goBack (a1 : Int32) (w : Mem) : Option (Int32 × Mem) :=
  (f_X10_in a1 (0 : Int32) (1 : Int32)).bind fun r1 => (if r1 = 0 then some (((-1000000001 : Int32), w)) else rd 2 (w 154) a1 fun x2 => (if x2 = 0 then some (((-1000000003 : Int32), w)) else rdl 2 (w 156) a1 fun x3 => pl 134 28 x3 w fun w4 => pw 134 25 (0 : Int32) w4 fun w5 => (lp (S := (Int32 × Mem)) (T := Mem) (fun s41 => (if s41.1 < (25 : Int32) then rd 50 (s41.2 155) (((25 : Int32) * a1) + s41.1) fun x6 => wr 25 146 s41.1 x6 s41.2 fun w7 => some (Sum.inl ((s41.1 + (1 : Int32)), w7)) else some (Sum.inr s41.2))) 5000000000 ((0 : Int32), w5)).bind fun v8 => some (((1 : Int32), v8))))
set_option maxRecDepth 20000 in
set_option maxHeartbeats 4000000 in
theorem tf_X10_goBack {G : GT} {l : Launch} {z n : Nat} (a1 : Int32) (w : Mem) (q : Int32 × Mem) (hq : f_X10_goBack a1 w = some q) : Mt G l z yX10_goBack cX10_goBack 3 (some .int) { frames := 1, cells := 0, slots := 0, locals := 22 } [.ref (z + 134), .int a1] (hp G z w) n (some (.int q.1)) (hp G z q.2) n := by
  refine mt_of (by decide +kernel) (Nat.le_of_ble_eq_true rfl) ?_
  intro p e s m below meth c C hr hlk hnm
  refine (?_ : DX p l e _ s m _ below meth c G z 3 n _ (fun v => v = q) 0 [(0, .ref (z + 134)), (1, .int a1)] [] w (f_X10_goBack a1 w)) q hq rfl
  unfold f_X10_goBack
  refine dx_iload_n C 1 dX10_goBack_0 rfl rfl ?_
  refine dx_iconst (v := (0 : Int32)) C dX10_goBack_1 (by decide) ?_
  refine dx_iconst (v := (1 : Int32)) C dX10_goBack_2 (by decide) ?_
  refine dx_callS1 C cl_X10_in kmX10_82 (As := [.int a1, .int (0 : Int32), .int (1 : Int32)]) (rest := []) (tf_X10_in a1 (0 : Int32) (1 : Int32) w) rfl rfl (Nat.le_of_ble_eq_true rfl) ⟨Nat.le_of_ble_eq_true rfl, Nat.le_of_ble_eq_true rfl⟩ dX10_goBack_3 (fun r1 => ?_)
  refine dx_if_ne C 12 dX10_goBack_6 (by decide) ?_ ?_
  · refine dx_aload_n C 0 dX10_goBack_12 rfl rfl ?_
    refine dgX10_71 C dX10_goBack_13 ?_
    refine dx_iload_n C 1 dX10_goBack_16 rfl rfl ?_
    refine dx_rdz C ly_154 dX10_goBack_17 (fun x2 => ?_)
    refine dx_if_ne C 24 dX10_goBack_18 (by decide) ?_ ?_
    · refine dx_aload_n C 0 dX10_goBack_24 rfl rfl ?_
      refine dx_aload_n C 0 dX10_goBack_25 rfl rfl ?_
      refine dgX10_78 C dX10_goBack_26 ?_
      refine dx_iload_n C 1 dX10_goBack_29 rfl rfl ?_
      refine dx_rdl C ly_156 dX10_goBack_30 (fun x3 => ?_)
      refine dpX10_243 C dX10_goBack_31 (fun w4 => ?_)
      refine dx_aload_n C 0 dX10_goBack_34 rfl rfl ?_
      refine dx_iconst (v := (0 : Int32)) C dX10_goBack_35 (by decide) ?_
      refine dpX10_159 C dX10_goBack_36 (fun w5 => ?_)
      refine dx_iconst (v := (0 : Int32)) C dX10_goBack_39 (by decide) ?_
      refine dx_istore_n C [(2, .int (0 : Int32)), (0, .ref (z + 134)), (1, .int a1)] dX10_goBack_40 rfl (by decide) rfl ?_
      refine dx_mv (lo2 := [(0, .ref (z + 134)), (1, .int a1), (2, .int (0 : Int32))]) [1, 2, 0] rfl ?_
      refine dx_bind 70 (fun v8 => []) (fun v8 => []) (fun v8 => v8) (fun v8 => (?_ : DX p l e _ s m _ below meth c G z 3 n _ _ 70 [] [] v8 _)) ?_
      · refine dx_iconst (v := (1 : Int32)) C dX10_goBack_70 (by decide) ?_
        exact dx_iret2 C hr hlk dX10_goBack_71 (fun h => h)
      · refine dx_lp (fun s41 => [(0, .ref (z + 134)), (1, .int a1), (2, .int s41.1)]) [] (fun s41 => s41.2) (fun s41 => (?_ : DX p l e _ s m _ below meth c G z 3 n _ _ 41 [(0, .ref (z + 134)), (1, .int a1), (2, .int s41.1)] [] s41.2 _)) 5000000000 ((0 : Int32), w5)
        refine dx_iload_n C 2 dX10_goBack_41 rfl rfl ?_
        refine dx_bipush (v := (25 : Int32)) C dX10_goBack_42 (by decide) ?_
        refine dx_icmp_ge C 70 dX10_goBack_44 (by decide) ?_ ?_
        · refine dx_mv (lo2 := []) [] rfl ?_
          exact dx_end (fun h => h)
        · refine dx_aload_n C 0 dX10_goBack_47 rfl rfl ?_
          refine dgX10_47 C dX10_goBack_48 ?_
          refine dx_iload_n C 2 dX10_goBack_51 rfl rfl ?_
          refine dx_aload_n C 0 dX10_goBack_52 rfl rfl ?_
          refine dgX10_75 C dX10_goBack_53 ?_
          refine dx_bipush (v := (25 : Int32)) C dX10_goBack_56 (by decide) ?_
          refine dx_iload_n C 1 dX10_goBack_58 rfl rfl ?_
          refine dx_imul C dX10_goBack_59 ?_
          refine dx_iload_n C 2 dX10_goBack_60 rfl rfl ?_
          refine dx_iadd C dX10_goBack_61 ?_
          refine dx_rd C ly_155 dX10_goBack_62 (fun x6 => ?_)
          refine dx_wr C ly_146 dX10_goBack_63 (fun w7 => ?_)
          refine dx_iinc (v := (s41.1 + (1 : Int32))) C 2 [(2, .int (s41.1 + (1 : Int32))), (0, .ref (z + 134)), (1, .int a1)] dX10_goBack_64 rfl rfl (by decide) rfl ?_
          refine dx_goto C 41 dX10_goBack_67 (by decide) ?_
          refine dx_mv (lo2 := [(0, .ref (z + 134)), (1, .int a1), (2, .int (s41.1 + (1 : Int32)))]) [1, 2, 0] rfl ?_
          exact dx_end (fun h => h)
    · refine dx_ldc C kcX10_215 dX10_goBack_21 ?_
      exact dx_iret2 C hr hlk dX10_goBack_23 (fun h => h)
  · refine dx_ldc C kcX10_193 dX10_goBack_9 ?_
    exact dx_iret2 C hr hlk dX10_goBack_11 (fun h => h)
