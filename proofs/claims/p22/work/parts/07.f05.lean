def f_X10_readsBridge (w : Mem) : Option (Int32 × Mem) :=
  pw 134 2 (0 : Int32) w fun w1 => pw 134 6 (0 : Int32) w1 fun w2 => pw 134 7 (0 : Int32) w2 fun w3 => pw 134 8 (0 : Int32) w3 fun w4 => pw 134 9 (0 : Int32) w4 fun w5 => (lp (S := (Int32 × Mem)) (T := (Int32 × Mem)) (fun s27 => (if s27.1 = 0 then some (Sum.inr (s27.1, s27.2)) else (f_X10_nextLetter s27.2).bind fun q6 => (if q6.1 = (-1 : Int32) then some (Sum.inr (s27.1, q6.2)) else (f_X10_readsClause q6.2).bind fun q7 => some (Sum.inl (q7.1, q7.2))))) 5000000000 ((1 : Int32), w5)).bind fun v8 => zr v8.1 (some ((v8.1, v8.2)))
set_option maxRecDepth 20000 in
set_option maxHeartbeats 4000000 in
theorem tf_X10_readsBridge {G : GT} {l : Launch} {z n : Nat} (w : Mem) (q : Int32 × Mem) (hq : f_X10_readsBridge w = some q) : Mt G l z yX10_readsBridge cX10_readsBridge 2 (some .boolean) { frames := 5, cells := 0, slots := 0, locals := 109 } [.ref (z + 134)] (hp G z w) n (some (.int q.1)) (hp G z q.2) n := by
  refine mt_of (by decide +kernel) (Nat.le_of_ble_eq_true rfl) ?_
  intro p e s m below meth c C hr hlk hnm
  refine (?_ : DX p l e _ s m _ below meth c G z 2 n _ (fun v => v = q) 0 [(0, .ref (z + 134))] [] w (f_X10_readsBridge w)) q hq rfl
  unfold f_X10_readsBridge
  refine dx_aload_n C 0 dX10_readsBridge_0 rfl rfl ?_
  refine dx_iconst (v := (0 : Int32)) C dX10_readsBridge_1 (by decide) ?_
  refine dpX10_91 C dX10_readsBridge_2 (fun w1 => ?_)
  refine dx_aload_n C 0 dX10_readsBridge_5 rfl rfl ?_
  refine dx_iconst (v := (0 : Int32)) C dX10_readsBridge_6 (by decide) ?_
  refine dpX10_115 C dX10_readsBridge_7 (fun w2 => ?_)
  refine dx_aload_n C 0 dX10_readsBridge_10 rfl rfl ?_
  refine dx_iconst (v := (0 : Int32)) C dX10_readsBridge_11 (by decide) ?_
  refine dpX10_118 C dX10_readsBridge_12 (fun w3 => ?_)
  refine dx_aload_n C 0 dX10_readsBridge_15 rfl rfl ?_
  refine dx_iconst (v := (0 : Int32)) C dX10_readsBridge_16 (by decide) ?_
  refine dpX10_125 C dX10_readsBridge_17 (fun w4 => ?_)
  refine dx_aload_n C 0 dX10_readsBridge_20 rfl rfl ?_
  refine dx_iconst (v := (0 : Int32)) C dX10_readsBridge_21 (by decide) ?_
  refine dpX10_128 C dX10_readsBridge_22 (fun w5 => ?_)
  refine dx_iconst (v := (1 : Int32)) C dX10_readsBridge_25 (by decide) ?_
  refine dx_istore_n C [(1, .int (1 : Int32)), (0, .ref (z + 134))] dX10_readsBridge_26 rfl (by decide) rfl ?_
  refine dx_mv (lo2 := [(0, .ref (z + 134)), (1, .int (1 : Int32))]) [1, 0] rfl ?_
  refine dx_bind 47 (fun v8 => [(1, .int v8.1)]) (fun v8 => []) (fun v8 => v8.2) (fun v8 => (?_ : DX p l e _ s m _ below meth c G z 2 n _ _ 47 [(1, .int v8.1)] [] v8.2 _)) ?_
  · refine dx_iload_n C 0 dX10_readsBridge_47 rfl rfl ?_
    refine dx_zr (fun hz9 => ?_)
    exact dx_zret2 C hr hlk hz9 dX10_readsBridge_48 (fun h => h)
  · refine dx_lp (fun s27 => [(0, .ref (z + 134)), (1, .int s27.1)]) [] (fun s27 => s27.2) (fun s27 => (?_ : DX p l e _ s m _ below meth c G z 2 n _ _ 27 [(0, .ref (z + 134)), (1, .int s27.1)] [] s27.2 _)) 5000000000 ((1 : Int32), w5)
    refine dx_iload_n C 1 dX10_readsBridge_27 rfl rfl ?_
    refine dx_if_eq C 47 dX10_readsBridge_28 (by decide) ?_ ?_
    · refine dx_mv (lo2 := [(1, .int s27.1)]) [1] rfl ?_
      exact dx_end (fun h => h)
    · refine dx_aload_n C 0 dX10_readsBridge_31 rfl rfl ?_
      refine dx_callV2 C cl_X10_nextLetter kmX10_101 (ci := 9) (b := 134) (As := []) (rest := []) rfl (hp_of ly_134) (tf_X10_nextLetter s27.2) rfl rfl (Nat.le_of_ble_eq_true rfl) ⟨Nat.le_of_ble_eq_true rfl, Nat.le_of_ble_eq_true rfl⟩ dX10_readsBridge_32 (fun q6 => ?_)
      refine dx_iconst (v := (-1 : Int32)) C dX10_readsBridge_35 (by decide) ?_
      refine dx_icmp_eq C 47 dX10_readsBridge_36 (by decide) ?_ ?_
      · refine dx_mv (lo2 := [(1, .int s27.1)]) [1] rfl ?_
        exact dx_end (fun h => h)
      · refine dx_aload_n C 0 dX10_readsBridge_39 rfl rfl ?_
        refine dx_callV2 C cl_X10_readsClause kmX10_141 (ci := 9) (b := 134) (As := []) (rest := []) rfl (hp_of ly_134) (tf_X10_readsClause q6.2) rfl rfl (Nat.le_of_ble_eq_true rfl) ⟨Nat.le_of_ble_eq_true rfl, Nat.le_of_ble_eq_true rfl⟩ dX10_readsBridge_40 (fun q7 => ?_)
        refine dx_istore_n C [(1, .int q7.1), (0, .ref (z + 134))] dX10_readsBridge_43 rfl (by decide) rfl ?_
        refine dx_goto C 27 dX10_readsBridge_44 (by decide) ?_
        refine dx_mv (lo2 := [(0, .ref (z + 134)), (1, .int q7.1)]) [1, 0] rfl ?_
        exact dx_end (fun h => h)
def f_X10_bridge (w : Mem) : Option (Int32 × Mem) :=
  (f_X10_readsBridge w).bind fun q1 => pw 134 0 (0 : Int32) q1.2 fun w2 => ((if q1.1 = 0 then some ((w2 134 2)) else some ((-1 : Int32))) : Option Int32).bind fun v3 => pw 134 5 v3 w2 fun w4 => (if q1.1 = 0 then some ((((-10 : Int32) - (w4 134 4)), w4)) else pw 134 15 (w4 134 6) w4 fun w5 => pw 134 16 (w5 134 7) w5 fun w6 => pw 134 17 (w6 134 8) w6 fun w7 => pw 134 18 (w7 134 9) w7 fun w8 => lt ((((1 : Int32) <<< ((w8 134 17) &&& 31)) - (1 : Int32))) fun t9 => (lp (S := (Int32 × Mem)) (T := Mem) (fun s81 => (if s81.1 < (s81.2 134 17) then rd 8 (s81.2 136) s81.1 fun x10 => wr 8 141 s81.1 x10 s81.2 fun w11 => rd 8 (w11 137) s81.1 fun x12 => wr 8 142 s81.1 (x12 &&& t9) w11 fun w13 => some (Sum.inl ((s81.1 + (1 : Int32)), w13)) else some (Sum.inr s81.2))) 5000000000 ((0 : Int32), w8)).bind fun v14 => (lp (S := (Int32 × Mem)) (T := Mem) (fun s123 => (if s123.1 < (s123.2 134 18) then rd 6 (s123.2 138) s123.1 fun x15 => wr 6 143 s123.1 x15 s123.2 fun w16 => rd 6 (w16 139) s123.1 fun x17 => wr 6 144 s123.1 x17 w16 fun w18 => rd 6 (w18 140) s123.1 fun x19 => wr 6 145 s123.1 (x19 &&& t9) w18 fun w20 => some (Sum.inl ((s123.1 + (1 : Int32)), w20)) else some (Sum.inr s123.2))) 5000000000 ((0 : Int32), v14)).bind fun v21 => (lp (S := (Int32 × Mem)) (T := Mem) (fun s177 => (if s177.1 < (25 : Int32) then wr 25 146 s177.1 (0 : Int32) s177.2 fun w22 => some (Sum.inl ((s177.1 + (1 : Int32)), w22)) else some (Sum.inr s177.2))) 5000000000 ((0 : Int32), v21)).bind fun v23 => wr 25 146 (4 : Int32) (-1 : Int32) v23 fun w24 => wr 25 146 (6 : Int32) (-1 : Int32) w24 fun w25 => ((if 0 < (w25 134 17) then some ((1 : Int32)) else some ((0 : Int32))) : Option Int32).bind fun v26 => wr 25 146 (3 : Int32) v26 w25 fun w27 => pw 134 25 (0 : Int32) w27 fun w28 => pw 134 34 (0 : Int32) w28 fun w29 => pw 134 37 (0 : Int32) w29 fun w30 => wr 2 154 (0 : Int32) (0 : Int32) w30 fun w31 => wr 2 154 (1 : Int32) (0 : Int32) w31 fun w32 => some (((w32 134 18), w32)))
set_option maxRecDepth 20000 in
set_option maxHeartbeats 4000000 in
theorem tf_X10_bridge {G : GT} {l : Launch} {z n : Nat} (w : Mem) (q : Int32 × Mem) (hq : f_X10_bridge w = some q) : Mt G l z yX10_bridge cX10_bridge 4 (some .int) { frames := 6, cells := 0, slots := 0, locals := 130 } [.ref (z + 134)] (hp G z w) n (some (.int q.1)) (hp G z q.2) n := by
  refine mt_of (by decide +kernel) (Nat.le_of_ble_eq_true rfl) ?_
  intro p e s m below meth c C hr hlk hnm
  refine (?_ : DX p l e _ s m _ below meth c G z 4 n _ (fun v => v = q) 0 [(0, .ref (z + 134))] [] w (f_X10_bridge w)) q hq rfl
  unfold f_X10_bridge
  refine dx_aload_n C 0 dX10_bridge_0 rfl rfl ?_
  refine dx_callV2 C cl_X10_readsBridge kmX10_144 (ci := 9) (b := 134) (As := []) (rest := []) rfl (hp_of ly_134) (tf_X10_readsBridge w) rfl rfl (Nat.le_of_ble_eq_true rfl) ⟨Nat.le_of_ble_eq_true rfl, Nat.le_of_ble_eq_true rfl⟩ dX10_bridge_1 (fun q1 => ?_)
  refine dx_istore_n C [(1, .int q1.1), (0, .ref (z + 134))] dX10_bridge_4 rfl (by decide) rfl ?_
  refine dx_aload_n C 1 dX10_bridge_5 rfl rfl ?_
  refine dx_iconst (v := (0 : Int32)) C dX10_bridge_6 (by decide) ?_
  refine dpX10_87 C dX10_bridge_7 (fun w2 => ?_)
  refine dx_aload_n C 1 dX10_bridge_10 rfl rfl ?_
  refine dx_iload_n C 0 dX10_bridge_11 rfl rfl ?_
  refine dx_bind 23 (fun v3 => [(0, .ref (z + 134)), (1, .int q1.1)]) (fun v3 => [.int v3, .ref (z + 134)]) (fun v3 => w2) (fun v3 => (?_ : DX p l e _ s m _ below meth c G z 4 n _ _ 23 [(0, .ref (z + 134)), (1, .int q1.1)] [.int v3, .ref (z + 134)] w2 _)) ?_
  · refine dpX10_13 C dX10_bridge_23 (fun w4 => ?_)
    refine dx_iload_n C 1 dX10_bridge_26 rfl rfl ?_
    refine dx_if_ne C 38 dX10_bridge_27 (by decide) ?_ ?_
    · refine dx_aload_n C 0 dX10_bridge_38 rfl rfl ?_
      refine dx_aload_n C 0 dX10_bridge_39 rfl rfl ?_
      refine dgX10_115 C dX10_bridge_40 ?_
      refine dpX10_147 C dX10_bridge_43 (fun w5 => ?_)
      refine dx_aload_n C 0 dX10_bridge_46 rfl rfl ?_
      refine dx_aload_n C 0 dX10_bridge_47 rfl rfl ?_
      refine dgX10_118 C dX10_bridge_48 ?_
      refine dpX10_150 C dX10_bridge_51 (fun w6 => ?_)
      refine dx_aload_n C 0 dX10_bridge_54 rfl rfl ?_
      refine dx_aload_n C 0 dX10_bridge_55 rfl rfl ?_
      refine dgX10_125 C dX10_bridge_56 ?_
      refine dpX10_153 C dX10_bridge_59 (fun w7 => ?_)
      refine dx_aload_n C 0 dX10_bridge_62 rfl rfl ?_
      refine dx_aload_n C 0 dX10_bridge_63 rfl rfl ?_
      refine dgX10_128 C dX10_bridge_64 ?_
      refine dpX10_156 C dX10_bridge_67 (fun w8 => ?_)
      refine dx_iconst (v := (1 : Int32)) C dX10_bridge_70 (by decide) ?_
      refine dx_aload_n C 0 dX10_bridge_71 rfl rfl ?_
      refine dgX10_153 C dX10_bridge_72 ?_
      refine dx_ishl C dX10_bridge_75 ?_
      refine dx_iconst (v := (1 : Int32)) C dX10_bridge_76 (by decide) ?_
      refine dx_isub C dX10_bridge_77 ?_
      refine dx_lt (fun t9 => ?_)
      refine dx_istore_n C [(2, .int t9), (0, .ref (z + 134)), (1, .int q1.1)] dX10_bridge_78 rfl (by decide) rfl ?_
      refine dx_iconst (v := (0 : Int32)) C dX10_bridge_79 (by decide) ?_
      refine dx_istore_n C [(3, .int (0 : Int32)), (2, .int t9), (0, .ref (z + 134)), (1, .int q1.1)] dX10_bridge_80 rfl (by decide) rfl ?_
      refine dx_mv (lo2 := [(0, .ref (z + 134)), (2, .int t9), (3, .int (0 : Int32))]) [2, 1, 0] rfl ?_
      refine dx_bind 121 (fun v14 => [(0, .ref (z + 134)), (2, .int t9)]) (fun v14 => []) (fun v14 => v14) (fun v14 => (?_ : DX p l e _ s m _ below meth c G z 4 n _ _ 121 [(0, .ref (z + 134)), (2, .int t9)] [] v14 _)) ?_
      · refine dx_iconst (v := (0 : Int32)) C dX10_bridge_121 (by decide) ?_
        refine dx_istore_n C [(3, .int (0 : Int32)), (0, .ref (z + 134)), (2, .int t9)] dX10_bridge_122 rfl (by decide) rfl ?_
        refine dx_mv (lo2 := [(0, .ref (z + 134)), (2, .int t9), (3, .int (0 : Int32))]) [1, 2, 0] rfl ?_
        refine dx_bind 175 (fun v21 => [(0, .ref (z + 134))]) (fun v21 => []) (fun v21 => v21) (fun v21 => (?_ : DX p l e _ s m _ below meth c G z 4 n _ _ 175 [(0, .ref (z + 134))] [] v21 _)) ?_
        · refine dx_iconst (v := (0 : Int32)) C dX10_bridge_175 (by decide) ?_
          refine dx_istore_n C [(3, .int (0 : Int32)), (0, .ref (z + 134))] dX10_bridge_176 rfl (by decide) rfl ?_
          refine dx_mv (lo2 := [(0, .ref (z + 134)), (3, .int (0 : Int32))]) [1, 0] rfl ?_
          refine dx_bind 196 (fun v23 => [(0, .ref (z + 134))]) (fun v23 => []) (fun v23 => v23) (fun v23 => (?_ : DX p l e _ s m _ below meth c G z 4 n _ _ 196 [(0, .ref (z + 134))] [] v23 _)) ?_
          · refine dx_aload_n C 0 dX10_bridge_196 rfl rfl ?_
            refine dgX10_47 C dX10_bridge_197 ?_
            refine dx_iconst (v := (4 : Int32)) C dX10_bridge_200 (by decide) ?_
            refine dx_iconst (v := (-1 : Int32)) C dX10_bridge_201 (by decide) ?_
            refine dx_wr C ly_146 dX10_bridge_202 (fun w24 => ?_)
            refine dx_aload_n C 0 dX10_bridge_203 rfl rfl ?_
            refine dgX10_47 C dX10_bridge_204 ?_
            refine dx_bipush (v := (6 : Int32)) C dX10_bridge_207 (by decide) ?_
            refine dx_iconst (v := (-1 : Int32)) C dX10_bridge_209 (by decide) ?_
            refine dx_wr C ly_146 dX10_bridge_210 (fun w25 => ?_)
            refine dx_aload_n C 0 dX10_bridge_211 rfl rfl ?_
            refine dgX10_47 C dX10_bridge_212 ?_
            refine dx_iconst (v := (3 : Int32)) C dX10_bridge_215 (by decide) ?_
            refine dx_aload_n C 0 dX10_bridge_216 rfl rfl ?_
            refine dgX10_153 C dX10_bridge_217 ?_
            refine dx_bind 228 (fun v26 => [(0, .ref (z + 134))]) (fun v26 => [.int v26, .int (3 : Int32), .ref (z + 146)]) (fun v26 => w25) (fun v26 => (?_ : DX p l e _ s m _ below meth c G z 4 n _ _ 228 [(0, .ref (z + 134))] [.int v26, .int (3 : Int32), .ref (z + 146)] w25 _)) ?_
            · refine dx_wr C ly_146 dX10_bridge_228 (fun w27 => ?_)
              refine dx_aload_n C 0 dX10_bridge_229 rfl rfl ?_
              refine dx_iconst (v := (0 : Int32)) C dX10_bridge_230 (by decide) ?_
              refine dpX10_159 C dX10_bridge_231 (fun w28 => ?_)
              refine dx_aload_n C 0 dX10_bridge_234 rfl rfl ?_
              refine dx_iconst (v := (0 : Int32)) C dX10_bridge_235 (by decide) ?_
              refine dpX10_162 C dX10_bridge_236 (fun w29 => ?_)
              refine dx_aload_n C 0 dX10_bridge_239 rfl rfl ?_
              refine dx_iconst (v := (0 : Int32)) C dX10_bridge_240 (by decide) ?_
              refine dpX10_165 C dX10_bridge_241 (fun w30 => ?_)
              refine dx_aload_n C 0 dX10_bridge_244 rfl rfl ?_
              refine dgX10_71 C dX10_bridge_245 ?_
              refine dx_iconst (v := (0 : Int32)) C dX10_bridge_248 (by decide) ?_
              refine dx_iconst (v := (0 : Int32)) C dX10_bridge_249 (by decide) ?_
              refine dx_wrz C ly_154 dX10_bridge_250 (by decide) (fun w31 => ?_)
              refine dx_aload_n C 0 dX10_bridge_251 rfl rfl ?_
              refine dgX10_71 C dX10_bridge_252 ?_
              refine dx_iconst (v := (1 : Int32)) C dX10_bridge_255 (by decide) ?_
              refine dx_iconst (v := (0 : Int32)) C dX10_bridge_256 (by decide) ?_
              refine dx_wrz C ly_154 dX10_bridge_257 (by decide) (fun w32 => ?_)
              refine dx_aload_n C 0 dX10_bridge_258 rfl rfl ?_
              refine dgX10_156 C dX10_bridge_259 ?_
              exact dx_iret2 C hr hlk dX10_bridge_262 (fun h => h)
            · refine dx_if_le C 227 dX10_bridge_220 (by decide) ?_ ?_
              · refine dx_iconst (v := (0 : Int32)) C dX10_bridge_227 (by decide) ?_
                exact dx_end (fun h => h)
              · refine dx_iconst (v := (1 : Int32)) C dX10_bridge_223 (by decide) ?_
                refine dx_goto C 228 dX10_bridge_224 (by decide) ?_
                exact dx_end (fun h => h)
          · refine dx_lp (fun s177 => [(0, .ref (z + 134)), (3, .int s177.1)]) [] (fun s177 => s177.2) (fun s177 => (?_ : DX p l e _ s m _ below meth c G z 4 n _ _ 177 [(0, .ref (z + 134)), (3, .int s177.1)] [] s177.2 _)) 5000000000 ((0 : Int32), v21)
            refine dx_iload_n C 1 dX10_bridge_177 rfl rfl ?_
            refine dx_bipush (v := (25 : Int32)) C dX10_bridge_178 (by decide) ?_
            refine dx_icmp_ge C 196 dX10_bridge_180 (by decide) ?_ ?_
            · refine dx_mv (lo2 := [(0, .ref (z + 134))]) [0] rfl ?_
              exact dx_end (fun h => h)
            · refine dx_aload_n C 0 dX10_bridge_183 rfl rfl ?_
              refine dgX10_47 C dX10_bridge_184 ?_
              refine dx_iload_n C 1 dX10_bridge_187 rfl rfl ?_
              refine dx_iconst (v := (0 : Int32)) C dX10_bridge_188 (by decide) ?_
              refine dx_wr C ly_146 dX10_bridge_189 (fun w22 => ?_)
              refine dx_iinc (v := (s177.1 + (1 : Int32))) C 1 [(3, .int (s177.1 + (1 : Int32))), (0, .ref (z + 134))] dX10_bridge_190 rfl rfl (by decide) rfl ?_
              refine dx_goto C 177 dX10_bridge_193 (by decide) ?_
              refine dx_mv (lo2 := [(0, .ref (z + 134)), (3, .int (s177.1 + (1 : Int32)))]) [1, 0] rfl ?_
              exact dx_end (fun h => h)
        · refine dx_lp (fun s123 => [(0, .ref (z + 134)), (2, .int t9), (3, .int s123.1)]) [] (fun s123 => s123.2) (fun s123 => (?_ : DX p l e _ s m _ below meth c G z 4 n _ _ 123 [(0, .ref (z + 134)), (2, .int t9), (3, .int s123.1)] [] s123.2 _)) 5000000000 ((0 : Int32), v14)
          refine dx_iload_n C 2 dX10_bridge_123 rfl rfl ?_
          refine dx_aload_n C 0 dX10_bridge_124 rfl rfl ?_
          refine dgX10_156 C dX10_bridge_125 ?_
          refine dx_icmp_ge C 175 dX10_bridge_128 (by decide) ?_ ?_
          · refine dx_mv (lo2 := [(0, .ref (z + 134))]) [0] rfl ?_
            exact dx_end (fun h => h)
          · refine dx_aload_n C 0 dX10_bridge_131 rfl rfl ?_
            refine dgX10_38 C dX10_bridge_132 ?_
            refine dx_iload_n C 2 dX10_bridge_135 rfl rfl ?_
            refine dx_aload_n C 0 dX10_bridge_136 rfl rfl ?_
            refine dgX10_23 C dX10_bridge_137 ?_
            refine dx_iload_n C 2 dX10_bridge_140 rfl rfl ?_
            refine dx_rd C ly_138 dX10_bridge_141 (fun x15 => ?_)
            refine dx_wr C ly_143 dX10_bridge_142 (fun w16 => ?_)
            refine dx_aload_n C 0 dX10_bridge_143 rfl rfl ?_
            refine dgX10_41 C dX10_bridge_144 ?_
            refine dx_iload_n C 2 dX10_bridge_147 rfl rfl ?_
            refine dx_aload_n C 0 dX10_bridge_148 rfl rfl ?_
            refine dgX10_26 C dX10_bridge_149 ?_
            refine dx_iload_n C 2 dX10_bridge_152 rfl rfl ?_
            refine dx_rd C ly_139 dX10_bridge_153 (fun x17 => ?_)
            refine dx_wr C ly_144 dX10_bridge_154 (fun w18 => ?_)
            refine dx_aload_n C 0 dX10_bridge_155 rfl rfl ?_
            refine dgX10_44 C dX10_bridge_156 ?_
            refine dx_iload_n C 2 dX10_bridge_159 rfl rfl ?_
            refine dx_aload_n C 0 dX10_bridge_160 rfl rfl ?_
            refine dgX10_29 C dX10_bridge_161 ?_
            refine dx_iload_n C 2 dX10_bridge_164 rfl rfl ?_
            refine dx_rd C ly_140 dX10_bridge_165 (fun x19 => ?_)
            refine dx_iload_n C 1 dX10_bridge_166 rfl rfl ?_
            refine dx_iand C dX10_bridge_167 ?_
            refine dx_wr C ly_145 dX10_bridge_168 (fun w20 => ?_)
            refine dx_iinc (v := (s123.1 + (1 : Int32))) C 2 [(3, .int (s123.1 + (1 : Int32))), (0, .ref (z + 134)), (2, .int t9)] dX10_bridge_169 rfl rfl (by decide) rfl ?_
            refine dx_goto C 123 dX10_bridge_172 (by decide) ?_
            refine dx_mv (lo2 := [(0, .ref (z + 134)), (2, .int t9), (3, .int (s123.1 + (1 : Int32)))]) [1, 2, 0] rfl ?_
            exact dx_end (fun h => h)
      · refine dx_lp (fun s81 => [(0, .ref (z + 134)), (2, .int t9), (3, .int s81.1)]) [] (fun s81 => s81.2) (fun s81 => (?_ : DX p l e _ s m _ below meth c G z 4 n _ _ 81 [(0, .ref (z + 134)), (2, .int t9), (3, .int s81.1)] [] s81.2 _)) 5000000000 ((0 : Int32), w8)
        refine dx_iload_n C 2 dX10_bridge_81 rfl rfl ?_
        refine dx_aload_n C 0 dX10_bridge_82 rfl rfl ?_
        refine dgX10_153 C dX10_bridge_83 ?_
        refine dx_icmp_ge C 121 dX10_bridge_86 (by decide) ?_ ?_
        · refine dx_mv (lo2 := [(0, .ref (z + 134)), (2, .int t9)]) [0, 1] rfl ?_
          exact dx_end (fun h => h)
        · refine dx_aload_n C 0 dX10_bridge_89 rfl rfl ?_
          refine dgX10_32 C dX10_bridge_90 ?_
          refine dx_iload_n C 2 dX10_bridge_93 rfl rfl ?_
          refine dx_aload_n C 0 dX10_bridge_94 rfl rfl ?_
          refine dgX10_17 C dX10_bridge_95 ?_
          refine dx_iload_n C 2 dX10_bridge_98 rfl rfl ?_
          refine dx_rd C ly_136 dX10_bridge_99 (fun x10 => ?_)
          refine dx_wr C ly_141 dX10_bridge_100 (fun w11 => ?_)
          refine dx_aload_n C 0 dX10_bridge_101 rfl rfl ?_
          refine dgX10_35 C dX10_bridge_102 ?_
          refine dx_iload_n C 2 dX10_bridge_105 rfl rfl ?_
          refine dx_aload_n C 0 dX10_bridge_106 rfl rfl ?_
          refine dgX10_20 C dX10_bridge_107 ?_
          refine dx_iload_n C 2 dX10_bridge_110 rfl rfl ?_
          refine dx_rd C ly_137 dX10_bridge_111 (fun x12 => ?_)
          refine dx_iload_n C 1 dX10_bridge_112 rfl rfl ?_
          refine dx_iand C dX10_bridge_113 ?_
          refine dx_wr C ly_142 dX10_bridge_114 (fun w13 => ?_)
          refine dx_iinc (v := (s81.1 + (1 : Int32))) C 2 [(3, .int (s81.1 + (1 : Int32))), (0, .ref (z + 134)), (2, .int t9)] dX10_bridge_115 rfl rfl (by decide) rfl ?_
          refine dx_goto C 81 dX10_bridge_118 (by decide) ?_
          refine dx_mv (lo2 := [(0, .ref (z + 134)), (2, .int t9), (3, .int (s81.1 + (1 : Int32)))]) [1, 2, 0] rfl ?_
          exact dx_end (fun h => h)
    · refine dx_bipush (v := (-10 : Int32)) C dX10_bridge_30 (by decide) ?_
      refine dx_aload_n C 0 dX10_bridge_32 rfl rfl ?_
      refine dgX10_98 C dX10_bridge_33 ?_
      refine dx_isub C dX10_bridge_36 ?_
      exact dx_iret2 C hr hlk dX10_bridge_37 (fun h => h)
  · refine dx_if_eq C 19 dX10_bridge_12 (by decide) ?_ ?_
    · refine dx_aload_n C 1 dX10_bridge_19 rfl rfl ?_
      refine dgX10_91 C dX10_bridge_20 ?_
      refine dx_mv (lo2 := [(0, .ref (z + 134)), (1, .int q1.1)]) [1, 0] rfl ?_
      exact dx_end (fun h => h)
    · refine dx_iconst (v := (-1 : Int32)) C dX10_bridge_15 (by decide) ?_
      refine dx_goto C 23 dX10_bridge_16 (by decide) ?_
      refine dx_mv (lo2 := [(0, .ref (z + 134)), (1, .int q1.1)]) [1, 0] rfl ?_
      exact dx_end (fun h => h)
def f_X10_fault (w : Mem) : Option (Int32) :=
  some ((w 134 5))
set_option maxRecDepth 20000 in
set_option maxHeartbeats 4000000 in
theorem tf_X10_fault {G : GT} {l : Launch} {z n : Nat} (w : Mem) (q : Int32) (hq : f_X10_fault w = some q) : Mt G l z yX10_fault cX10_fault 1 (some .int) { frames := 0, cells := 0, slots := 0, locals := 0 } [.ref (z + 134)] (hp G z w) n (some (.int q)) (hp G z w) n := by
  refine mt_of (by decide +kernel) (Nat.le_of_ble_eq_true rfl) ?_
  intro p e s m below meth c C hr hlk hnm
  refine (?_ : DX p l e _ s m _ below meth c G z 1 n _ (fun v => v = q) 0 [(0, .ref (z + 134))] [] w (f_X10_fault w)) q hq rfl
  unfold f_X10_fault
  refine dx_aload_n C 0 dX10_fault_0 rfl rfl ?_
  refine dgX10_13 C dX10_fault_1 ?_
  exact dx_iret1 C hr hlk dX10_fault_4 (fun h => h)
def f_X10_are (a1 : Int32) (w : Mem) : Option (Int32) :=
  (lp (S := (Int32 × Int32)) (T := Int32) (fun s4 => (if s4.2 < (w 134 18) then rd 25 (w 146) ((7 : Int32) + s4.2) fun x1 => ((if x1 = a1 then some (((1 : Int32) <<< (s4.2 &&& 31))) else some ((0 : Int32))) : Option Int32).bind fun v2 => some (Sum.inl ((s4.1 ||| v2), (s4.2 + (1 : Int32)))) else some (Sum.inr s4.1))) 5000000000 ((0 : Int32), (0 : Int32))).bind fun v3 => some (v3)
set_option maxRecDepth 20000 in
set_option maxHeartbeats 4000000 in
theorem tf_X10_are {G : GT} {l : Launch} {z n : Nat} (a1 : Int32) (w : Mem) (q : Int32) (hq : f_X10_are a1 w = some q) : Mt G l z yX10_are cX10_are 4 (some .int) { frames := 0, cells := 0, slots := 0, locals := 0 } [.ref (z + 134), .int a1] (hp G z w) n (some (.int q)) (hp G z w) n := by
  refine mt_of (by decide +kernel) (Nat.le_of_ble_eq_true rfl) ?_
  intro p e s m below meth c C hr hlk hnm
  refine (?_ : DX p l e _ s m _ below meth c G z 4 n _ (fun v => v = q) 0 [(0, .ref (z + 134)), (1, .int a1)] [] w (f_X10_are a1 w)) q hq rfl
  unfold f_X10_are
  refine dx_iconst (v := (0 : Int32)) C dX10_are_0 (by decide) ?_
  refine dx_istore_n C [(2, .int (0 : Int32)), (0, .ref (z + 134)), (1, .int a1)] dX10_are_1 rfl (by decide) rfl ?_
  refine dx_iconst (v := (0 : Int32)) C dX10_are_2 (by decide) ?_
  refine dx_istore_n C [(3, .int (0 : Int32)), (2, .int (0 : Int32)), (0, .ref (z + 134)), (1, .int a1)] dX10_are_3 rfl (by decide) rfl ?_
  refine dx_mv (lo2 := [(0, .ref (z + 134)), (1, .int a1), (2, .int (0 : Int32)), (3, .int (0 : Int32))]) [2, 3, 1, 0] rfl ?_
  refine dx_bind 41 (fun v3 => [(2, .int v3)]) (fun v3 => []) (fun v3 => w) (fun v3 => (?_ : DX p l e _ s m _ below meth c G z 4 n _ _ 41 [(2, .int v3)] [] w _)) ?_
  · refine dx_iload_n C 0 dX10_are_41 rfl rfl ?_
    exact dx_iret1 C hr hlk dX10_are_42 (fun h => h)
  · refine dx_lp (fun s4 => [(0, .ref (z + 134)), (1, .int a1), (2, .int s4.1), (3, .int s4.2)]) [] (fun s4 => w) (fun s4 => (?_ : DX p l e _ s m _ below meth c G z 4 n _ _ 4 [(0, .ref (z + 134)), (1, .int a1), (2, .int s4.1), (3, .int s4.2)] [] w _)) 5000000000 ((0 : Int32), (0 : Int32))
    refine dx_iload_n C 3 dX10_are_4 rfl rfl ?_
    refine dx_aload_n C 0 dX10_are_5 rfl rfl ?_
    refine dgX10_156 C dX10_are_6 ?_
    refine dx_icmp_ge C 41 dX10_are_9 (by decide) ?_ ?_
    · refine dx_mv (lo2 := [(2, .int s4.1)]) [2] rfl ?_
      exact dx_end (fun h => h)
    · refine dx_iload_n C 2 dX10_are_12 rfl rfl ?_
      refine dx_aload_n C 0 dX10_are_13 rfl rfl ?_
      refine dgX10_47 C dX10_are_14 ?_
      refine dx_bipush (v := (7 : Int32)) C dX10_are_17 (by decide) ?_
      refine dx_iload_n C 3 dX10_are_19 rfl rfl ?_
      refine dx_iadd C dX10_are_20 ?_
      refine dx_rd C ly_146 dX10_are_21 (fun x1 => ?_)
      refine dx_iload_n C 1 dX10_are_22 rfl rfl ?_
      refine dx_bind 33 (fun v2 => [(0, .ref (z + 134)), (1, .int a1), (3, .int s4.2)]) (fun v2 => [.int v2, .int s4.1]) (fun v2 => w) (fun v2 => (?_ : DX p l e _ s m _ below meth c G z 4 n _ _ 33 [(0, .ref (z + 134)), (1, .int a1), (3, .int s4.2)] [.int v2, .int s4.1] w _)) ?_
      · refine dx_ior C dX10_are_33 ?_
        refine dx_istore_n C [(2, .int (s4.1 ||| v2)), (0, .ref (z + 134)), (1, .int a1), (3, .int s4.2)] dX10_are_34 rfl (by decide) rfl ?_
        refine dx_iinc (v := (s4.2 + (1 : Int32))) C 3 [(3, .int (s4.2 + (1 : Int32))), (2, .int (s4.1 ||| v2)), (0, .ref (z + 134)), (1, .int a1)] dX10_are_35 rfl rfl (by decide) rfl ?_
        refine dx_goto C 4 dX10_are_38 (by decide) ?_
        refine dx_mv (lo2 := [(0, .ref (z + 134)), (1, .int a1), (2, .int (s4.1 ||| v2)), (3, .int (s4.2 + (1 : Int32)))]) [2, 3, 1, 0] rfl ?_
        exact dx_end (fun h => h)
      · refine dx_icmp_ne C 32 dX10_are_23 (by decide) ?_ ?_
        · refine dx_iconst (v := (0 : Int32)) C dX10_are_32 (by decide) ?_
          refine dx_mv (lo2 := [(0, .ref (z + 134)), (1, .int a1), (3, .int s4.2)]) [0, 1, 3] rfl ?_
          exact dx_end (fun h => h)
        · refine dx_iconst (v := (1 : Int32)) C dX10_are_26 (by decide) ?_
          refine dx_iload_n C 3 dX10_are_27 rfl rfl ?_
          refine dx_ishl C dX10_are_28 ?_
          refine dx_goto C 33 dX10_are_29 (by decide) ?_
          refine dx_mv (lo2 := [(0, .ref (z + 134)), (1, .int a1), (3, .int s4.2)]) [0, 1, 3] rfl ?_
          exact dx_end (fun h => h)
def f_X10_nobodys (w : Mem) : Option (Int32) :=
  lt ((((1 : Int32) <<< ((w 134 17) &&& 31)) - (1 : Int32))) fun t1 => (lp (S := (Int32 × Int32)) (T := Int32) (fun s11 => (if s11.2 < (w 134 18) then rd 6 (w 145) s11.2 fun x2 => lt ((s11.1 &&& (x2 ^^^ (-1 : Int32)))) fun t3 => some (Sum.inl (t3, (s11.2 + (1 : Int32)))) else some (Sum.inr s11.1))) 5000000000 (t1, (0 : Int32))).bind fun v4 => some (v4)
set_option maxRecDepth 20000 in
set_option maxHeartbeats 4000000 in
theorem tf_X10_nobodys {G : GT} {l : Launch} {z n : Nat} (w : Mem) (q : Int32) (hq : f_X10_nobodys w = some q) : Mt G l z yX10_nobodys cX10_nobodys 3 (some .int) { frames := 0, cells := 0, slots := 0, locals := 0 } [.ref (z + 134)] (hp G z w) n (some (.int q)) (hp G z w) n := by
  refine mt_of (by decide +kernel) (Nat.le_of_ble_eq_true rfl) ?_
  intro p e s m below meth c C hr hlk hnm
  refine (?_ : DX p l e _ s m _ below meth c G z 3 n _ (fun v => v = q) 0 [(0, .ref (z + 134))] [] w (f_X10_nobodys w)) q hq rfl
  unfold f_X10_nobodys
  refine dx_iconst (v := (1 : Int32)) C dX10_nobodys_0 (by decide) ?_
  refine dx_aload_n C 0 dX10_nobodys_1 rfl rfl ?_
  refine dgX10_153 C dX10_nobodys_2 ?_
  refine dx_ishl C dX10_nobodys_5 ?_
  refine dx_iconst (v := (1 : Int32)) C dX10_nobodys_6 (by decide) ?_
  refine dx_isub C dX10_nobodys_7 ?_
  refine dx_lt (fun t1 => ?_)
  refine dx_istore_n C [(1, .int t1), (0, .ref (z + 134))] dX10_nobodys_8 rfl (by decide) rfl ?_
  refine dx_iconst (v := (0 : Int32)) C dX10_nobodys_9 (by decide) ?_
  refine dx_istore_n C [(2, .int (0 : Int32)), (1, .int t1), (0, .ref (z + 134))] dX10_nobodys_10 rfl (by decide) rfl ?_
  refine dx_mv (lo2 := [(0, .ref (z + 134)), (1, .int t1), (2, .int (0 : Int32))]) [2, 1, 0] rfl ?_
  refine dx_bind 36 (fun v4 => [(1, .int v4)]) (fun v4 => []) (fun v4 => w) (fun v4 => (?_ : DX p l e _ s m _ below meth c G z 3 n _ _ 36 [(1, .int v4)] [] w _)) ?_
  · refine dx_iload_n C 0 dX10_nobodys_36 rfl rfl ?_
    exact dx_iret1 C hr hlk dX10_nobodys_37 (fun h => h)
  · refine dx_lp (fun s11 => [(0, .ref (z + 134)), (1, .int s11.1), (2, .int s11.2)]) [] (fun s11 => w) (fun s11 => (?_ : DX p l e _ s m _ below meth c G z 3 n _ _ 11 [(0, .ref (z + 134)), (1, .int s11.1), (2, .int s11.2)] [] w _)) 5000000000 (t1, (0 : Int32))
    refine dx_iload_n C 2 dX10_nobodys_11 rfl rfl ?_
    refine dx_aload_n C 0 dX10_nobodys_12 rfl rfl ?_
    refine dgX10_156 C dX10_nobodys_13 ?_
    refine dx_icmp_ge C 36 dX10_nobodys_16 (by decide) ?_ ?_
    · refine dx_mv (lo2 := [(1, .int s11.1)]) [1] rfl ?_
      exact dx_end (fun h => h)
    · refine dx_iload_n C 1 dX10_nobodys_19 rfl rfl ?_
      refine dx_aload_n C 0 dX10_nobodys_20 rfl rfl ?_
      refine dgX10_44 C dX10_nobodys_21 ?_
      refine dx_iload_n C 2 dX10_nobodys_24 rfl rfl ?_
      refine dx_rd C ly_145 dX10_nobodys_25 (fun x2 => ?_)
      refine dx_iconst (v := (-1 : Int32)) C dX10_nobodys_26 (by decide) ?_
      refine dx_ixor C dX10_nobodys_27 ?_
      refine dx_iand C dX10_nobodys_28 ?_
      refine dx_lt (fun t3 => ?_)
      refine dx_istore_n C [(1, .int t3), (0, .ref (z + 134)), (2, .int s11.2)] dX10_nobodys_29 rfl (by decide) rfl ?_
      refine dx_iinc (v := (s11.2 + (1 : Int32))) C 2 [(2, .int (s11.2 + (1 : Int32))), (1, .int t3), (0, .ref (z + 134))] dX10_nobodys_30 rfl rfl (by decide) rfl ?_
      refine dx_goto C 11 dX10_nobodys_33 (by decide) ?_
      refine dx_mv (lo2 := [(0, .ref (z + 134)), (1, .int t3), (2, .int (s11.2 + (1 : Int32)))]) [2, 1, 0] rfl ?_
      exact dx_end (fun h => h)
def f_X10_longestSat (w : Mem) : Option (Int32) :=
  (lp (S := (Int32 × Int32 × Int32)) (T := Int32) (fun s6 => (if s6.2.2 < (w 134 18) then rd 25 (w 146) ((13 : Int32) + s6.2.2) fun x1 => ((if s6.2.1 < x1 then some (s6.2.2) else some (s6.1)) : Option Int32).bind fun v2 => rd 25 (w 146) ((13 : Int32) + s6.2.2) fun x3 => ((if s6.2.1 < x3 then rd 25 (w 146) ((13 : Int32) + s6.2.2) fun x5 => some (x5) else some (s6.2.1)) : Option Int32).bind fun v4 => some (Sum.inl (v2, v4, (s6.2.2 + (1 : Int32)))) else some (Sum.inr s6.1))) 5000000000 ((-1 : Int32), (0 : Int32), (0 : Int32))).bind fun v6 => some (v6)
set_option maxRecDepth 20000 in
set_option maxHeartbeats 4000000 in
theorem tf_X10_longestSat {G : GT} {l : Launch} {z n : Nat} (w : Mem) (q : Int32) (hq : f_X10_longestSat w = some q) : Mt G l z yX10_longestSat cX10_longestSat 4 (some .int) { frames := 0, cells := 0, slots := 0, locals := 0 } [.ref (z + 134)] (hp G z w) n (some (.int q)) (hp G z w) n := by
  refine mt_of (by decide +kernel) (Nat.le_of_ble_eq_true rfl) ?_
  intro p e s m below meth c C hr hlk hnm
  refine (?_ : DX p l e _ s m _ below meth c G z 4 n _ (fun v => v = q) 0 [(0, .ref (z + 134))] [] w (f_X10_longestSat w)) q hq rfl
  unfold f_X10_longestSat
  refine dx_iconst (v := (-1 : Int32)) C dX10_longestSat_0 (by decide) ?_
  refine dx_istore_n C [(1, .int (-1 : Int32)), (0, .ref (z + 134))] dX10_longestSat_1 rfl (by decide) rfl ?_
  refine dx_iconst (v := (0 : Int32)) C dX10_longestSat_2 (by decide) ?_
  refine dx_istore_n C [(2, .int (0 : Int32)), (1, .int (-1 : Int32)), (0, .ref (z + 134))] dX10_longestSat_3 rfl (by decide) rfl ?_
  refine dx_iconst (v := (0 : Int32)) C dX10_longestSat_4 (by decide) ?_
  refine dx_istore_n C [(3, .int (0 : Int32)), (2, .int (0 : Int32)), (1, .int (-1 : Int32)), (0, .ref (z + 134))] dX10_longestSat_5 rfl (by decide) rfl ?_
  refine dx_mv (lo2 := [(0, .ref (z + 134)), (1, .int (-1 : Int32)), (2, .int (0 : Int32)), (3, .int (0 : Int32))]) [3, 2, 1, 0] rfl ?_
  refine dx_bind 66 (fun v6 => [(1, .int v6)]) (fun v6 => []) (fun v6 => w) (fun v6 => (?_ : DX p l e _ s m _ below meth c G z 4 n _ _ 66 [(1, .int v6)] [] w _)) ?_
  · refine dx_iload_n C 0 dX10_longestSat_66 rfl rfl ?_
    exact dx_iret1 C hr hlk dX10_longestSat_67 (fun h => h)
  · refine dx_lp (fun s6 => [(0, .ref (z + 134)), (1, .int s6.1), (2, .int s6.2.1), (3, .int s6.2.2)]) [] (fun s6 => w) (fun s6 => (?_ : DX p l e _ s m _ below meth c G z 4 n _ _ 6 [(0, .ref (z + 134)), (1, .int s6.1), (2, .int s6.2.1), (3, .int s6.2.2)] [] w _)) 5000000000 ((-1 : Int32), (0 : Int32), (0 : Int32))
    refine dx_iload_n C 3 dX10_longestSat_6 rfl rfl ?_
    refine dx_aload_n C 0 dX10_longestSat_7 rfl rfl ?_
    refine dgX10_156 C dX10_longestSat_8 ?_
    refine dx_icmp_ge C 66 dX10_longestSat_11 (by decide) ?_ ?_
    · refine dx_mv (lo2 := [(1, .int s6.1)]) [1] rfl ?_
      exact dx_end (fun h => h)
    · refine dx_aload_n C 0 dX10_longestSat_14 rfl rfl ?_
      refine dgX10_47 C dX10_longestSat_15 ?_
      refine dx_bipush (v := (13 : Int32)) C dX10_longestSat_18 (by decide) ?_
      refine dx_iload_n C 3 dX10_longestSat_20 rfl rfl ?_
      refine dx_iadd C dX10_longestSat_21 ?_
      refine dx_rd C ly_146 dX10_longestSat_22 (fun x1 => ?_)
      refine dx_iload_n C 2 dX10_longestSat_23 rfl rfl ?_
      refine dx_bind 32 (fun v2 => [(0, .ref (z + 134)), (2, .int s6.2.1), (3, .int s6.2.2)]) (fun v2 => [.int v2]) (fun v2 => w) (fun v2 => (?_ : DX p l e _ s m _ below meth c G z 4 n _ _ 32 [(0, .ref (z + 134)), (2, .int s6.2.1), (3, .int s6.2.2)] [.int v2] w _)) ?_
      · refine dx_istore_n C [(1, .int v2), (0, .ref (z + 134)), (2, .int s6.2.1), (3, .int s6.2.2)] dX10_longestSat_32 rfl (by decide) rfl ?_
        refine dx_aload_n C 1 dX10_longestSat_33 rfl rfl ?_
        refine dgX10_47 C dX10_longestSat_34 ?_
        refine dx_bipush (v := (13 : Int32)) C dX10_longestSat_37 (by decide) ?_
        refine dx_iload_n C 3 dX10_longestSat_39 rfl rfl ?_
        refine dx_iadd C dX10_longestSat_40 ?_
        refine dx_rd C ly_146 dX10_longestSat_41 (fun x3 => ?_)
        refine dx_iload_n C 2 dX10_longestSat_42 rfl rfl ?_
        refine dx_bind 59 (fun v4 => [(0, .ref (z + 134)), (1, .int v2), (3, .int s6.2.2)]) (fun v4 => [.int v4]) (fun v4 => w) (fun v4 => (?_ : DX p l e _ s m _ below meth c G z 4 n _ _ 59 [(0, .ref (z + 134)), (1, .int v2), (3, .int s6.2.2)] [.int v4] w _)) ?_
        · refine dx_istore_n C [(2, .int v4), (0, .ref (z + 134)), (1, .int v2), (3, .int s6.2.2)] dX10_longestSat_59 rfl (by decide) rfl ?_
          refine dx_iinc (v := (s6.2.2 + (1 : Int32))) C 3 [(3, .int (s6.2.2 + (1 : Int32))), (2, .int v4), (0, .ref (z + 134)), (1, .int v2)] dX10_longestSat_60 rfl rfl (by decide) rfl ?_
          refine dx_goto C 6 dX10_longestSat_63 (by decide) ?_
          refine dx_mv (lo2 := [(0, .ref (z + 134)), (1, .int v2), (2, .int v4), (3, .int (s6.2.2 + (1 : Int32)))]) [2, 3, 1, 0] rfl ?_
          exact dx_end (fun h => h)
        · refine dx_icmp_le C 58 dX10_longestSat_43 (by decide) ?_ ?_
          · refine dx_iload_n C 2 dX10_longestSat_58 rfl rfl ?_
            refine dx_mv (lo2 := [(0, .ref (z + 134)), (1, .int v2), (3, .int s6.2.2)]) [1, 0, 3] rfl ?_
            exact dx_end (fun h => h)
          · refine dx_aload_n C 1 dX10_longestSat_46 rfl rfl ?_
            refine dgX10_47 C dX10_longestSat_47 ?_
            refine dx_bipush (v := (13 : Int32)) C dX10_longestSat_50 (by decide) ?_
            refine dx_iload_n C 3 dX10_longestSat_52 rfl rfl ?_
            refine dx_iadd C dX10_longestSat_53 ?_
            refine dx_rd C ly_146 dX10_longestSat_54 (fun x5 => ?_)
            refine dx_goto C 59 dX10_longestSat_55 (by decide) ?_
            refine dx_mv (lo2 := [(0, .ref (z + 134)), (1, .int v2), (3, .int s6.2.2)]) [1, 0, 3] rfl ?_
            exact dx_end (fun h => h)
      · refine dx_icmp_le C 31 dX10_longestSat_24 (by decide) ?_ ?_
        · refine dx_iload_n C 1 dX10_longestSat_31 rfl rfl ?_
          refine dx_mv (lo2 := [(0, .ref (z + 134)), (2, .int s6.2.1), (3, .int s6.2.2)]) [0, 2, 3] rfl ?_
          exact dx_end (fun h => h)
        · refine dx_iload_n C 3 dX10_longestSat_27 rfl rfl ?_
          refine dx_goto C 32 dX10_longestSat_28 (by decide) ?_
          refine dx_mv (lo2 := [(0, .ref (z + 134)), (2, .int s6.2.1), (3, .int s6.2.2)]) [0, 2, 3] rfl ?_
          exact dx_end (fun h => h)
def f_X10_has (a0 : Int32) (a1 : Int32) : Option (Int32) :=
  (if ((a0 >>> (a1 &&& 31)) &&& (1 : Int32)) = (1 : Int32) then some ((1 : Int32)) else some ((0 : Int32)))
set_option maxRecDepth 20000 in
set_option maxHeartbeats 4000000 in
theorem tf_X10_has {G : GT} {l : Launch} {z n : Nat} (a0 : Int32) (a1 : Int32) (w : Mem) (q : Int32) (hq : f_X10_has a0 a1 = some q) : Mt G l z yX10_has cX10_has 2 (some .boolean) { frames := 0, cells := 0, slots := 0, locals := 0 } [.int a0, .int a1] (hp G z w) n (some (.int q)) (hp G z w) n := by
  refine mt_of (by decide +kernel) (Nat.le_of_ble_eq_true rfl) ?_
  intro p e s m below meth c C hr hlk hnm
  refine (?_ : DX p l e _ s m _ below meth c G z 2 n _ (fun v => v = q) 0 [(0, .int a0), (1, .int a1)] [] w (f_X10_has a0 a1)) q hq rfl
  unfold f_X10_has
  refine dx_iload_n C 0 dX10_has_0 rfl rfl ?_
  refine dx_iload_n C 1 dX10_has_1 rfl rfl ?_
  refine dx_ishr C dX10_has_2 ?_
  refine dx_iconst (v := (1 : Int32)) C dX10_has_3 (by decide) ?_
  refine dx_iand C dX10_has_4 ?_
  refine dx_iconst (v := (1 : Int32)) C dX10_has_5 (by decide) ?_
  refine dx_icmp_ne C 13 dX10_has_6 (by decide) ?_ ?_
  · refine dx_iconst (v := (0 : Int32)) C dX10_has_13 (by decide) ?_
    exact dx_zret1 C hr hlk (by decide) dX10_has_14 (fun h => h)
  · refine dx_iconst (v := (1 : Int32)) C dX10_has_9 (by decide) ?_
    refine dx_goto C 14 dX10_has_10 (by decide) ?_
    exact dx_zret1 C hr hlk (by decide) dX10_has_14 (fun h => h)
def f_X10_layTalks (a1 : Int32) (w : Mem) : Option (Mem) :=
  (lp (S := (Int32 × Mem)) (T := Mem) (fun s2 => (if s2.1 < (2048 : Int32) then wr 2048 148 s2.1 (0 : Int32) s2.2 fun w1 => some (Sum.inl ((s2.1 + (1 : Int32)), w1)) else some (Sum.inr s2.2))) 5000000000 ((0 : Int32), w)).bind fun v2 => (lp (S := (Int32 × Mem)) (T := Mem) (fun s24 => (if s24.1 < (256 : Int32) then (lp (S := (Int32 × Mem)) (T := Mem) (fun s33 => (if s33.1 < (s33.2 134 17) then (if (s24.1 &&& (a1 ^^^ (-1 : Int32))) = 0 then (f_X10_has s24.1 s33.1).bind fun r3 => ((if r3 = 0 then some (s33.2) else lt ((s24.1 &&& (((1 : Int32) <<< (s33.1 &&& 31)) ^^^ (-1 : Int32)))) fun t5 => ((if t5 = 0 then some (((1 : Int32) <<< (s33.1 &&& 31))) else some ((0 : Int32))) : Option Int32).bind fun v6 => (lp (S := (Int32 × Int32)) (T := Int32) (fun s83 => (if s83.2 < (s33.2 134 17) then (f_X10_has t5 s83.2).bind fun r7 => ((if r7 = 0 then some ((0 : Int32)) else rd 8 (s33.2 142) s83.2 fun x9 => (f_X10_has x9 s33.1).bind fun r10 => (if r10 = 0 then some ((0 : Int32)) else rd 2048 (s33.2 148) (((8 : Int32) * t5) + s83.2) fun x11 => some (x11))) : Option Int32).bind fun v8 => some (Sum.inl ((s83.1 ||| v8), (s83.2 + (1 : Int32)))) else some (Sum.inr s83.1))) 5000000000 (v6, (0 : Int32))).bind fun v12 => wr 2048 148 (((8 : Int32) * s24.1) + s33.1) v12 s33.2 fun w13 => some (w13)) : Option Mem).bind fun v4 => some (Sum.inl ((s33.1 + (1 : Int32)), v4)) else some (Sum.inr s33.2)) else some (Sum.inr s33.2))) 5000000000 ((0 : Int32), s24.2)).bind fun v14 => some (Sum.inl ((s24.1 + (1 : Int32)), v14)) else some (Sum.inr s24.2))) 5000000000 ((1 : Int32), v2)).bind fun v15 => some (v15)
set_option maxRecDepth 20000 in
set_option maxHeartbeats 4000000 in
theorem tf_X10_layTalks {G : GT} {l : Launch} {z n : Nat} (a1 : Int32) (w : Mem) (q : Mem) (hq : f_X10_layTalks a1 w = some q) : Mt G l z yX10_layTalks cX10_layTalks 7 none { frames := 1, cells := 0, slots := 0, locals := 21 } [.ref (z + 134), .int a1] (hp G z w) n none (hp G z q) n := by
  refine mt_of (by decide +kernel) (Nat.le_of_ble_eq_true rfl) ?_
  intro p e s m below meth c C hr hlk hnm
  refine (?_ : DX p l e _ s m _ below meth c G z 7 n _ (fun v => v = q) 0 [(0, .ref (z + 134)), (1, .int a1)] [] w (f_X10_layTalks a1 w)) q hq rfl
  unfold f_X10_layTalks
  refine dx_iconst (v := (0 : Int32)) C dX10_layTalks_0 (by decide) ?_
  refine dx_istore_n C [(2, .int (0 : Int32)), (0, .ref (z + 134)), (1, .int a1)] dX10_layTalks_1 rfl (by decide) rfl ?_
  refine dx_mv (lo2 := [(0, .ref (z + 134)), (1, .int a1), (2, .int (0 : Int32))]) [1, 2, 0] rfl ?_
  refine dx_bind 22 (fun v2 => [(0, .ref (z + 134)), (1, .int a1)]) (fun v2 => []) (fun v2 => v2) (fun v2 => (?_ : DX p l e _ s m _ below meth c G z 7 n _ _ 22 [(0, .ref (z + 134)), (1, .int a1)] [] v2 _)) ?_
  · refine dx_iconst (v := (1 : Int32)) C dX10_layTalks_22 (by decide) ?_
    refine dx_istore_n C [(2, .int (1 : Int32)), (0, .ref (z + 134)), (1, .int a1)] dX10_layTalks_23 rfl (by decide) rfl ?_
    refine dx_mv (lo2 := [(0, .ref (z + 134)), (1, .int a1), (2, .int (1 : Int32))]) [1, 2, 0] rfl ?_
    refine dx_bind 169 (fun v15 => []) (fun v15 => []) (fun v15 => v15) (fun v15 => (?_ : DX p l e _ s m _ below meth c G z 7 n _ _ 169 [] [] v15 _)) ?_
    · exact dx_vret C hr hlk dX10_layTalks_169 (fun h => h)
    · refine dx_lp (fun s24 => [(0, .ref (z + 134)), (1, .int a1), (2, .int s24.1)]) [] (fun s24 => s24.2) (fun s24 => (?_ : DX p l e _ s m _ below meth c G z 7 n _ _ 24 [(0, .ref (z + 134)), (1, .int a1), (2, .int s24.1)] [] s24.2 _)) 5000000000 ((1 : Int32), v2)
      refine dx_iload_n C 2 dX10_layTalks_24 rfl rfl ?_
      refine dx_sipush (v := (256 : Int32)) C dX10_layTalks_25 (by decide) ?_
      refine dx_icmp_ge C 169 dX10_layTalks_28 (by decide) ?_ ?_
      · refine dx_mv (lo2 := []) [] rfl ?_
        exact dx_end (fun h => h)
      · refine dx_iconst (v := (0 : Int32)) C dX10_layTalks_31 (by decide) ?_
        refine dx_istore_n C [(3, .int (0 : Int32)), (0, .ref (z + 134)), (1, .int a1), (2, .int s24.1)] dX10_layTalks_32 rfl (by decide) rfl ?_
        refine dx_mv (lo2 := [(0, .ref (z + 134)), (1, .int a1), (2, .int s24.1), (3, .int (0 : Int32))]) [1, 2, 3, 0] rfl ?_
        refine dx_bind 163 (fun v14 => [(0, .ref (z + 134)), (1, .int a1), (2, .int s24.1)]) (fun v14 => []) (fun v14 => v14) (fun v14 => (?_ : DX p l e _ s m _ below meth c G z 7 n _ _ 163 [(0, .ref (z + 134)), (1, .int a1), (2, .int s24.1)] [] v14 _)) ?_
        · refine dx_iinc (v := (s24.1 + (1 : Int32))) C 2 [(2, .int (s24.1 + (1 : Int32))), (0, .ref (z + 134)), (1, .int a1)] dX10_layTalks_163 rfl rfl (by decide) rfl ?_
          refine dx_goto C 24 dX10_layTalks_166 (by decide) ?_
          refine dx_mv (lo2 := [(0, .ref (z + 134)), (1, .int a1), (2, .int (s24.1 + (1 : Int32)))]) [1, 2, 0] rfl ?_
          exact dx_end (fun h => h)
        · refine dx_lp (fun s33 => [(0, .ref (z + 134)), (1, .int a1), (2, .int s24.1), (3, .int s33.1)]) [] (fun s33 => s33.2) (fun s33 => (?_ : DX p l e _ s m _ below meth c G z 7 n _ _ 33 [(0, .ref (z + 134)), (1, .int a1), (2, .int s24.1), (3, .int s33.1)] [] s33.2 _)) 5000000000 ((0 : Int32), s24.2)
          refine dx_iload_n C 3 dX10_layTalks_33 rfl rfl ?_
          refine dx_aload_n C 0 dX10_layTalks_34 rfl rfl ?_
          refine dgX10_153 C dX10_layTalks_35 ?_
          refine dx_icmp_ge C 163 dX10_layTalks_38 (by decide) ?_ ?_
          · refine dx_mv (lo2 := [(0, .ref (z + 134)), (1, .int a1), (2, .int s24.1)]) [0, 1, 2] rfl ?_
            exact dx_end (fun h => h)
          · refine dx_iload_n C 2 dX10_layTalks_41 rfl rfl ?_
            refine dx_iload_n C 1 dX10_layTalks_42 rfl rfl ?_
            refine dx_iconst (v := (-1 : Int32)) C dX10_layTalks_43 (by decide) ?_
            refine dx_ixor C dX10_layTalks_44 ?_
            refine dx_iand C dX10_layTalks_45 ?_
            refine dx_if_ne C 163 dX10_layTalks_46 (by decide) ?_ ?_
            · refine dx_mv (lo2 := [(0, .ref (z + 134)), (1, .int a1), (2, .int s24.1)]) [0, 1, 2] rfl ?_
              exact dx_end (fun h => h)
            · refine dx_iload_n C 2 dX10_layTalks_49 rfl rfl ?_
              refine dx_iload_n C 3 dX10_layTalks_50 rfl rfl ?_
              refine dx_callS1 C cl_X10_has kmX10_168 (As := [.int s24.1, .int s33.1]) (rest := []) (tf_X10_has s24.1 s33.1 s33.2) rfl rfl (Nat.le_of_ble_eq_true rfl) ⟨Nat.le_of_ble_eq_true rfl, Nat.le_of_ble_eq_true rfl⟩ dX10_layTalks_51 (fun r3 => ?_)
              refine dx_bind 157 (fun v4 => [(0, .ref (z + 134)), (1, .int a1), (2, .int s24.1), (3, .int s33.1)]) (fun v4 => []) (fun v4 => v4) (fun v4 => (?_ : DX p l e _ s m _ below meth c G z 7 n _ _ 157 [(0, .ref (z + 134)), (1, .int a1), (2, .int s24.1), (3, .int s33.1)] [] v4 _)) ?_
              · refine dx_iinc (v := (s33.1 + (1 : Int32))) C 3 [(3, .int (s33.1 + (1 : Int32))), (0, .ref (z + 134)), (1, .int a1), (2, .int s24.1)] dX10_layTalks_157 rfl rfl (by decide) rfl ?_
                refine dx_goto C 33 dX10_layTalks_160 (by decide) ?_
                refine dx_mv (lo2 := [(0, .ref (z + 134)), (1, .int a1), (2, .int s24.1), (3, .int (s33.1 + (1 : Int32)))]) [1, 2, 3, 0] rfl ?_
                exact dx_end (fun h => h)
              · refine dx_if_eq C 157 dX10_layTalks_54 (by decide) ?_ ?_
                · exact dx_end (fun h => h)
                · refine dx_iload_n C 2 dX10_layTalks_57 rfl rfl ?_
                  refine dx_iconst (v := (1 : Int32)) C dX10_layTalks_58 (by decide) ?_
                  refine dx_iload_n C 3 dX10_layTalks_59 rfl rfl ?_
                  refine dx_ishl C dX10_layTalks_60 ?_
                  refine dx_iconst (v := (-1 : Int32)) C dX10_layTalks_61 (by decide) ?_
                  refine dx_ixor C dX10_layTalks_62 ?_
                  refine dx_iand C dX10_layTalks_63 ?_
                  refine dx_lt (fun t5 => ?_)
                  refine dx_istore C [(4, .int t5), (0, .ref (z + 134)), (1, .int a1), (2, .int s24.1), (3, .int s33.1)] dX10_layTalks_64 (by decide) rfl ?_
                  refine dx_iload C 0 dX10_layTalks_66 rfl ?_
                  refine dx_bind 78 (fun v6 => [(0, .ref (z + 134)), (1, .int a1), (2, .int s24.1), (3, .int s33.1), (4, .int t5)]) (fun v6 => [.int v6]) (fun v6 => s33.2) (fun v6 => (?_ : DX p l e _ s m _ below meth c G z 7 n _ _ 78 [(0, .ref (z + 134)), (1, .int a1), (2, .int s24.1), (3, .int s33.1), (4, .int t5)] [.int v6] s33.2 _)) ?_
                  · refine dx_istore C [(5, .int v6), (0, .ref (z + 134)), (1, .int a1), (2, .int s24.1), (3, .int s33.1), (4, .int t5)] dX10_layTalks_78 (by decide) rfl ?_
                    refine dx_iconst (v := (0 : Int32)) C dX10_layTalks_80 (by decide) ?_
                    refine dx_istore C [(6, .int (0 : Int32)), (5, .int v6), (0, .ref (z + 134)), (1, .int a1), (2, .int s24.1), (3, .int s33.1), (4, .int t5)] dX10_layTalks_81 (by decide) rfl ?_
                    refine dx_mv (lo2 := [(0, .ref (z + 134)), (1, .int a1), (2, .int s24.1), (3, .int s33.1), (4, .int t5), (5, .int v6), (6, .int (0 : Int32))]) [2, 3, 4, 5, 6, 1, 0] rfl ?_
                    refine dx_bind 144 (fun v12 => [(0, .ref (z + 134)), (1, .int a1), (2, .int s24.1), (3, .int s33.1), (5, .int v12)]) (fun v12 => []) (fun v12 => s33.2) (fun v12 => (?_ : DX p l e _ s m _ below meth c G z 7 n _ _ 144 [(0, .ref (z + 134)), (1, .int a1), (2, .int s24.1), (3, .int s33.1), (5, .int v12)] [] s33.2 _)) ?_
                    · refine dx_aload_n C 0 dX10_layTalks_144 rfl rfl ?_
                      refine dgX10_53 C dX10_layTalks_145 ?_
                      refine dx_bipush (v := (8 : Int32)) C dX10_layTalks_148 (by decide) ?_
                      refine dx_iload_n C 2 dX10_layTalks_150 rfl rfl ?_
                      refine dx_imul C dX10_layTalks_151 ?_
                      refine dx_iload_n C 3 dX10_layTalks_152 rfl rfl ?_
                      refine dx_iadd C dX10_layTalks_153 ?_
                      refine dx_iload C 4 dX10_layTalks_154 rfl ?_
                      refine dx_wr C ly_148 dX10_layTalks_156 (fun w13 => ?_)
                      refine dx_mv (lo2 := [(0, .ref (z + 134)), (1, .int a1), (2, .int s24.1), (3, .int s33.1)]) [0, 1, 2, 3] rfl ?_
                      exact dx_end (fun h => h)
                    · refine dx_lp (fun s83 => [(0, .ref (z + 134)), (1, .int a1), (2, .int s24.1), (3, .int s33.1), (4, .int t5), (5, .int s83.1), (6, .int s83.2)]) [] (fun s83 => s33.2) (fun s83 => (?_ : DX p l e _ s m _ below meth c G z 7 n _ _ 83 [(0, .ref (z + 134)), (1, .int a1), (2, .int s24.1), (3, .int s33.1), (4, .int t5), (5, .int s83.1), (6, .int s83.2)] [] s33.2 _)) 5000000000 (v6, (0 : Int32))
                      refine dx_iload C 6 dX10_layTalks_83 rfl ?_
                      refine dx_aload_n C 0 dX10_layTalks_85 rfl rfl ?_
                      refine dgX10_153 C dX10_layTalks_86 ?_
                      refine dx_icmp_ge C 144 dX10_layTalks_89 (by decide) ?_ ?_
                      · refine dx_mv (lo2 := [(0, .ref (z + 134)), (1, .int a1), (2, .int s24.1), (3, .int s33.1), (5, .int s83.1)]) [0, 1, 2, 3, 5] rfl ?_
                        exact dx_end (fun h => h)
                      · refine dx_iload C 5 dX10_layTalks_92 rfl ?_
                        refine dx_iload C 4 dX10_layTalks_94 rfl ?_
                        refine dx_iload C 6 dX10_layTalks_96 rfl ?_
                        refine dx_callS1 C cl_X10_has kmX10_168 (As := [.int t5, .int s83.2]) (rest := [.int s83.1]) (tf_X10_has t5 s83.2 s33.2) rfl rfl (Nat.le_of_ble_eq_true rfl) ⟨Nat.le_of_ble_eq_true rfl, Nat.le_of_ble_eq_true rfl⟩ dX10_layTalks_98 (fun r7 => ?_)
                        refine dx_bind 135 (fun v8 => [(0, .ref (z + 134)), (1, .int a1), (2, .int s24.1), (3, .int s33.1), (4, .int t5), (6, .int s83.2)]) (fun v8 => [.int v8, .int s83.1]) (fun v8 => s33.2) (fun v8 => (?_ : DX p l e _ s m _ below meth c G z 7 n _ _ 135 [(0, .ref (z + 134)), (1, .int a1), (2, .int s24.1), (3, .int s33.1), (4, .int t5), (6, .int s83.2)] [.int v8, .int s83.1] s33.2 _)) ?_
                        · refine dx_ior C dX10_layTalks_135 ?_
                          refine dx_istore C [(5, .int (s83.1 ||| v8)), (0, .ref (z + 134)), (1, .int a1), (2, .int s24.1), (3, .int s33.1), (4, .int t5), (6, .int s83.2)] dX10_layTalks_136 (by decide) rfl ?_
                          refine dx_iinc (v := (s83.2 + (1 : Int32))) C 6 [(6, .int (s83.2 + (1 : Int32))), (5, .int (s83.1 ||| v8)), (0, .ref (z + 134)), (1, .int a1), (2, .int s24.1), (3, .int s33.1), (4, .int t5)] dX10_layTalks_138 rfl rfl (by decide) rfl ?_
                          refine dx_goto C 83 dX10_layTalks_141 (by decide) ?_
                          refine dx_mv (lo2 := [(0, .ref (z + 134)), (1, .int a1), (2, .int s24.1), (3, .int s33.1), (4, .int t5), (5, .int (s83.1 ||| v8)), (6, .int (s83.2 + (1 : Int32)))]) [2, 3, 4, 5, 6, 1, 0] rfl ?_
                          exact dx_end (fun h => h)
                        · refine dx_if_eq C 134 dX10_layTalks_101 (by decide) ?_ ?_
                          · refine dx_iconst (v := (0 : Int32)) C dX10_layTalks_134 (by decide) ?_
                            refine dx_mv (lo2 := [(0, .ref (z + 134)), (1, .int a1), (2, .int s24.1), (3, .int s33.1), (4, .int t5), (6, .int s83.2)]) [0, 1, 2, 3, 4, 6] rfl ?_
                            exact dx_end (fun h => h)
                          · refine dx_aload_n C 0 dX10_layTalks_104 rfl rfl ?_
                            refine dgX10_35 C dX10_layTalks_105 ?_
                            refine dx_iload C 6 dX10_layTalks_108 rfl ?_
                            refine dx_rd C ly_142 dX10_layTalks_110 (fun x9 => ?_)
                            refine dx_iload_n C 3 dX10_layTalks_111 rfl rfl ?_
                            refine dx_callS1 C cl_X10_has kmX10_168 (As := [.int x9, .int s33.1]) (rest := [.int s83.1]) (tf_X10_has x9 s33.1 s33.2) rfl rfl (Nat.le_of_ble_eq_true rfl) ⟨Nat.le_of_ble_eq_true rfl, Nat.le_of_ble_eq_true rfl⟩ dX10_layTalks_112 (fun r10 => ?_)
                            refine dx_if_eq C 134 dX10_layTalks_115 (by decide) ?_ ?_
                            · refine dx_iconst (v := (0 : Int32)) C dX10_layTalks_134 (by decide) ?_
                              refine dx_mv (lo2 := [(0, .ref (z + 134)), (1, .int a1), (2, .int s24.1), (3, .int s33.1), (4, .int t5), (6, .int s83.2)]) [0, 1, 2, 3, 4, 6] rfl ?_
                              exact dx_end (fun h => h)
                            · refine dx_aload_n C 0 dX10_layTalks_118 rfl rfl ?_
                              refine dgX10_53 C dX10_layTalks_119 ?_
                              refine dx_bipush (v := (8 : Int32)) C dX10_layTalks_122 (by decide) ?_
                              refine dx_iload C 4 dX10_layTalks_124 rfl ?_
                              refine dx_imul C dX10_layTalks_126 ?_
                              refine dx_iload C 6 dX10_layTalks_127 rfl ?_
                              refine dx_iadd C dX10_layTalks_129 ?_
                              refine dx_rd C ly_148 dX10_layTalks_130 (fun x11 => ?_)
                              refine dx_goto C 135 dX10_layTalks_131 (by decide) ?_
                              refine dx_mv (lo2 := [(0, .ref (z + 134)), (1, .int a1), (2, .int s24.1), (3, .int s33.1), (4, .int t5), (6, .int s83.2)]) [0, 1, 2, 3, 4, 6] rfl ?_
                              exact dx_end (fun h => h)
                  · refine dx_if_ne C 77 dX10_layTalks_68 (by decide) ?_ ?_
                    · refine dx_iconst (v := (0 : Int32)) C dX10_layTalks_77 (by decide) ?_
                      refine dx_mv (lo2 := [(0, .ref (z + 134)), (1, .int a1), (2, .int s24.1), (3, .int s33.1), (4, .int t5)]) [1, 2, 3, 4, 0] rfl ?_
                      exact dx_end (fun h => h)
                    · refine dx_iconst (v := (1 : Int32)) C dX10_layTalks_71 (by decide) ?_
                      refine dx_iload_n C 4 dX10_layTalks_72 rfl rfl ?_
                      refine dx_ishl C dX10_layTalks_73 ?_
                      refine dx_goto C 78 dX10_layTalks_74 (by decide) ?_
                      refine dx_mv (lo2 := [(0, .ref (z + 134)), (1, .int a1), (2, .int s24.1), (3, .int s33.1), (4, .int t5)]) [1, 2, 3, 4, 0] rfl ?_
                      exact dx_end (fun h => h)
  · refine dx_lp (fun s2 => [(0, .ref (z + 134)), (1, .int a1), (2, .int s2.1)]) [] (fun s2 => s2.2) (fun s2 => (?_ : DX p l e _ s m _ below meth c G z 7 n _ _ 2 [(0, .ref (z + 134)), (1, .int a1), (2, .int s2.1)] [] s2.2 _)) 5000000000 ((0 : Int32), w)
    refine dx_iload_n C 2 dX10_layTalks_2 rfl rfl ?_
    refine dx_sipush (v := (2048 : Int32)) C dX10_layTalks_3 (by decide) ?_
    refine dx_icmp_ge C 22 dX10_layTalks_6 (by decide) ?_ ?_
    · refine dx_mv (lo2 := [(0, .ref (z + 134)), (1, .int a1)]) [0, 1] rfl ?_
      exact dx_end (fun h => h)
    · refine dx_aload_n C 0 dX10_layTalks_9 rfl rfl ?_
      refine dgX10_53 C dX10_layTalks_10 ?_
      refine dx_iload_n C 2 dX10_layTalks_13 rfl rfl ?_
      refine dx_iconst (v := (0 : Int32)) C dX10_layTalks_14 (by decide) ?_
      refine dx_wr C ly_148 dX10_layTalks_15 (fun w1 => ?_)
      refine dx_iinc (v := (s2.1 + (1 : Int32))) C 2 [(2, .int (s2.1 + (1 : Int32))), (0, .ref (z + 134)), (1, .int a1)] dX10_layTalks_16 rfl rfl (by decide) rfl ?_
      refine dx_goto C 2 dX10_layTalks_19 (by decide) ?_
      refine dx_mv (lo2 := [(0, .ref (z + 134)), (1, .int a1), (2, .int (s2.1 + (1 : Int32)))]) [1, 2, 0] rfl ?_
      exact dx_end (fun h => h)
def f_X10_bits (a0 : Int32) : Option (Int32) :=
  (lp (S := (Int32 × Int32)) (T := Int32) (fun s4 => (if s4.2 = 0 then some (Sum.inr s4.1) else lt ((s4.2 &&& (s4.2 - (1 : Int32)))) fun t1 => some (Sum.inl ((s4.1 + (1 : Int32)), t1)))) 5000000000 ((0 : Int32), a0)).bind fun v2 => some (v2)
set_option maxRecDepth 20000 in
set_option maxHeartbeats 4000000 in
theorem tf_X10_bits {G : GT} {l : Launch} {z n : Nat} (a0 : Int32) (w : Mem) (q : Int32) (hq : f_X10_bits a0 = some q) : Mt G l z yX10_bits cX10_bits 3 (some .int) { frames := 0, cells := 0, slots := 0, locals := 0 } [.int a0] (hp G z w) n (some (.int q)) (hp G z w) n := by
  refine mt_of (by decide +kernel) (Nat.le_of_ble_eq_true rfl) ?_
  intro p e s m below meth c C hr hlk hnm
  refine (?_ : DX p l e _ s m _ below meth c G z 3 n _ (fun v => v = q) 0 [(0, .int a0)] [] w (f_X10_bits a0)) q hq rfl
  unfold f_X10_bits
  refine dx_iconst (v := (0 : Int32)) C dX10_bits_0 (by decide) ?_
  refine dx_istore_n C [(1, .int (0 : Int32)), (0, .int a0)] dX10_bits_1 rfl (by decide) rfl ?_
  refine dx_iload_n C 1 dX10_bits_2 rfl rfl ?_
  refine dx_istore_n C [(2, .int a0), (1, .int (0 : Int32)), (0, .int a0)] dX10_bits_3 rfl (by decide) rfl ?_
  refine dx_mv (lo2 := [(1, .int (0 : Int32)), (2, .int a0)]) [1, 0] rfl ?_
  refine dx_bind 20 (fun v2 => [(1, .int v2)]) (fun v2 => []) (fun v2 => w) (fun v2 => (?_ : DX p l e _ s m _ below meth c G z 3 n _ _ 20 [(1, .int v2)] [] w _)) ?_
  · refine dx_iload_n C 0 dX10_bits_20 rfl rfl ?_
    exact dx_iret1 C hr hlk dX10_bits_21 (fun h => h)
  · refine dx_lp (fun s4 => [(1, .int s4.1), (2, .int s4.2)]) [] (fun s4 => w) (fun s4 => (?_ : DX p l e _ s m _ below meth c G z 3 n _ _ 4 [(1, .int s4.1), (2, .int s4.2)] [] w _)) 5000000000 ((0 : Int32), a0)
    refine dx_iload_n C 1 dX10_bits_4 rfl rfl ?_
    refine dx_if_eq C 20 dX10_bits_5 (by decide) ?_ ?_
    · refine dx_mv (lo2 := [(1, .int s4.1)]) [0] rfl ?_
      exact dx_end (fun h => h)
    · refine dx_iinc (v := (s4.1 + (1 : Int32))) C 0 [(1, .int (s4.1 + (1 : Int32))), (2, .int s4.2)] dX10_bits_8 rfl rfl (by decide) rfl ?_
      refine dx_iload_n C 1 dX10_bits_11 rfl rfl ?_
      refine dx_iload_n C 1 dX10_bits_12 rfl rfl ?_
      refine dx_iconst (v := (1 : Int32)) C dX10_bits_13 (by decide) ?_
      refine dx_isub C dX10_bits_14 ?_
      refine dx_iand C dX10_bits_15 ?_
      refine dx_lt (fun t1 => ?_)
      refine dx_istore_n C [(2, .int t1), (1, .int (s4.1 + (1 : Int32)))] dX10_bits_16 rfl (by decide) rfl ?_
      refine dx_goto C 4 dX10_bits_17 (by decide) ?_
      refine dx_mv (lo2 := [(1, .int (s4.1 + (1 : Int32))), (2, .int t1)]) [1, 0] rfl ?_
      exact dx_end (fun h => h)
def f_X10_stayOf (a1 : Int32) (a2 : Int32) (w : Mem) : Option (Int32) :=
  rd 6 (w 145) a1 fun x1 => (f_X10_has x1 a2).bind fun r2 => (if r2 = 0 then some ((0 : Int32)) else rd 6 (w 144) a1 fun x3 => rd 6 (w 143) a1 fun x4 => (if x4 = (0 : Int32) then rd 8 (w 141) a2 fun x5 => (if (1 : Int32) < (x5 - x3) then rd 8 (w 141) a2 fun x6 => some ((x6 - x3)) else some ((1 : Int32))) else (if x4 = (1 : Int32) then rd 8 (w 141) a2 fun x8 => some (x8) else (if x4 = (2 : Int32) then rd 8 (w 141) a2 fun x10 => (if x3 < (x10 / (2 : Int32)) then rd 8 (w 141) a2 fun x11 => some (((x11 / (2 : Int32)) - x3)) else some ((0 : Int32))) else (if x4 = (3 : Int32) then rd 8 (w 141) a2 fun x13 => rd 8 (w 142) a2 fun x14 => (f_X10_bits x14).bind fun r15 => some ((x13 + ((5 : Int32) * r15))) else some ((0 : Int32)))))))
set_option maxRecDepth 20000 in
set_option maxHeartbeats 4000000 in
theorem tf_X10_stayOf {G : GT} {l : Launch} {z n : Nat} (a1 : Int32) (a2 : Int32) (w : Mem) (q : Int32) (hq : f_X10_stayOf a1 a2 w = some q) : Mt G l z yX10_stayOf cX10_stayOf 4 (some .int) { frames := 1, cells := 0, slots := 0, locals := 22 } [.ref (z + 134), .int a1, .int a2] (hp G z w) n (some (.int q)) (hp G z w) n := by
  refine mt_of (by decide +kernel) (Nat.le_of_ble_eq_true rfl) ?_
  intro p e s m below meth c C hr hlk hnm
  refine (?_ : DX p l e _ s m _ below meth c G z 4 n _ (fun v => v = q) 0 [(0, .ref (z + 134)), (1, .int a1), (2, .int a2)] [] w (f_X10_stayOf a1 a2 w)) q hq rfl
  unfold f_X10_stayOf
  refine dx_aload_n C 0 dX10_stayOf_0 rfl rfl ?_
  refine dgX10_44 C dX10_stayOf_1 ?_
  refine dx_iload_n C 1 dX10_stayOf_4 rfl rfl ?_
  refine dx_rd C ly_145 dX10_stayOf_5 (fun x1 => ?_)
  refine dx_iload_n C 2 dX10_stayOf_6 rfl rfl ?_
  refine dx_callS1 C cl_X10_has kmX10_168 (As := [.int x1, .int a2]) (rest := []) (tf_X10_has x1 a2 w) rfl rfl (Nat.le_of_ble_eq_true rfl) ⟨Nat.le_of_ble_eq_true rfl, Nat.le_of_ble_eq_true rfl⟩ dX10_stayOf_7 (fun r2 => ?_)
  refine dx_if_ne C 15 dX10_stayOf_10 (by decide) ?_ ?_
  · refine dx_aload_n C 0 dX10_stayOf_15 rfl rfl ?_
    refine dgX10_41 C dX10_stayOf_16 ?_
    refine dx_iload_n C 1 dX10_stayOf_19 rfl rfl ?_
    refine dx_rd C ly_144 dX10_stayOf_20 (fun x3 => ?_)
    refine dx_istore_n C [(3, .int x3), (0, .ref (z + 134)), (1, .int a1), (2, .int a2)] dX10_stayOf_21 rfl (by decide) rfl ?_
    refine dx_aload_n C 1 dX10_stayOf_22 rfl rfl ?_
    refine dgX10_38 C dX10_stayOf_23 ?_
    refine dx_iload_n C 2 dX10_stayOf_26 rfl rfl ?_
    refine dx_rd C ly_143 dX10_stayOf_27 (fun x4 => ?_)
    refine dx_ite (fun hs7 => ?_) (fun hs7 => ?_)
    · refine dx_tableIn C 60 dX10_stayOf_28 (by rw [hs7]; decide) (by rw [hs7]; decide) (by rw [hs7]; rfl) (by decide) ?_
      refine dx_aload_n C 1 dX10_stayOf_60 rfl rfl ?_
      refine dgX10_32 C dX10_stayOf_61 ?_
      refine dx_iload_n C 3 dX10_stayOf_64 rfl rfl ?_
      refine dx_rd C ly_141 dX10_stayOf_65 (fun x5 => ?_)
      refine dx_iload_n C 0 dX10_stayOf_66 rfl rfl ?_
      refine dx_isub C dX10_stayOf_67 ?_
      refine dx_iconst (v := (1 : Int32)) C dX10_stayOf_68 (by decide) ?_
      refine dx_icmp_le C 83 dX10_stayOf_69 (by decide) ?_ ?_
      · refine dx_iconst (v := (1 : Int32)) C dX10_stayOf_83 (by decide) ?_
        exact dx_iret1 C hr hlk dX10_stayOf_84 (fun h => h)
      · refine dx_aload_n C 1 dX10_stayOf_72 rfl rfl ?_
        refine dgX10_32 C dX10_stayOf_73 ?_
        refine dx_iload_n C 3 dX10_stayOf_76 rfl rfl ?_
        refine dx_rd C ly_141 dX10_stayOf_77 (fun x6 => ?_)
        refine dx_iload_n C 0 dX10_stayOf_78 rfl rfl ?_
        refine dx_isub C dX10_stayOf_79 ?_
        refine dx_goto C 84 dX10_stayOf_80 (by decide) ?_
        exact dx_iret1 C hr hlk dX10_stayOf_84 (fun h => h)
    · refine dx_ite (fun hs9 => ?_) (fun hs9 => ?_)
      · refine dx_tableIn C 85 dX10_stayOf_28 (by rw [hs9]; decide) (by rw [hs9]; decide) (by rw [hs9]; rfl) (by decide) ?_
        refine dx_aload_n C 1 dX10_stayOf_85 rfl rfl ?_
        refine dgX10_32 C dX10_stayOf_86 ?_
        refine dx_iload_n C 3 dX10_stayOf_89 rfl rfl ?_
        refine dx_rd C ly_141 dX10_stayOf_90 (fun x8 => ?_)
        exact dx_iret1 C hr hlk dX10_stayOf_91 (fun h => h)
      · refine dx_ite (fun hs12 => ?_) (fun hs12 => ?_)
        · refine dx_tableIn C 92 dX10_stayOf_28 (by rw [hs12]; decide) (by rw [hs12]; decide) (by rw [hs12]; rfl) (by decide) ?_
          refine dx_aload_n C 1 dX10_stayOf_92 rfl rfl ?_
          refine dgX10_32 C dX10_stayOf_93 ?_
          refine dx_iload_n C 3 dX10_stayOf_96 rfl rfl ?_
          refine dx_rd C ly_141 dX10_stayOf_97 (fun x10 => ?_)
          refine dx_iconst (v := (2 : Int32)) C dX10_stayOf_98 (by decide) ?_
          refine dx_idiv C dX10_stayOf_99 (by decide) ?_
          refine dx_iload_n C 0 dX10_stayOf_100 rfl rfl ?_
          refine dx_icmp_le C 117 dX10_stayOf_101 (by decide) ?_ ?_
          · refine dx_iconst (v := (0 : Int32)) C dX10_stayOf_117 (by decide) ?_
            exact dx_iret1 C hr hlk dX10_stayOf_118 (fun h => h)
          · refine dx_aload_n C 1 dX10_stayOf_104 rfl rfl ?_
            refine dgX10_32 C dX10_stayOf_105 ?_
            refine dx_iload_n C 3 dX10_stayOf_108 rfl rfl ?_
            refine dx_rd C ly_141 dX10_stayOf_109 (fun x11 => ?_)
            refine dx_iconst (v := (2 : Int32)) C dX10_stayOf_110 (by decide) ?_
            refine dx_idiv C dX10_stayOf_111 (by decide) ?_
            refine dx_iload_n C 0 dX10_stayOf_112 rfl rfl ?_
            refine dx_isub C dX10_stayOf_113 ?_
            refine dx_goto C 118 dX10_stayOf_114 (by decide) ?_
            exact dx_iret1 C hr hlk dX10_stayOf_118 (fun h => h)
        · refine dx_ite (fun hs16 => ?_) (fun hs16 => ?_)
          · refine dx_tableIn C 119 dX10_stayOf_28 (by rw [hs16]; decide) (by rw [hs16]; decide) (by rw [hs16]; rfl) (by decide) ?_
            refine dx_aload_n C 1 dX10_stayOf_119 rfl rfl ?_
            refine dgX10_32 C dX10_stayOf_120 ?_
            refine dx_iload_n C 3 dX10_stayOf_123 rfl rfl ?_
            refine dx_rd C ly_141 dX10_stayOf_124 (fun x13 => ?_)
            refine dx_iconst (v := (5 : Int32)) C dX10_stayOf_125 (by decide) ?_
            refine dx_aload_n C 1 dX10_stayOf_126 rfl rfl ?_
            refine dgX10_35 C dX10_stayOf_127 ?_
            refine dx_iload_n C 3 dX10_stayOf_130 rfl rfl ?_
            refine dx_rd C ly_142 dX10_stayOf_131 (fun x14 => ?_)
            refine dx_callS1 C cl_X10_bits kmX10_172 (As := [.int x14]) (rest := [.int (5 : Int32), .int x13]) (tf_X10_bits x14 w) rfl rfl (Nat.le_of_ble_eq_true rfl) ⟨Nat.le_of_ble_eq_true rfl, Nat.le_of_ble_eq_true rfl⟩ dX10_stayOf_132 (fun r15 => ?_)
            refine dx_imul C dX10_stayOf_135 ?_
            refine dx_iadd C dX10_stayOf_136 ?_
            exact dx_iret1 C hr hlk dX10_stayOf_137 (fun h => h)
          · have ehs7 : (x4).toInt ≠ 0 := fun q => hs7 ((i_eq_iff _ _).mpr (q.trans (by decide)))
            have ehs9 : (x4).toInt ≠ 1 := fun q => hs9 ((i_eq_iff _ _).mpr (q.trans (by decide)))
            have ehs12 : (x4).toInt ≠ 2 := fun q => hs12 ((i_eq_iff _ _).mpr (q.trans (by decide)))
            have ehs16 : (x4).toInt ≠ 3 := fun q => hs16 ((i_eq_iff _ _).mpr (q.trans (by decide)))
            refine dx_tableOut C 138 dX10_stayOf_28 (by omega) (by decide) ?_
            refine dx_iconst (v := (0 : Int32)) C dX10_stayOf_138 (by decide) ?_
            exact dx_iret1 C hr hlk dX10_stayOf_139 (fun h => h)
  · refine dx_iconst (v := (0 : Int32)) C dX10_stayOf_13 (by decide) ?_
    exact dx_iret1 C hr hlk dX10_stayOf_14 (fun h => h)
def f_X10_layTalk (a1 : Int32) (a2 : Int32) (w : Mem) : Option (Mem) :=
  (f_X10_layTalks a2 w).bind fun w1 => pw 134 30 (0 : Int32) w1 fun w2 => pw 134 31 (-1 : Int32) w2 fun w3 => pw 134 32 (0 : Int32) w3 fun w4 => (lp (S := (Int32 × Mem)) (T := Mem) (fun s22 => (if s22.1 < (256 : Int32) then (lp (S := (Int32 × Int32 × Int32)) (T := (Int32 × Int32)) (fun s38 => (if s38.2.2 < (s22.2 134 17) then rd 2048 (s22.2 148) (((8 : Int32) * s22.1) + s38.2.2) fun x5 => (f_X10_has s22.1 s38.2.2).bind fun r6 => ((if r6 = 0 then some ((0 : Int32)) else (f_X10_stayOf a1 s38.2.2 s22.2).bind fun r8 => some (r8)) : Option Int32).bind fun v7 => some (Sum.inl ((s38.1 ||| x5), (s38.2.1 + v7), (s38.2.2 + (1 : Int32)))) else some (Sum.inr (s38.1, s38.2.1)))) 5000000000 ((0 : Int32), (0 : Int32), (0 : Int32))).bind fun v9 => (f_X10_bits ((v9.1 &&& (-v9.1)) - (1 : Int32))).bind fun r10 => ((if (s22.2 134 30) < v9.2 then some ((1 : Int32)) else (if v9.2 = (s22.2 134 30) then (f_X10_bits s22.1).bind fun r17 => (if r17 < (s22.2 134 32) then some ((1 : Int32)) else (f_X10_bits s22.1).bind fun r18 => (if r18 = (s22.2 134 32) then (if r10 < (s22.2 134 31) then some ((1 : Int32)) else some ((0 : Int32))) else some ((0 : Int32)))) else some ((0 : Int32)))) : Option Int32).bind fun v11 => ((if v9.1 = 0 then some (s22.2) else (if 0 < v9.2 then (if v11 = 0 then some (s22.2) else pw 134 30 v9.2 s22.2 fun w13 => pw 134 31 r10 w13 fun w14 => (f_X10_bits s22.1).bind fun r15 => pw 134 32 r15 w14 fun w16 => some (w16)) else some (s22.2))) : Option Mem).bind fun v12 => some (Sum.inl ((s22.1 + (1 : Int32)), v12)) else some (Sum.inr s22.2))) 5000000000 ((1 : Int32), w4)).bind fun v19 => some (v19)
set_option maxRecDepth 20000 in
set_option maxHeartbeats 4000000 in
theorem tf_X10_layTalk {G : GT} {l : Launch} {z n : Nat} (a1 : Int32) (a2 : Int32) (w : Mem) (q : Mem) (hq : f_X10_layTalk a1 a2 w = some q) : Mt G l z yX10_layTalk cX10_layTalk 8 none { frames := 2, cells := 0, slots := 0, locals := 47 } [.ref (z + 134), .int a1, .int a2] (hp G z w) n none (hp G z q) n := by
  refine mt_of (by decide +kernel) (Nat.le_of_ble_eq_true rfl) ?_
  intro p e s m below meth c C hr hlk hnm
  refine (?_ : DX p l e _ s m _ below meth c G z 8 n _ (fun v => v = q) 0 [(0, .ref (z + 134)), (1, .int a1), (2, .int a2)] [] w (f_X10_layTalk a1 a2 w)) q hq rfl
  unfold f_X10_layTalk
  refine dx_aload_n C 0 dX10_layTalk_0 rfl rfl ?_
  refine dx_iload_n C 2 dX10_layTalk_1 rfl rfl ?_
  refine dx_callV3 C cl_X10_layTalks kmX10_261 (ci := 9) (b := 134) (As := [.int a2]) (rest := []) rfl (hp_of ly_134) (tf_X10_layTalks a2 w) rfl rfl (Nat.le_of_ble_eq_true rfl) ⟨Nat.le_of_ble_eq_true rfl, Nat.le_of_ble_eq_true rfl⟩ dX10_layTalk_2 (fun w1 => ?_)
  refine dx_aload_n C 0 dX10_layTalk_5 rfl rfl ?_
  refine dx_iconst (v := (0 : Int32)) C dX10_layTalk_6 (by decide) ?_
  refine dpX10_264 C dX10_layTalk_7 (fun w2 => ?_)
  refine dx_aload_n C 0 dX10_layTalk_10 rfl rfl ?_
  refine dx_iconst (v := (-1 : Int32)) C dX10_layTalk_11 (by decide) ?_
  refine dpX10_267 C dX10_layTalk_12 (fun w3 => ?_)
  refine dx_aload_n C 0 dX10_layTalk_15 rfl rfl ?_
  refine dx_iconst (v := (0 : Int32)) C dX10_layTalk_16 (by decide) ?_
  refine dpX10_270 C dX10_layTalk_17 (fun w4 => ?_)
  refine dx_iconst (v := (1 : Int32)) C dX10_layTalk_20 (by decide) ?_
  refine dx_istore_n C [(3, .int (1 : Int32)), (0, .ref (z + 134)), (1, .int a1), (2, .int a2)] dX10_layTalk_21 rfl (by decide) rfl ?_
  refine dx_mv (lo2 := [(0, .ref (z + 134)), (1, .int a1), (3, .int (1 : Int32))]) [1, 2, 0] rfl ?_
  refine dx_bind 205 (fun v19 => []) (fun v19 => []) (fun v19 => v19) (fun v19 => (?_ : DX p l e _ s m _ below meth c G z 8 n _ _ 205 [] [] v19 _)) ?_
  · exact dx_vret C hr hlk dX10_layTalk_205 (fun h => h)
  · refine dx_lp (fun s22 => [(0, .ref (z + 134)), (1, .int a1), (3, .int s22.1)]) [] (fun s22 => s22.2) (fun s22 => (?_ : DX p l e _ s m _ below meth c G z 8 n _ _ 22 [(0, .ref (z + 134)), (1, .int a1), (3, .int s22.1)] [] s22.2 _)) 5000000000 ((1 : Int32), w4)
    refine dx_iload_n C 2 dX10_layTalk_22 rfl rfl ?_
    refine dx_sipush (v := (256 : Int32)) C dX10_layTalk_23 (by decide) ?_
    refine dx_icmp_ge C 205 dX10_layTalk_26 (by decide) ?_ ?_
    · refine dx_mv (lo2 := []) [] rfl ?_
      exact dx_end (fun h => h)
    · refine dx_iconst (v := (0 : Int32)) C dX10_layTalk_29 (by decide) ?_
      refine dx_istore C [(4, .int (0 : Int32)), (0, .ref (z + 134)), (1, .int a1), (3, .int s22.1)] dX10_layTalk_30 (by decide) rfl ?_
      refine dx_iconst (v := (0 : Int32)) C dX10_layTalk_32 (by decide) ?_
      refine dx_istore C [(5, .int (0 : Int32)), (4, .int (0 : Int32)), (0, .ref (z + 134)), (1, .int a1), (3, .int s22.1)] dX10_layTalk_33 (by decide) rfl ?_
      refine dx_iconst (v := (0 : Int32)) C dX10_layTalk_35 (by decide) ?_
      refine dx_istore C [(6, .int (0 : Int32)), (5, .int (0 : Int32)), (4, .int (0 : Int32)), (0, .ref (z + 134)), (1, .int a1), (3, .int s22.1)] dX10_layTalk_36 (by decide) rfl ?_
      refine dx_mv (lo2 := [(0, .ref (z + 134)), (1, .int a1), (3, .int s22.1), (4, .int (0 : Int32)), (5, .int (0 : Int32)), (6, .int (0 : Int32))]) [3, 4, 5, 2, 1, 0] rfl ?_
      refine dx_bind 95 (fun v9 => [(0, .ref (z + 134)), (1, .int a1), (3, .int s22.1), (4, .int v9.1), (5, .int v9.2)]) (fun v9 => []) (fun v9 => s22.2) (fun v9 => (?_ : DX p l e _ s m _ below meth c G z 8 n _ _ 95 [(0, .ref (z + 134)), (1, .int a1), (3, .int s22.1), (4, .int v9.1), (5, .int v9.2)] [] s22.2 _)) ?_
      · refine dx_iload C 3 dX10_layTalk_95 rfl ?_
        refine dx_iload C 3 dX10_layTalk_97 rfl ?_
        refine dx_ineg C dX10_layTalk_99 ?_
        refine dx_iand C dX10_layTalk_100 ?_
        refine dx_iconst (v := (1 : Int32)) C dX10_layTalk_101 (by decide) ?_
        refine dx_isub C dX10_layTalk_102 ?_
        refine dx_callS1 C cl_X10_bits kmX10_172 (As := [.int ((v9.1 &&& (-v9.1)) - (1 : Int32))]) (rest := []) (tf_X10_bits ((v9.1 &&& (-v9.1)) - (1 : Int32)) s22.2) rfl rfl (Nat.le_of_ble_eq_true rfl) ⟨Nat.le_of_ble_eq_true rfl, Nat.le_of_ble_eq_true rfl⟩ dX10_layTalk_103 (fun r10 => ?_)
        refine dx_istore C [(6, .int r10), (0, .ref (z + 134)), (1, .int a1), (3, .int s22.1), (4, .int v9.1), (5, .int v9.2)] dX10_layTalk_106 (by decide) rfl ?_
        refine dx_iload C 5 dX10_layTalk_108 rfl ?_
        refine dx_aload_n C 1 dX10_layTalk_110 rfl rfl ?_
        refine dgX10_264 C dX10_layTalk_111 ?_
        refine dx_bind 162 (fun v11 => [(0, .ref (z + 134)), (1, .int a1), (3, .int s22.1), (4, .int v9.1), (5, .int v9.2), (6, .int r10)]) (fun v11 => [.int v11]) (fun v11 => s22.2) (fun v11 => (?_ : DX p l e _ s m _ below meth c G z 8 n _ _ 162 [(0, .ref (z + 134)), (1, .int a1), (3, .int s22.1), (4, .int v9.1), (5, .int v9.2), (6, .int r10)] [.int v11] s22.2 _)) ?_
        · refine dx_istore C [(7, .int v11), (0, .ref (z + 134)), (1, .int a1), (3, .int s22.1), (4, .int v9.1), (5, .int v9.2), (6, .int r10)] dX10_layTalk_162 (by decide) rfl ?_
          refine dx_iload C 4 dX10_layTalk_164 rfl ?_
          refine dx_bind 199 (fun v12 => [(0, .ref (z + 134)), (1, .int a1), (3, .int s22.1)]) (fun v12 => []) (fun v12 => v12) (fun v12 => (?_ : DX p l e _ s m _ below meth c G z 8 n _ _ 199 [(0, .ref (z + 134)), (1, .int a1), (3, .int s22.1)] [] v12 _)) ?_
          · refine dx_iinc (v := (s22.1 + (1 : Int32))) C 2 [(3, .int (s22.1 + (1 : Int32))), (0, .ref (z + 134)), (1, .int a1)] dX10_layTalk_199 rfl rfl (by decide) rfl ?_
            refine dx_goto C 22 dX10_layTalk_202 (by decide) ?_
            refine dx_mv (lo2 := [(0, .ref (z + 134)), (1, .int a1), (3, .int (s22.1 + (1 : Int32)))]) [1, 2, 0] rfl ?_
            exact dx_end (fun h => h)
          · refine dx_if_eq C 199 dX10_layTalk_166 (by decide) ?_ ?_
            · refine dx_mv (lo2 := [(0, .ref (z + 134)), (1, .int a1), (3, .int s22.1)]) [1, 2, 3] rfl ?_
              exact dx_end (fun h => h)
            · refine dx_iload C 5 dX10_layTalk_169 rfl ?_
              refine dx_if_le C 199 dX10_layTalk_171 (by decide) ?_ ?_
              · refine dx_mv (lo2 := [(0, .ref (z + 134)), (1, .int a1), (3, .int s22.1)]) [1, 2, 3] rfl ?_
                exact dx_end (fun h => h)
              · refine dx_iload C 0 dX10_layTalk_174 rfl ?_
                refine dx_if_eq C 199 dX10_layTalk_176 (by decide) ?_ ?_
                · refine dx_mv (lo2 := [(0, .ref (z + 134)), (1, .int a1), (3, .int s22.1)]) [1, 2, 3] rfl ?_
                  exact dx_end (fun h => h)
                · refine dx_aload_n C 1 dX10_layTalk_179 rfl rfl ?_
                  refine dx_iload C 5 dX10_layTalk_180 rfl ?_
                  refine dpX10_264 C dX10_layTalk_182 (fun w13 => ?_)
                  refine dx_aload_n C 1 dX10_layTalk_185 rfl rfl ?_
                  refine dx_iload C 6 dX10_layTalk_186 rfl ?_
                  refine dpX10_267 C dX10_layTalk_188 (fun w14 => ?_)
                  refine dx_aload_n C 1 dX10_layTalk_191 rfl rfl ?_
                  refine dx_iload_n C 3 dX10_layTalk_192 rfl rfl ?_
                  refine dx_callS1 C cl_X10_bits kmX10_172 (As := [.int s22.1]) (rest := [.ref (z + 134)]) (tf_X10_bits s22.1 w14) rfl rfl (Nat.le_of_ble_eq_true rfl) ⟨Nat.le_of_ble_eq_true rfl, Nat.le_of_ble_eq_true rfl⟩ dX10_layTalk_193 (fun r15 => ?_)
                  refine dpX10_270 C dX10_layTalk_196 (fun w16 => ?_)
                  refine dx_mv (lo2 := [(0, .ref (z + 134)), (1, .int a1), (3, .int s22.1)]) [1, 2, 3] rfl ?_
                  exact dx_end (fun h => h)
        · refine dx_icmp_gt C 157 dX10_layTalk_114 (by decide) ?_ ?_
          · refine dx_iconst (v := (1 : Int32)) C dX10_layTalk_157 (by decide) ?_
            refine dx_goto C 162 dX10_layTalk_158 (by decide) ?_
            refine dx_mv (lo2 := [(0, .ref (z + 134)), (1, .int a1), (3, .int s22.1), (4, .int v9.1), (5, .int v9.2), (6, .int r10)]) [1, 2, 3, 4, 5, 0] rfl ?_
            exact dx_end (fun h => h)
          · refine dx_iload C 5 dX10_layTalk_117 rfl ?_
            refine dx_aload_n C 1 dX10_layTalk_119 rfl rfl ?_
            refine dgX10_264 C dX10_layTalk_120 ?_
            refine dx_icmp_ne C 161 dX10_layTalk_123 (by decide) ?_ ?_
            · refine dx_iconst (v := (0 : Int32)) C dX10_layTalk_161 (by decide) ?_
              refine dx_mv (lo2 := [(0, .ref (z + 134)), (1, .int a1), (3, .int s22.1), (4, .int v9.1), (5, .int v9.2), (6, .int r10)]) [1, 2, 3, 4, 5, 0] rfl ?_
              exact dx_end (fun h => h)
            · refine dx_iload_n C 3 dX10_layTalk_126 rfl rfl ?_
              refine dx_callS1 C cl_X10_bits kmX10_172 (As := [.int s22.1]) (rest := []) (tf_X10_bits s22.1 s22.2) rfl rfl (Nat.le_of_ble_eq_true rfl) ⟨Nat.le_of_ble_eq_true rfl, Nat.le_of_ble_eq_true rfl⟩ dX10_layTalk_127 (fun r17 => ?_)
              refine dx_aload_n C 1 dX10_layTalk_130 rfl rfl ?_
              refine dgX10_270 C dX10_layTalk_131 ?_
              refine dx_icmp_lt C 157 dX10_layTalk_134 (by decide) ?_ ?_
              · refine dx_iconst (v := (1 : Int32)) C dX10_layTalk_157 (by decide) ?_
                refine dx_goto C 162 dX10_layTalk_158 (by decide) ?_
                refine dx_mv (lo2 := [(0, .ref (z + 134)), (1, .int a1), (3, .int s22.1), (4, .int v9.1), (5, .int v9.2), (6, .int r10)]) [1, 2, 3, 4, 5, 0] rfl ?_
                exact dx_end (fun h => h)
              · refine dx_iload_n C 3 dX10_layTalk_137 rfl rfl ?_
                refine dx_callS1 C cl_X10_bits kmX10_172 (As := [.int s22.1]) (rest := []) (tf_X10_bits s22.1 s22.2) rfl rfl (Nat.le_of_ble_eq_true rfl) ⟨Nat.le_of_ble_eq_true rfl, Nat.le_of_ble_eq_true rfl⟩ dX10_layTalk_138 (fun r18 => ?_)
                refine dx_aload_n C 1 dX10_layTalk_141 rfl rfl ?_
                refine dgX10_270 C dX10_layTalk_142 ?_
                refine dx_icmp_ne C 161 dX10_layTalk_145 (by decide) ?_ ?_
                · refine dx_iconst (v := (0 : Int32)) C dX10_layTalk_161 (by decide) ?_
                  refine dx_mv (lo2 := [(0, .ref (z + 134)), (1, .int a1), (3, .int s22.1), (4, .int v9.1), (5, .int v9.2), (6, .int r10)]) [1, 2, 3, 4, 5, 0] rfl ?_
                  exact dx_end (fun h => h)
                · refine dx_iload C 0 dX10_layTalk_148 rfl ?_
                  refine dx_aload_n C 1 dX10_layTalk_150 rfl rfl ?_
                  refine dgX10_267 C dX10_layTalk_151 ?_
                  refine dx_icmp_ge C 161 dX10_layTalk_154 (by decide) ?_ ?_
                  · refine dx_iconst (v := (0 : Int32)) C dX10_layTalk_161 (by decide) ?_
                    refine dx_mv (lo2 := [(0, .ref (z + 134)), (1, .int a1), (3, .int s22.1), (4, .int v9.1), (5, .int v9.2), (6, .int r10)]) [1, 2, 3, 4, 5, 0] rfl ?_
                    exact dx_end (fun h => h)
                  · refine dx_iconst (v := (1 : Int32)) C dX10_layTalk_157 (by decide) ?_
                    refine dx_goto C 162 dX10_layTalk_158 (by decide) ?_
                    refine dx_mv (lo2 := [(0, .ref (z + 134)), (1, .int a1), (3, .int s22.1), (4, .int v9.1), (5, .int v9.2), (6, .int r10)]) [1, 2, 3, 4, 5, 0] rfl ?_
                    exact dx_end (fun h => h)
      · refine dx_lp (fun s38 => [(0, .ref (z + 134)), (1, .int a1), (3, .int s22.1), (4, .int s38.1), (5, .int s38.2.1), (6, .int s38.2.2)]) [] (fun s38 => s22.2) (fun s38 => (?_ : DX p l e _ s m _ below meth c G z 8 n _ _ 38 [(0, .ref (z + 134)), (1, .int a1), (3, .int s22.1), (4, .int s38.1), (5, .int s38.2.1), (6, .int s38.2.2)] [] s22.2 _)) 5000000000 ((0 : Int32), (0 : Int32), (0 : Int32))
        refine dx_iload C 5 dX10_layTalk_38 rfl ?_
        refine dx_aload_n C 0 dX10_layTalk_40 rfl rfl ?_
        refine dgX10_153 C dX10_layTalk_41 ?_
        refine dx_icmp_ge C 95 dX10_layTalk_44 (by decide) ?_ ?_
        · refine dx_mv (lo2 := [(0, .ref (z + 134)), (1, .int a1), (3, .int s22.1), (4, .int s38.1), (5, .int s38.2.1)]) [0, 1, 2, 3, 4] rfl ?_
          exact dx_end (fun h => h)
        · refine dx_iload C 3 dX10_layTalk_47 rfl ?_
          refine dx_aload_n C 0 dX10_layTalk_49 rfl rfl ?_
          refine dgX10_53 C dX10_layTalk_50 ?_
          refine dx_bipush (v := (8 : Int32)) C dX10_layTalk_53 (by decide) ?_
          refine dx_iload_n C 2 dX10_layTalk_55 rfl rfl ?_
          refine dx_imul C dX10_layTalk_56 ?_
          refine dx_iload C 5 dX10_layTalk_57 rfl ?_
          refine dx_iadd C dX10_layTalk_59 ?_
          refine dx_rd C ly_148 dX10_layTalk_60 (fun x5 => ?_)
          refine dx_ior C dX10_layTalk_61 ?_
          refine dx_istore C [(4, .int (s38.1 ||| x5)), (0, .ref (z + 134)), (1, .int a1), (3, .int s22.1), (5, .int s38.2.1), (6, .int s38.2.2)] dX10_layTalk_62 (by decide) rfl ?_
          refine dx_iload C 4 dX10_layTalk_64 rfl ?_
          refine dx_iload_n C 3 dX10_layTalk_66 rfl rfl ?_
          refine dx_iload C 5 dX10_layTalk_67 rfl ?_
          refine dx_callS1 C cl_X10_has kmX10_168 (As := [.int s22.1, .int s38.2.2]) (rest := [.int s38.2.1]) (tf_X10_has s22.1 s38.2.2 s22.2) rfl rfl (Nat.le_of_ble_eq_true rfl) ⟨Nat.le_of_ble_eq_true rfl, Nat.le_of_ble_eq_true rfl⟩ dX10_layTalk_69 (fun r6 => ?_)
          refine dx_bind 86 (fun v7 => [(0, .ref (z + 134)), (1, .int a1), (3, .int s22.1), (4, .int (s38.1 ||| x5)), (6, .int s38.2.2)]) (fun v7 => [.int v7, .int s38.2.1]) (fun v7 => s22.2) (fun v7 => (?_ : DX p l e _ s m _ below meth c G z 8 n _ _ 86 [(0, .ref (z + 134)), (1, .int a1), (3, .int s22.1), (4, .int (s38.1 ||| x5)), (6, .int s38.2.2)] [.int v7, .int s38.2.1] s22.2 _)) ?_
          · refine dx_iadd C dX10_layTalk_86 ?_
            refine dx_istore C [(5, .int (s38.2.1 + v7)), (0, .ref (z + 134)), (1, .int a1), (3, .int s22.1), (4, .int (s38.1 ||| x5)), (6, .int s38.2.2)] dX10_layTalk_87 (by decide) rfl ?_
            refine dx_iinc (v := (s38.2.2 + (1 : Int32))) C 5 [(6, .int (s38.2.2 + (1 : Int32))), (5, .int (s38.2.1 + v7)), (0, .ref (z + 134)), (1, .int a1), (3, .int s22.1), (4, .int (s38.1 ||| x5))] dX10_layTalk_89 rfl rfl (by decide) rfl ?_
            refine dx_goto C 38 dX10_layTalk_92 (by decide) ?_
            refine dx_mv (lo2 := [(0, .ref (z + 134)), (1, .int a1), (3, .int s22.1), (4, .int (s38.1 ||| x5)), (5, .int (s38.2.1 + v7)), (6, .int (s38.2.2 + (1 : Int32)))]) [2, 3, 4, 5, 1, 0] rfl ?_
            exact dx_end (fun h => h)
          · refine dx_if_eq C 85 dX10_layTalk_72 (by decide) ?_ ?_
            · refine dx_iconst (v := (0 : Int32)) C dX10_layTalk_85 (by decide) ?_
              refine dx_mv (lo2 := [(0, .ref (z + 134)), (1, .int a1), (3, .int s22.1), (4, .int (s38.1 ||| x5)), (6, .int s38.2.2)]) [1, 2, 3, 0, 5] rfl ?_
              exact dx_end (fun h => h)
            · refine dx_aload_n C 1 dX10_layTalk_75 rfl rfl ?_
              refine dx_iload_n C 2 dX10_layTalk_76 rfl rfl ?_
              refine dx_iload C 5 dX10_layTalk_77 rfl ?_
              refine dx_callV1 C cl_X10_stayOf kmX10_200 (ci := 9) (b := 134) (As := [.int a1, .int s38.2.2]) (rest := [.int s38.2.1]) rfl (hp_of ly_134) (tf_X10_stayOf a1 s38.2.2 s22.2) rfl rfl (Nat.le_of_ble_eq_true rfl) ⟨Nat.le_of_ble_eq_true rfl, Nat.le_of_ble_eq_true rfl⟩ dX10_layTalk_79 (fun r8 => ?_)
              refine dx_goto C 86 dX10_layTalk_82 (by decide) ?_
              refine dx_mv (lo2 := [(0, .ref (z + 134)), (1, .int a1), (3, .int s22.1), (4, .int (s38.1 ||| x5)), (6, .int s38.2.2)]) [1, 2, 3, 0, 5] rfl ?_
              exact dx_end (fun h => h)
def f_X10_payFor (a1 : Int32) (w : Mem) : Option (Int32) :=
  nz ((w 134 15)) (some (((a1 / (w 134 15)) * (w 134 16))))
set_option maxRecDepth 20000 in
set_option maxHeartbeats 4000000 in
theorem tf_X10_payFor {G : GT} {l : Launch} {z n : Nat} (a1 : Int32) (w : Mem) (q : Int32) (hq : f_X10_payFor a1 w = some q) : Mt G l z yX10_payFor cX10_payFor 2 (some .int) { frames := 0, cells := 0, slots := 0, locals := 0 } [.ref (z + 134), .int a1] (hp G z w) n (some (.int q)) (hp G z w) n := by
  refine mt_of (by decide +kernel) (Nat.le_of_ble_eq_true rfl) ?_
  intro p e s m below meth c C hr hlk hnm
  refine (?_ : DX p l e _ s m _ below meth c G z 2 n _ (fun v => v = q) 0 [(0, .ref (z + 134)), (1, .int a1)] [] w (f_X10_payFor a1 w)) q hq rfl
  unfold f_X10_payFor
  refine dx_iload_n C 1 dX10_payFor_0 rfl rfl ?_
  refine dx_aload_n C 0 dX10_payFor_1 rfl rfl ?_
  refine dgX10_147 C dX10_payFor_2 ?_
  refine dx_nz (fun hn1 => ?_)
  refine dx_idiv C dX10_payFor_5 hn1 ?_
  refine dx_aload_n C 0 dX10_payFor_6 rfl rfl ?_
  refine dgX10_150 C dX10_payFor_7 ?_
  refine dx_imul C dX10_payFor_10 ?_
  exact dx_iret1 C hr hlk dX10_payFor_11 (fun h => h)
def f_X10_worthOfAll (a1 : Int32) (w : Mem) : Option (Int32 × Mem) :=
  (lp (S := (Int32 × Int32 × Mem)) (T := (Int32 × Mem)) (fun s4 => (if s4.2.1 < (s4.2.2 134 18) then (f_X10_layTalk s4.2.1 a1 s4.2.2).bind fun w1 => (f_X10_payFor (w1 134 30) w1).bind fun r2 => some (Sum.inl ((s4.1 + r2), (s4.2.1 + (1 : Int32)), w1)) else some (Sum.inr (s4.1, s4.2.2)))) 5000000000 ((0 : Int32), (0 : Int32), w)).bind fun v3 => some ((v3.1, v3.2))
set_option maxRecDepth 20000 in
set_option maxHeartbeats 4000000 in
theorem tf_X10_worthOfAll {G : GT} {l : Launch} {z n : Nat} (a1 : Int32) (w : Mem) (q : Int32 × Mem) (hq : f_X10_worthOfAll a1 w = some q) : Mt G l z yX10_worthOfAll cX10_worthOfAll 4 (some .int) { frames := 3, cells := 0, slots := 0, locals := 74 } [.ref (z + 134), .int a1] (hp G z w) n (some (.int q.1)) (hp G z q.2) n := by
  refine mt_of (by decide +kernel) (Nat.le_of_ble_eq_true rfl) ?_
  intro p e s m below meth c C hr hlk hnm
  refine (?_ : DX p l e _ s m _ below meth c G z 4 n _ (fun v => v = q) 0 [(0, .ref (z + 134)), (1, .int a1)] [] w (f_X10_worthOfAll a1 w)) q hq rfl
  unfold f_X10_worthOfAll
  refine dx_iconst (v := (0 : Int32)) C dX10_worthOfAll_0 (by decide) ?_
  refine dx_istore_n C [(2, .int (0 : Int32)), (0, .ref (z + 134)), (1, .int a1)] dX10_worthOfAll_1 rfl (by decide) rfl ?_
  refine dx_iconst (v := (0 : Int32)) C dX10_worthOfAll_2 (by decide) ?_
  refine dx_istore_n C [(3, .int (0 : Int32)), (2, .int (0 : Int32)), (0, .ref (z + 134)), (1, .int a1)] dX10_worthOfAll_3 rfl (by decide) rfl ?_
  refine dx_mv (lo2 := [(0, .ref (z + 134)), (1, .int a1), (2, .int (0 : Int32)), (3, .int (0 : Int32))]) [2, 3, 1, 0] rfl ?_
  refine dx_bind 35 (fun v3 => [(2, .int v3.1)]) (fun v3 => []) (fun v3 => v3.2) (fun v3 => (?_ : DX p l e _ s m _ below meth c G z 4 n _ _ 35 [(2, .int v3.1)] [] v3.2 _)) ?_
  · refine dx_iload_n C 0 dX10_worthOfAll_35 rfl rfl ?_
    exact dx_iret2 C hr hlk dX10_worthOfAll_36 (fun h => h)
  · refine dx_lp (fun s4 => [(0, .ref (z + 134)), (1, .int a1), (2, .int s4.1), (3, .int s4.2.1)]) [] (fun s4 => s4.2.2) (fun s4 => (?_ : DX p l e _ s m _ below meth c G z 4 n _ _ 4 [(0, .ref (z + 134)), (1, .int a1), (2, .int s4.1), (3, .int s4.2.1)] [] s4.2.2 _)) 5000000000 ((0 : Int32), (0 : Int32), w)
    refine dx_iload_n C 3 dX10_worthOfAll_4 rfl rfl ?_
    refine dx_aload_n C 0 dX10_worthOfAll_5 rfl rfl ?_
    refine dgX10_156 C dX10_worthOfAll_6 ?_
    refine dx_icmp_ge C 35 dX10_worthOfAll_9 (by decide) ?_ ?_
    · refine dx_mv (lo2 := [(2, .int s4.1)]) [2] rfl ?_
      exact dx_end (fun h => h)
    · refine dx_aload_n C 0 dX10_worthOfAll_12 rfl rfl ?_
      refine dx_iload_n C 3 dX10_worthOfAll_13 rfl rfl ?_
      refine dx_iload_n C 1 dX10_worthOfAll_14 rfl rfl ?_
      refine dx_callV3 C cl_X10_layTalk kmX10_273 (ci := 9) (b := 134) (As := [.int s4.2.1, .int a1]) (rest := []) rfl (hp_of ly_134) (tf_X10_layTalk s4.2.1 a1 s4.2.2) rfl rfl (Nat.le_of_ble_eq_true rfl) ⟨Nat.le_of_ble_eq_true rfl, Nat.le_of_ble_eq_true rfl⟩ dX10_worthOfAll_15 (fun w1 => ?_)
      refine dx_iload_n C 2 dX10_worthOfAll_18 rfl rfl ?_
      refine dx_aload_n C 0 dX10_worthOfAll_19 rfl rfl ?_
      refine dx_aload_n C 0 dX10_worthOfAll_20 rfl rfl ?_
      refine dgX10_264 C dX10_worthOfAll_21 ?_
      refine dx_callV1 C cl_X10_payFor kmX10_223 (ci := 9) (b := 134) (As := [.int (w1 134 30)]) (rest := [.int s4.1]) rfl (hp_of ly_134) (tf_X10_payFor (w1 134 30) w1) rfl rfl (Nat.le_of_ble_eq_true rfl) ⟨Nat.le_of_ble_eq_true rfl, Nat.le_of_ble_eq_true rfl⟩ dX10_worthOfAll_24 (fun r2 => ?_)
      refine dx_iadd C dX10_worthOfAll_27 ?_
      refine dx_istore_n C [(2, .int (s4.1 + r2)), (0, .ref (z + 134)), (1, .int a1), (3, .int s4.2.1)] dX10_worthOfAll_28 rfl (by decide) rfl ?_
      refine dx_iinc (v := (s4.2.1 + (1 : Int32))) C 3 [(3, .int (s4.2.1 + (1 : Int32))), (2, .int (s4.1 + r2)), (0, .ref (z + 134)), (1, .int a1)] dX10_worthOfAll_29 rfl rfl (by decide) rfl ?_
      refine dx_goto C 4 dX10_worthOfAll_32 (by decide) ?_
      refine dx_mv (lo2 := [(0, .ref (z + 134)), (1, .int a1), (2, .int (s4.1 + r2)), (3, .int (s4.2.1 + (1 : Int32)))]) [2, 3, 1, 0] rfl ?_
      exact dx_end (fun h => h)
def f_X10_bestToLearn (w : Mem) : Option (Int32 × Mem) :=
  (lp (S := (Int32 × Int32 × Int32 × Mem)) (T := (Int32 × Mem)) (fun s6 => (if s6.2.2.1 < (s6.2.2.2 134 17) then rd 25 (s6.2.2.2 146) (3 : Int32) fun x1 => (f_X10_has x1 s6.2.2.1).bind fun r2 => ((if r2 = 0 then rd 25 (s6.2.2.2 146) (3 : Int32) fun x6 => (f_X10_worthOfAll (x6 ||| ((1 : Int32) <<< (s6.2.2.1 &&& 31))) s6.2.2.2).bind fun q7 => some ((q7.1, q7.2)) else some (((-1 : Int32), s6.2.2.2))) : Option (Int32 × Mem)).bind fun v3 => ((if s6.2.1 < v3.1 then some (s6.2.2.1) else some (s6.1)) : Option Int32).bind fun v4 => ((if s6.2.1 < v3.1 then some (v3.1) else some (s6.2.1)) : Option Int32).bind fun v5 => some (Sum.inl (v4, v5, (s6.2.2.1 + (1 : Int32)), v3.2)) else some (Sum.inr (s6.1, s6.2.2.2)))) 5000000000 ((-1 : Int32), (-1 : Int32), (0 : Int32), w)).bind fun v8 => some ((v8.1, v8.2))
set_option maxRecDepth 20000 in
set_option maxHeartbeats 4000000 in
theorem tf_X10_bestToLearn {G : GT} {l : Launch} {z n : Nat} (w : Mem) (q : Int32 × Mem) (hq : f_X10_bestToLearn w = some q) : Mt G l z yX10_bestToLearn cX10_bestToLearn 5 (some .int) { frames := 4, cells := 0, slots := 0, locals := 97 } [.ref (z + 134)] (hp G z w) n (some (.int q.1)) (hp G z q.2) n := by
  refine mt_of (by decide +kernel) (Nat.le_of_ble_eq_true rfl) ?_
  intro p e s m below meth c C hr hlk hnm
  refine (?_ : DX p l e _ s m _ below meth c G z 5 n _ (fun v => v = q) 0 [(0, .ref (z + 134))] [] w (f_X10_bestToLearn w)) q hq rfl
  unfold f_X10_bestToLearn
  refine dx_iconst (v := (-1 : Int32)) C dX10_bestToLearn_0 (by decide) ?_
  refine dx_istore_n C [(1, .int (-1 : Int32)), (0, .ref (z + 134))] dX10_bestToLearn_1 rfl (by decide) rfl ?_
  refine dx_iconst (v := (-1 : Int32)) C dX10_bestToLearn_2 (by decide) ?_
  refine dx_istore_n C [(2, .int (-1 : Int32)), (1, .int (-1 : Int32)), (0, .ref (z + 134))] dX10_bestToLearn_3 rfl (by decide) rfl ?_
  refine dx_iconst (v := (0 : Int32)) C dX10_bestToLearn_4 (by decide) ?_
  refine dx_istore_n C [(3, .int (0 : Int32)), (2, .int (-1 : Int32)), (1, .int (-1 : Int32)), (0, .ref (z + 134))] dX10_bestToLearn_5 rfl (by decide) rfl ?_
  refine dx_mv (lo2 := [(0, .ref (z + 134)), (1, .int (-1 : Int32)), (2, .int (-1 : Int32)), (3, .int (0 : Int32))]) [3, 2, 1, 0] rfl ?_
  refine dx_bind 78 (fun v8 => [(1, .int v8.1)]) (fun v8 => []) (fun v8 => v8.2) (fun v8 => (?_ : DX p l e _ s m _ below meth c G z 5 n _ _ 78 [(1, .int v8.1)] [] v8.2 _)) ?_
  · refine dx_iload_n C 0 dX10_bestToLearn_78 rfl rfl ?_
    exact dx_iret2 C hr hlk dX10_bestToLearn_79 (fun h => h)
  · refine dx_lp (fun s6 => [(0, .ref (z + 134)), (1, .int s6.1), (2, .int s6.2.1), (3, .int s6.2.2.1)]) [] (fun s6 => s6.2.2.2) (fun s6 => (?_ : DX p l e _ s m _ below meth c G z 5 n _ _ 6 [(0, .ref (z + 134)), (1, .int s6.1), (2, .int s6.2.1), (3, .int s6.2.2.1)] [] s6.2.2.2 _)) 5000000000 ((-1 : Int32), (-1 : Int32), (0 : Int32), w)
    refine dx_iload_n C 3 dX10_bestToLearn_6 rfl rfl ?_
    refine dx_aload_n C 0 dX10_bestToLearn_7 rfl rfl ?_
    refine dgX10_153 C dX10_bestToLearn_8 ?_
    refine dx_icmp_ge C 78 dX10_bestToLearn_11 (by decide) ?_ ?_
    · refine dx_mv (lo2 := [(1, .int s6.1)]) [1] rfl ?_
      exact dx_end (fun h => h)
    · refine dx_aload_n C 0 dX10_bestToLearn_14 rfl rfl ?_
      refine dgX10_47 C dX10_bestToLearn_15 ?_
      refine dx_iconst (v := (3 : Int32)) C dX10_bestToLearn_18 (by decide) ?_
      refine dx_rd C ly_146 dX10_bestToLearn_19 (fun x1 => ?_)
      refine dx_iload_n C 3 dX10_bestToLearn_20 rfl rfl ?_
      refine dx_callS1 C cl_X10_has kmX10_168 (As := [.int x1, .int s6.2.2.1]) (rest := []) (tf_X10_has x1 s6.2.2.1 s6.2.2.2) rfl rfl (Nat.le_of_ble_eq_true rfl) ⟨Nat.le_of_ble_eq_true rfl, Nat.le_of_ble_eq_true rfl⟩ dX10_bestToLearn_21 (fun r2 => ?_)
      refine dx_bind 45 (fun v3 => [(0, .ref (z + 134)), (1, .int s6.1), (2, .int s6.2.1), (3, .int s6.2.2.1)]) (fun v3 => [.int v3.1]) (fun v3 => v3.2) (fun v3 => (?_ : DX p l e _ s m _ below meth c G z 5 n _ _ 45 [(0, .ref (z + 134)), (1, .int s6.1), (2, .int s6.2.1), (3, .int s6.2.2.1)] [.int v3.1] v3.2 _)) ?_
      · refine dx_istore C [(4, .int v3.1), (0, .ref (z + 134)), (1, .int s6.1), (2, .int s6.2.1), (3, .int s6.2.2.1)] dX10_bestToLearn_45 (by decide) rfl ?_
        refine dx_iload C 0 dX10_bestToLearn_47 rfl ?_
        refine dx_iload_n C 3 dX10_bestToLearn_49 rfl rfl ?_
        refine dx_bind 58 (fun v4 => [(0, .ref (z + 134)), (2, .int s6.2.1), (3, .int s6.2.2.1), (4, .int v3.1)]) (fun v4 => [.int v4]) (fun v4 => v3.2) (fun v4 => (?_ : DX p l e _ s m _ below meth c G z 5 n _ _ 58 [(0, .ref (z + 134)), (2, .int s6.2.1), (3, .int s6.2.2.1), (4, .int v3.1)] [.int v4] v3.2 _)) ?_
        · refine dx_istore_n C [(1, .int v4), (0, .ref (z + 134)), (2, .int s6.2.1), (3, .int s6.2.2.1), (4, .int v3.1)] dX10_bestToLearn_58 rfl (by decide) rfl ?_
          refine dx_iload C 4 dX10_bestToLearn_59 rfl ?_
          refine dx_iload_n C 2 dX10_bestToLearn_61 rfl rfl ?_
          refine dx_bind 71 (fun v5 => [(0, .ref (z + 134)), (1, .int v4), (3, .int s6.2.2.1)]) (fun v5 => [.int v5]) (fun v5 => v3.2) (fun v5 => (?_ : DX p l e _ s m _ below meth c G z 5 n _ _ 71 [(0, .ref (z + 134)), (1, .int v4), (3, .int s6.2.2.1)] [.int v5] v3.2 _)) ?_
          · refine dx_istore_n C [(2, .int v5), (0, .ref (z + 134)), (1, .int v4), (3, .int s6.2.2.1)] dX10_bestToLearn_71 rfl (by decide) rfl ?_
            refine dx_iinc (v := (s6.2.2.1 + (1 : Int32))) C 3 [(3, .int (s6.2.2.1 + (1 : Int32))), (2, .int v5), (0, .ref (z + 134)), (1, .int v4)] dX10_bestToLearn_72 rfl rfl (by decide) rfl ?_
            refine dx_goto C 6 dX10_bestToLearn_75 (by decide) ?_
            refine dx_mv (lo2 := [(0, .ref (z + 134)), (1, .int v4), (2, .int v5), (3, .int (s6.2.2.1 + (1 : Int32)))]) [2, 3, 1, 0] rfl ?_
            exact dx_end (fun h => h)
          · refine dx_icmp_le C 70 dX10_bestToLearn_62 (by decide) ?_ ?_
            · refine dx_iload_n C 2 dX10_bestToLearn_70 rfl rfl ?_
              refine dx_mv (lo2 := [(0, .ref (z + 134)), (1, .int v4), (3, .int s6.2.2.1)]) [1, 0, 3] rfl ?_
              exact dx_end (fun h => h)
            · refine dx_iload C 4 dX10_bestToLearn_65 rfl ?_
              refine dx_goto C 71 dX10_bestToLearn_67 (by decide) ?_
              refine dx_mv (lo2 := [(0, .ref (z + 134)), (1, .int v4), (3, .int s6.2.2.1)]) [1, 0, 3] rfl ?_
              exact dx_end (fun h => h)
        · refine dx_icmp_le C 57 dX10_bestToLearn_50 (by decide) ?_ ?_
          · refine dx_iload_n C 2 dX10_bestToLearn_57 rfl rfl ?_
            refine dx_mv (lo2 := [(0, .ref (z + 134)), (2, .int s6.2.1), (3, .int s6.2.2.1), (4, .int v3.1)]) [1, 3, 4, 0] rfl ?_
            exact dx_end (fun h => h)
          · refine dx_iload_n C 4 dX10_bestToLearn_53 rfl rfl ?_
            refine dx_goto C 58 dX10_bestToLearn_54 (by decide) ?_
            refine dx_mv (lo2 := [(0, .ref (z + 134)), (2, .int s6.2.1), (3, .int s6.2.2.1), (4, .int v3.1)]) [1, 3, 4, 0] rfl ?_
            exact dx_end (fun h => h)
      · refine dx_if_eq C 31 dX10_bestToLearn_24 (by decide) ?_ ?_
        · refine dx_aload_n C 0 dX10_bestToLearn_31 rfl rfl ?_
          refine dx_aload_n C 0 dX10_bestToLearn_32 rfl rfl ?_
          refine dgX10_47 C dX10_bestToLearn_33 ?_
          refine dx_iconst (v := (3 : Int32)) C dX10_bestToLearn_36 (by decide) ?_
          refine dx_rd C ly_146 dX10_bestToLearn_37 (fun x6 => ?_)
          refine dx_iconst (v := (1 : Int32)) C dX10_bestToLearn_38 (by decide) ?_
          refine dx_iload_n C 3 dX10_bestToLearn_39 rfl rfl ?_
          refine dx_ishl C dX10_bestToLearn_40 ?_
          refine dx_ior C dX10_bestToLearn_41 ?_
          refine dx_callV2 C cl_X10_worthOfAll kmX10_277 (ci := 9) (b := 134) (As := [.int (x6 ||| ((1 : Int32) <<< (s6.2.2.1 &&& 31)))]) (rest := []) rfl (hp_of ly_134) (tf_X10_worthOfAll (x6 ||| ((1 : Int32) <<< (s6.2.2.1 &&& 31))) s6.2.2.2) rfl rfl (Nat.le_of_ble_eq_true rfl) ⟨Nat.le_of_ble_eq_true rfl, Nat.le_of_ble_eq_true rfl⟩ dX10_bestToLearn_42 (fun q7 => ?_)
          exact dx_end (fun h => h)
        · refine dx_iconst (v := (-1 : Int32)) C dX10_bestToLearn_27 (by decide) ?_
          refine dx_goto C 45 dX10_bestToLearn_28 (by decide) ?_
          exact dx_end (fun h => h)
