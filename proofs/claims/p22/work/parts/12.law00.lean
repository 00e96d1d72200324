set_option maxRecDepth 20000 in
theorem lc_feed {p : Program} {l : Launch} {e : Env} {s : State} {m : MethodId} {below : List Frame} {meth : Method} {c : Code} {G : GT} {z b L : Nat} {xs : Nat → Int32} {w : Mem} {i : Int32} (C : Cx p s m #[Value.ref b] c G RL cL_law 4 z) (hX : va_X b L xs s s.heap) (hbl : b < s.heap.size) (hbz : b < z) (hL : L ≤ 1536) (hi0 : 0 ≤ i.toInt) (hi : i.toInt + 3 ≤ L) (hS : Sim w) (kend : ∀ w2 : Mem, Sim w2 → Xw p l e room_1 s m #[Value.ref b] below meth c G z 4 (lw_Z below #[Value.ref b] s) 767 [(3, .int i), (2, .ref (z + 134)), (1, .ref (z + 0)), (0, .ref b)] [] (hp G z w2) 157 157 5325) : Xw p l e room_1 s m #[Value.ref b] below meth c G z 4 (lw_Z below #[Value.ref b] s) 156 [(3, .int i), (2, .ref (z + 134)), (1, .ref (z + 0)), (0, .ref b)] [] (hp G z w) 157 157 5325 := by
  have lva : (1 : Int32).toInt = 1 := by decide
  have xva : (i + (1 : Int32)).toInt = i.toInt + 1 := i_addk lva (by omega) (by omega)
  obtain ⟨va, eva⟩ : ∃ q : Int32, xs (i + (1 : Int32)).toNatClampNeg = q := ⟨_, rfl⟩
  obtain ⟨q1, hq1, q2, hq2, hS2, hEq⟩ := op_feed hS va
  refine x_aload_n C 2 dL_law_156 rfl rfl ?_
  refine x_aload_n C 3 dL_law_157 rfl rfl ?_
  refine x_iload_n C 0 dL_law_158 rfl rfl ?_
  refine x_iconst (v := (1 : Int32)) C dL_law_159 (by decide) ?_
  refine x_iadd C dL_law_160 ?_
  refine x_sld (v := va) C (i + (1 : Int32)).toNatClampNeg hX hbl hbz (i_in (by omega) (by omega)) rfl eva dL_law_161 ?_
  refine x_callV C cl_X9_feed kmL_13 (ci := 8) (b := 0) (As := [.int va]) (rest := []) rfl (hp_of ly_0) (tf_X9_feed va w q1 hq1) rfl rfl (Nat.le_of_ble_eq_true rfl) ⟨Nat.le_of_ble_eq_true rfl, Nat.le_of_ble_eq_true rfl⟩ ⟨Nat.le_of_ble_eq_true rfl, Nat.le_of_ble_eq_true rfl⟩ dL_law_162 ?_
  refine x_norm (st2 := [.int q1.1]) (kc2 := 157) (ks2 := 5325) rfl rfl rfl rfl rfl ?_
  refine x_pop C dL_law_165 rfl ?_
  refine x_aload_n C 1 dL_law_166 rfl rfl ?_
  refine x_aload_n C 3 dL_law_167 rfl rfl ?_
  refine x_iload_n C 0 dL_law_168 rfl rfl ?_
  refine x_iconst (v := (1 : Int32)) C dL_law_169 (by decide) ?_
  refine x_iadd C dL_law_170 ?_
  refine x_sld (v := va) C (i + (1 : Int32)).toNatClampNeg hX hbl hbz (i_in (by omega) (by omega)) rfl eva dL_law_171 ?_
  refine x_callV C cl_X10_feed kmL_17 (ci := 9) (b := 134) (As := [.int va]) (rest := []) rfl (hp_of ly_134) (tf_X10_feed va q1.2 q2 hq2) rfl rfl (Nat.le_of_ble_eq_true rfl) ⟨Nat.le_of_ble_eq_true rfl, Nat.le_of_ble_eq_true rfl⟩ ⟨Nat.le_of_ble_eq_true rfl, Nat.le_of_ble_eq_true rfl⟩ dL_law_172 ?_
  refine x_norm (st2 := [.int q2.1]) (kc2 := 157) (ks2 := 5325) rfl rfl rfl rfl rfl ?_
  refine x_pop C dL_law_175 rfl ?_
  refine x_goto C 767 dL_law_176 (by decide) ?_
  exact kend _ hS2
set_option maxRecDepth 20000 in
theorem lc_bridge {p : Program} {l : Launch} {e : Env} {s : State} {m : MethodId} {below : List Frame} {meth : Method} {c : Code} {G : GT} {z b L : Nat} {xs : Nat → Int32} {w : Mem} {i : Int32} (C : Cx p s m #[Value.ref b] c G RL cL_law 4 z) (hX : va_X b L xs s s.heap) (hbl : b < s.heap.size) (hbz : b < z) (hL : L ≤ 1536) (hi0 : 0 ≤ i.toInt) (hi : i.toInt + 3 ≤ L) (hS : Sim w) (kend : ∀ w2 : Mem, Sim w2 → Xw p l e room_1 s m #[Value.ref b] below meth c G z 4 (lw_Z below #[Value.ref b] s) 767 [(3, .int i), (2, .ref (z + 134)), (1, .ref (z + 0)), (0, .ref b)] [] (hp G z w2) 157 157 5325) : Xw p l e room_1 s m #[Value.ref b] below meth c G z 4 (lw_Z below #[Value.ref b] s) 179 [(3, .int i), (2, .ref (z + 134)), (1, .ref (z + 0)), (0, .ref b)] [] (hp G z w) 157 157 5325 := by
  obtain ⟨q1, hq1, q2, hq2, hS2, hEq⟩ := op_bridge hS
  refine x_aload_n C 2 dL_law_179 rfl rfl ?_
  refine x_callV C cl_X9_bridge kmL_18 (ci := 8) (b := 0) (As := []) (rest := []) rfl (hp_of ly_0) (tf_X9_bridge w q1 hq1) rfl rfl (Nat.le_of_ble_eq_true rfl) ⟨Nat.le_of_ble_eq_true rfl, Nat.le_of_ble_eq_true rfl⟩ ⟨Nat.le_of_ble_eq_true rfl, Nat.le_of_ble_eq_true rfl⟩ dL_law_180 ?_
  refine x_norm (st2 := [.int q1.1]) (kc2 := 157) (ks2 := 5325) rfl rfl rfl rfl rfl ?_
  refine x_pop C dL_law_183 rfl ?_
  refine x_aload_n C 1 dL_law_184 rfl rfl ?_
  refine x_callV C cl_X10_bridge kmL_22 (ci := 9) (b := 134) (As := []) (rest := []) rfl (hp_of ly_134) (tf_X10_bridge q1.2 q2 hq2) rfl rfl (Nat.le_of_ble_eq_true rfl) ⟨Nat.le_of_ble_eq_true rfl, Nat.le_of_ble_eq_true rfl⟩ ⟨Nat.le_of_ble_eq_true rfl, Nat.le_of_ble_eq_true rfl⟩ dL_law_185 ?_
  refine x_norm (st2 := [.int q2.1]) (kc2 := 157) (ks2 := 5325) rfl rfl rfl rfl rfl ?_
  refine x_pop C dL_law_188 rfl ?_
  refine x_goto C 767 dL_law_189 (by decide) ?_
  exact kend _ hS2
set_option maxRecDepth 20000 in
theorem lc_fault {p : Program} {l : Launch} {e : Env} {s : State} {m : MethodId} {below : List Frame} {meth : Method} {c : Code} {G : GT} {z b L : Nat} {xs : Nat → Int32} {w : Mem} {i : Int32} (C : Cx p s m #[Value.ref b] c G RL cL_law 4 z) (hX : va_X b L xs s s.heap) (hbl : b < s.heap.size) (hbz : b < z) (hL : L ≤ 1536) (hi0 : 0 ≤ i.toInt) (hi : i.toInt + 3 ≤ L) (hS : Sim w) (kend : ∀ w2 : Mem, Sim w2 → Xw p l e room_1 s m #[Value.ref b] below meth c G z 4 (lw_Z below #[Value.ref b] s) 767 [(3, .int i), (2, .ref (z + 134)), (1, .ref (z + 0)), (0, .ref b)] [] (hp G z w2) 157 157 5325) : Xw p l e room_1 s m #[Value.ref b] below meth c G z 4 (lw_Z below #[Value.ref b] s) 192 [(3, .int i), (2, .ref (z + 134)), (1, .ref (z + 0)), (0, .ref b)] [] (hp G z w) 157 157 5325 := by
  obtain ⟨q1, hq1, q2, hq2, hS2, hEq⟩ := op_fault hS
  refine x_aload_n C 2 dL_law_192 rfl rfl ?_
  refine x_callV C cl_X9_fault kmL_23 (ci := 8) (b := 0) (As := []) (rest := []) rfl (hp_of ly_0) (tf_X9_fault w q1 hq1) rfl rfl (Nat.le_of_ble_eq_true rfl) ⟨Nat.le_of_ble_eq_true rfl, Nat.le_of_ble_eq_true rfl⟩ ⟨Nat.le_of_ble_eq_true rfl, Nat.le_of_ble_eq_true rfl⟩ dL_law_193 ?_
  refine x_norm (st2 := [.int q1]) (kc2 := 157) (ks2 := 5325) rfl rfl rfl rfl rfl ?_
  refine x_pop C dL_law_196 rfl ?_
  refine x_aload_n C 1 dL_law_197 rfl rfl ?_
  refine x_callV C cl_X10_fault kmL_26 (ci := 9) (b := 134) (As := []) (rest := []) rfl (hp_of ly_134) (tf_X10_fault w q2 hq2) rfl rfl (Nat.le_of_ble_eq_true rfl) ⟨Nat.le_of_ble_eq_true rfl, Nat.le_of_ble_eq_true rfl⟩ ⟨Nat.le_of_ble_eq_true rfl, Nat.le_of_ble_eq_true rfl⟩ dL_law_198 ?_
  refine x_norm (st2 := [.int q2]) (kc2 := 157) (ks2 := 5325) rfl rfl rfl rfl rfl ?_
  refine x_pop C dL_law_201 rfl ?_
  refine x_goto C 767 dL_law_202 (by decide) ?_
  exact kend _ hS2
set_option maxRecDepth 20000 in
theorem lc_told {p : Program} {l : Launch} {e : Env} {s : State} {m : MethodId} {below : List Frame} {meth : Method} {c : Code} {G : GT} {z b L : Nat} {xs : Nat → Int32} {w : Mem} {i : Int32} (C : Cx p s m #[Value.ref b] c G RL cL_law 4 z) (hX : va_X b L xs s s.heap) (hbl : b < s.heap.size) (hbz : b < z) (hL : L ≤ 1536) (hi0 : 0 ≤ i.toInt) (hi : i.toInt + 3 ≤ L) (hS : Sim w) (kend : ∀ w2 : Mem, Sim w2 → Xw p l e room_1 s m #[Value.ref b] below meth c G z 4 (lw_Z below #[Value.ref b] s) 767 [(3, .int i), (2, .ref (z + 134)), (1, .ref (z + 0)), (0, .ref b)] [] (hp G z w2) 157 157 5325) : Xw p l e room_1 s m #[Value.ref b] below meth c G z 4 (lw_Z below #[Value.ref b] s) 205 [(3, .int i), (2, .ref (z + 134)), (1, .ref (z + 0)), (0, .ref b)] [] (hp G z w) 157 157 5325 := by
  have lva : (1 : Int32).toInt = 1 := by decide
  have xva : (i + (1 : Int32)).toInt = i.toInt + 1 := i_addk lva (by omega) (by omega)
  obtain ⟨va, eva⟩ : ∃ q : Int32, xs (i + (1 : Int32)).toNatClampNeg = q := ⟨_, rfl⟩
  obtain ⟨q1, hq1, q2, hq2, hS2, hEq⟩ := op_told hS va
  refine x_aload_n C 2 dL_law_205 rfl rfl ?_
  refine x_aload_n C 3 dL_law_206 rfl rfl ?_
  refine x_iload_n C 0 dL_law_207 rfl rfl ?_
  refine x_iconst (v := (1 : Int32)) C dL_law_208 (by decide) ?_
  refine x_iadd C dL_law_209 ?_
  refine x_sld (v := va) C (i + (1 : Int32)).toNatClampNeg hX hbl hbz (i_in (by omega) (by omega)) rfl eva dL_law_210 ?_
  refine x_callV C cl_X9_told kmL_27 (ci := 8) (b := 0) (As := [.int va]) (rest := []) rfl (hp_of ly_0) (tf_X9_told va w q1 hq1) rfl rfl (Nat.le_of_ble_eq_true rfl) ⟨Nat.le_of_ble_eq_true rfl, Nat.le_of_ble_eq_true rfl⟩ ⟨Nat.le_of_ble_eq_true rfl, Nat.le_of_ble_eq_true rfl⟩ dL_law_211 ?_
  refine x_norm (st2 := [.int q1.1]) (kc2 := 157) (ks2 := 5325) rfl rfl rfl rfl rfl ?_
  refine x_pop C dL_law_214 rfl ?_
  refine x_aload_n C 1 dL_law_215 rfl rfl ?_
  refine x_aload_n C 3 dL_law_216 rfl rfl ?_
  refine x_iload_n C 0 dL_law_217 rfl rfl ?_
  refine x_iconst (v := (1 : Int32)) C dL_law_218 (by decide) ?_
  refine x_iadd C dL_law_219 ?_
  refine x_sld (v := va) C (i + (1 : Int32)).toNatClampNeg hX hbl hbz (i_in (by omega) (by omega)) rfl eva dL_law_220 ?_
  refine x_callV C cl_X10_told kmL_30 (ci := 9) (b := 134) (As := [.int va]) (rest := []) rfl (hp_of ly_134) (tf_X10_told va q1.2 q2 hq2) rfl rfl (Nat.le_of_ble_eq_true rfl) ⟨Nat.le_of_ble_eq_true rfl, Nat.le_of_ble_eq_true rfl⟩ ⟨Nat.le_of_ble_eq_true rfl, Nat.le_of_ble_eq_true rfl⟩ dL_law_221 ?_
  refine x_norm (st2 := [.int q2.1]) (kc2 := 157) (ks2 := 5325) rfl rfl rfl rfl rfl ?_
  refine x_pop C dL_law_224 rfl ?_
  refine x_goto C 767 dL_law_225 (by decide) ?_
  exact kend _ hS2
set_option maxRecDepth 20000 in
theorem lc_matter {p : Program} {l : Launch} {e : Env} {s : State} {m : MethodId} {below : List Frame} {meth : Method} {c : Code} {G : GT} {z b L : Nat} {xs : Nat → Int32} {w : Mem} {i : Int32} (C : Cx p s m #[Value.ref b] c G RL cL_law 4 z) (hX : va_X b L xs s s.heap) (hbl : b < s.heap.size) (hbz : b < z) (hL : L ≤ 1536) (hi0 : 0 ≤ i.toInt) (hi : i.toInt + 3 ≤ L) (hS : Sim w) (kend : ∀ w2 : Mem, Sim w2 → Xw p l e room_1 s m #[Value.ref b] below meth c G z 4 (lw_Z below #[Value.ref b] s) 767 [(3, .int i), (2, .ref (z + 134)), (1, .ref (z + 0)), (0, .ref b)] [] (hp G z w2) 157 157 5325) : Xw p l e room_1 s m #[Value.ref b] below meth c G z 4 (lw_Z below #[Value.ref b] s) 228 [(3, .int i), (2, .ref (z + 134)), (1, .ref (z + 0)), (0, .ref b)] [] (hp G z w) 157 157 5325 := by
  have lva : (1 : Int32).toInt = 1 := by decide
  have xva : (i + (1 : Int32)).toInt = i.toInt + 1 := i_addk lva (by omega) (by omega)
  obtain ⟨va, eva⟩ : ∃ q : Int32, xs (i + (1 : Int32)).toNatClampNeg = q := ⟨_, rfl⟩
  have lvb : (2 : Int32).toInt = 2 := by decide
  have xvb : (i + (2 : Int32)).toInt = i.toInt + 2 := i_addk lvb (by omega) (by omega)
  obtain ⟨vb, evb⟩ : ∃ q : Int32, xs (i + (2 : Int32)).toNatClampNeg = q := ⟨_, rfl⟩
  obtain ⟨q1, hq1, q2, hq2, hS2, hEq⟩ := op_matter hS va vb
  refine x_aload_n C 2 dL_law_228 rfl rfl ?_
  refine x_aload_n C 3 dL_law_229 rfl rfl ?_
  refine x_iload_n C 0 dL_law_230 rfl rfl ?_
  refine x_iconst (v := (1 : Int32)) C dL_law_231 (by decide) ?_
  refine x_iadd C dL_law_232 ?_
  refine x_sld (v := va) C (i + (1 : Int32)).toNatClampNeg hX hbl hbz (i_in (by omega) (by omega)) rfl eva dL_law_233 ?_
  refine x_aload_n C 3 dL_law_234 rfl rfl ?_
  refine x_iload_n C 0 dL_law_235 rfl rfl ?_
  refine x_iconst (v := (2 : Int32)) C dL_law_236 (by decide) ?_
  refine x_iadd C dL_law_237 ?_
  refine x_sld (v := vb) C (i + (2 : Int32)).toNatClampNeg hX hbl hbz (i_in (by omega) (by omega)) rfl evb dL_law_238 ?_
  refine x_callV C cl_X9_matter kmL_31 (ci := 8) (b := 0) (As := [.int va, .int vb]) (rest := []) rfl (hp_of ly_0) (tf_X9_matter va vb w q1 hq1) rfl rfl (Nat.le_of_ble_eq_true rfl) ⟨Nat.le_of_ble_eq_true rfl, Nat.le_of_ble_eq_true rfl⟩ ⟨Nat.le_of_ble_eq_true rfl, Nat.le_of_ble_eq_true rfl⟩ dL_law_239 ?_
  refine x_norm (st2 := [.int q1]) (kc2 := 157) (ks2 := 5325) rfl rfl rfl rfl rfl ?_
  refine x_pop C dL_law_242 rfl ?_
  refine x_aload_n C 1 dL_law_243 rfl rfl ?_
  refine x_aload_n C 3 dL_law_244 rfl rfl ?_
  refine x_iload_n C 0 dL_law_245 rfl rfl ?_
  refine x_iconst (v := (1 : Int32)) C dL_law_246 (by decide) ?_
  refine x_iadd C dL_law_247 ?_
  refine x_sld (v := va) C (i + (1 : Int32)).toNatClampNeg hX hbl hbz (i_in (by omega) (by omega)) rfl eva dL_law_248 ?_
  refine x_aload_n C 3 dL_law_249 rfl rfl ?_
  refine x_iload_n C 0 dL_law_250 rfl rfl ?_
  refine x_iconst (v := (2 : Int32)) C dL_law_251 (by decide) ?_
  refine x_iadd C dL_law_252 ?_
  refine x_sld (v := vb) C (i + (2 : Int32)).toNatClampNeg hX hbl hbz (i_in (by omega) (by omega)) rfl evb dL_law_253 ?_
  refine x_callV C cl_X10_matter kmL_35 (ci := 9) (b := 134) (As := [.int va, .int vb]) (rest := []) rfl (hp_of ly_134) (tf_X10_matter va vb w q2 hq2) rfl rfl (Nat.le_of_ble_eq_true rfl) ⟨Nat.le_of_ble_eq_true rfl, Nat.le_of_ble_eq_true rfl⟩ ⟨Nat.le_of_ble_eq_true rfl, Nat.le_of_ble_eq_true rfl⟩ dL_law_254 ?_
  refine x_norm (st2 := [.int q2]) (kc2 := 157) (ks2 := 5325) rfl rfl rfl rfl rfl ?_
  refine x_pop C dL_law_257 rfl ?_
  refine x_goto C 767 dL_law_258 (by decide) ?_
  exact kend _ hS2
set_option maxRecDepth 20000 in
theorem lc_traveller {p : Program} {l : Launch} {e : Env} {s : State} {m : MethodId} {below : List Frame} {meth : Method} {c : Code} {G : GT} {z b L : Nat} {xs : Nat → Int32} {w : Mem} {i : Int32} (C : Cx p s m #[Value.ref b] c G RL cL_law 4 z) (hX : va_X b L xs s s.heap) (hbl : b < s.heap.size) (hbz : b < z) (hL : L ≤ 1536) (hi0 : 0 ≤ i.toInt) (hi : i.toInt + 3 ≤ L) (hS : Sim w) (kend : ∀ w2 : Mem, Sim w2 → Xw p l e room_1 s m #[Value.ref b] below meth c G z 4 (lw_Z below #[Value.ref b] s) 767 [(3, .int i), (2, .ref (z + 134)), (1, .ref (z + 0)), (0, .ref b)] [] (hp G z w2) 157 157 5325) : Xw p l e room_1 s m #[Value.ref b] below meth c G z 4 (lw_Z below #[Value.ref b] s) 261 [(3, .int i), (2, .ref (z + 134)), (1, .ref (z + 0)), (0, .ref b)] [] (hp G z w) 157 157 5325 := by
  have lva : (1 : Int32).toInt = 1 := by decide
  have xva : (i + (1 : Int32)).toInt = i.toInt + 1 := i_addk lva (by omega) (by omega)
  obtain ⟨va, eva⟩ : ∃ q : Int32, xs (i + (1 : Int32)).toNatClampNeg = q := ⟨_, rfl⟩
  have lvb : (2 : Int32).toInt = 2 := by decide
  have xvb : (i + (2 : Int32)).toInt = i.toInt + 2 := i_addk lvb (by omega) (by omega)
  obtain ⟨vb, evb⟩ : ∃ q : Int32, xs (i + (2 : Int32)).toNatClampNeg = q := ⟨_, rfl⟩
  obtain ⟨q1, hq1, q2, hq2, hS2, hEq⟩ := op_traveller hS va vb
  refine x_aload_n C 2 dL_law_261 rfl rfl ?_
  refine x_aload_n C 3 dL_law_262 rfl rfl ?_
  refine x_iload_n C 0 dL_law_263 rfl rfl ?_
  refine x_iconst (v := (1 : Int32)) C dL_law_264 (by decide) ?_
  refine x_iadd C dL_law_265 ?_
  refine x_sld (v := va) C (i + (1 : Int32)).toNatClampNeg hX hbl hbz (i_in (by omega) (by omega)) rfl eva dL_law_266 ?_
  refine x_aload_n C 3 dL_law_267 rfl rfl ?_
  refine x_iload_n C 0 dL_law_268 rfl rfl ?_
  refine x_iconst (v := (2 : Int32)) C dL_law_269 (by decide) ?_
  refine x_iadd C dL_law_270 ?_
  refine x_sld (v := vb) C (i + (2 : Int32)).toNatClampNeg hX hbl hbz (i_in (by omega) (by omega)) rfl evb dL_law_271 ?_
  refine x_callV C cl_X9_traveller kmL_36 (ci := 8) (b := 0) (As := [.int va, .int vb]) (rest := []) rfl (hp_of ly_0) (tf_X9_traveller va vb w q1 hq1) rfl rfl (Nat.le_of_ble_eq_true rfl) ⟨Nat.le_of_ble_eq_true rfl, Nat.le_of_ble_eq_true rfl⟩ ⟨Nat.le_of_ble_eq_true rfl, Nat.le_of_ble_eq_true rfl⟩ dL_law_272 ?_
  refine x_norm (st2 := [.int q1]) (kc2 := 157) (ks2 := 5325) rfl rfl rfl rfl rfl ?_
  refine x_pop C dL_law_275 rfl ?_
  refine x_aload_n C 1 dL_law_276 rfl rfl ?_
  refine x_aload_n C 3 dL_law_277 rfl rfl ?_
  refine x_iload_n C 0 dL_law_278 rfl rfl ?_
  refine x_iconst (v := (1 : Int32)) C dL_law_279 (by decide) ?_
  refine x_iadd C dL_law_280 ?_
  refine x_sld (v := va) C (i + (1 : Int32)).toNatClampNeg hX hbl hbz (i_in (by omega) (by omega)) rfl eva dL_law_281 ?_
  refine x_aload_n C 3 dL_law_282 rfl rfl ?_
  refine x_iload_n C 0 dL_law_283 rfl rfl ?_
  refine x_iconst (v := (2 : Int32)) C dL_law_284 (by decide) ?_
  refine x_iadd C dL_law_285 ?_
  refine x_sld (v := vb) C (i + (2 : Int32)).toNatClampNeg hX hbl hbz (i_in (by omega) (by omega)) rfl evb dL_law_286 ?_
  refine x_callV C cl_X10_traveller kmL_39 (ci := 9) (b := 134) (As := [.int va, .int vb]) (rest := []) rfl (hp_of ly_134) (tf_X10_traveller va vb w q2 hq2) rfl rfl (Nat.le_of_ble_eq_true rfl) ⟨Nat.le_of_ble_eq_true rfl, Nat.le_of_ble_eq_true rfl⟩ ⟨Nat.le_of_ble_eq_true rfl, Nat.le_of_ble_eq_true rfl⟩ dL_law_287 ?_
  refine x_norm (st2 := [.int q2]) (kc2 := 157) (ks2 := 5325) rfl rfl rfl rfl rfl ?_
  refine x_pop C dL_law_290 rfl ?_
  refine x_goto C 767 dL_law_291 (by decide) ?_
  exact kend _ hS2
set_option maxRecDepth 20000 in
theorem lc_seat {p : Program} {l : Launch} {e : Env} {s : State} {m : MethodId} {below : List Frame} {meth : Method} {c : Code} {G : GT} {z b L : Nat} {xs : Nat → Int32} {w : Mem} {i : Int32} (C : Cx p s m #[Value.ref b] c G RL cL_law 4 z) (hX : va_X b L xs s s.heap) (hbl : b < s.heap.size) (hbz : b < z) (hL : L ≤ 1536) (hi0 : 0 ≤ i.toInt) (hi : i.toInt + 3 ≤ L) (hS : Sim w) (kend : ∀ w2 : Mem, Sim w2 → Xw p l e room_1 s m #[Value.ref b] below meth c G z 4 (lw_Z below #[Value.ref b] s) 767 [(3, .int i), (2, .ref (z + 134)), (1, .ref (z + 0)), (0, .ref b)] [] (hp G z w2) 157 157 5325) : Xw p l e room_1 s m #[Value.ref b] below meth c G z 4 (lw_Z below #[Value.ref b] s) 294 [(3, .int i), (2, .ref (z + 134)), (1, .ref (z + 0)), (0, .ref b)] [] (hp G z w) 157 157 5325 := by
  have lva : (1 : Int32).toInt = 1 := by decide
  have xva : (i + (1 : Int32)).toInt = i.toInt + 1 := i_addk lva (by omega) (by omega)
  obtain ⟨va, eva⟩ : ∃ q : Int32, xs (i + (1 : Int32)).toNatClampNeg = q := ⟨_, rfl⟩
  obtain ⟨q1, hq1, q2, hq2, hS2, hEq⟩ := op_seat hS va
  refine x_aload_n C 2 dL_law_294 rfl rfl ?_
  refine x_aload_n C 3 dL_law_295 rfl rfl ?_
  refine x_iload_n C 0 dL_law_296 rfl rfl ?_
  refine x_iconst (v := (1 : Int32)) C dL_law_297 (by decide) ?_
  refine x_iadd C dL_law_298 ?_
  refine x_sld (v := va) C (i + (1 : Int32)).toNatClampNeg hX hbl hbz (i_in (by omega) (by omega)) rfl eva dL_law_299 ?_
  refine x_callV C cl_X9_seat kmL_40 (ci := 8) (b := 0) (As := [.int va]) (rest := []) rfl (hp_of ly_0) (tf_X9_seat va w q1 hq1) rfl rfl (Nat.le_of_ble_eq_true rfl) ⟨Nat.le_of_ble_eq_true rfl, Nat.le_of_ble_eq_true rfl⟩ ⟨Nat.le_of_ble_eq_true rfl, Nat.le_of_ble_eq_true rfl⟩ dL_law_300 ?_
  refine x_norm (st2 := [.int q1.1]) (kc2 := 157) (ks2 := 5325) rfl rfl rfl rfl rfl ?_
  refine x_pop C dL_law_303 rfl ?_
  refine x_aload_n C 1 dL_law_304 rfl rfl ?_
  refine x_aload_n C 3 dL_law_305 rfl rfl ?_
  refine x_iload_n C 0 dL_law_306 rfl rfl ?_
  refine x_iconst (v := (1 : Int32)) C dL_law_307 (by decide) ?_
  refine x_iadd C dL_law_308 ?_
  refine x_sld (v := va) C (i + (1 : Int32)).toNatClampNeg hX hbl hbz (i_in (by omega) (by omega)) rfl eva dL_law_309 ?_
  refine x_callV C cl_X10_seat kmL_43 (ci := 9) (b := 134) (As := [.int va]) (rest := []) rfl (hp_of ly_134) (tf_X10_seat va q1.2 q2 hq2) rfl rfl (Nat.le_of_ble_eq_true rfl) ⟨Nat.le_of_ble_eq_true rfl, Nat.le_of_ble_eq_true rfl⟩ ⟨Nat.le_of_ble_eq_true rfl, Nat.le_of_ble_eq_true rfl⟩ dL_law_310 ?_
  refine x_norm (st2 := [.int q2.1]) (kc2 := 157) (ks2 := 5325) rfl rfl rfl rfl rfl ?_
  refine x_pop C dL_law_313 rfl ?_
  refine x_goto C 767 dL_law_314 (by decide) ?_
  exact kend _ hS2
set_option maxRecDepth 20000 in
theorem lc_tell {p : Program} {l : Launch} {e : Env} {s : State} {m : MethodId} {below : List Frame} {meth : Method} {c : Code} {G : GT} {z b L : Nat} {xs : Nat → Int32} {w : Mem} {i : Int32} (C : Cx p s m #[Value.ref b] c G RL cL_law 4 z) (hX : va_X b L xs s s.heap) (hbl : b < s.heap.size) (hbz : b < z) (hL : L ≤ 1536) (hi0 : 0 ≤ i.toInt) (hi : i.toInt + 3 ≤ L) (hS : Sim w) (kend : ∀ w2 : Mem, Sim w2 → Xw p l e room_1 s m #[Value.ref b] below meth c G z 4 (lw_Z below #[Value.ref b] s) 767 [(3, .int i), (2, .ref (z + 134)), (1, .ref (z + 0)), (0, .ref b)] [] (hp G z w2) 157 157 5325) : Xw p l e room_1 s m #[Value.ref b] below meth c G z 4 (lw_Z below #[Value.ref b] s) 317 [(3, .int i), (2, .ref (z + 134)), (1, .ref (z + 0)), (0, .ref b)] [] (hp G z w) 157 157 5325 := by
  have lva : (1 : Int32).toInt = 1 := by decide
  have xva : (i + (1 : Int32)).toInt = i.toInt + 1 := i_addk lva (by omega) (by omega)
  obtain ⟨va, eva⟩ : ∃ q : Int32, xs (i + (1 : Int32)).toNatClampNeg = q := ⟨_, rfl⟩
  obtain ⟨q1, hq1, q2, hq2, hS2, hEq⟩ := op_tell hS va
  refine x_aload_n C 2 dL_law_317 rfl rfl ?_
  refine x_aload_n C 3 dL_law_318 rfl rfl ?_
  refine x_iload_n C 0 dL_law_319 rfl rfl ?_
  refine x_iconst (v := (1 : Int32)) C dL_law_320 (by decide) ?_
  refine x_iadd C dL_law_321 ?_
  refine x_sld (v := va) C (i + (1 : Int32)).toNatClampNeg hX hbl hbz (i_in (by omega) (by omega)) rfl eva dL_law_322 ?_
  refine x_callV C cl_X9_tell kmL_44 (ci := 8) (b := 0) (As := [.int va]) (rest := []) rfl (hp_of ly_0) (tf_X9_tell va w q1 hq1) rfl rfl (Nat.le_of_ble_eq_true rfl) ⟨Nat.le_of_ble_eq_true rfl, Nat.le_of_ble_eq_true rfl⟩ ⟨Nat.le_of_ble_eq_true rfl, Nat.le_of_ble_eq_true rfl⟩ dL_law_323 ?_
  refine x_norm (st2 := [.int q1.1]) (kc2 := 157) (ks2 := 5325) rfl rfl rfl rfl rfl ?_
  refine x_pop C dL_law_326 rfl ?_
  refine x_aload_n C 1 dL_law_327 rfl rfl ?_
  refine x_aload_n C 3 dL_law_328 rfl rfl ?_
  refine x_iload_n C 0 dL_law_329 rfl rfl ?_
  refine x_iconst (v := (1 : Int32)) C dL_law_330 (by decide) ?_
  refine x_iadd C dL_law_331 ?_
  refine x_sld (v := va) C (i + (1 : Int32)).toNatClampNeg hX hbl hbz (i_in (by omega) (by omega)) rfl eva dL_law_332 ?_
  refine x_callV C cl_X10_tell kmL_47 (ci := 9) (b := 134) (As := [.int va]) (rest := []) rfl (hp_of ly_134) (tf_X10_tell va q1.2 q2 hq2) rfl rfl (Nat.le_of_ble_eq_true rfl) ⟨Nat.le_of_ble_eq_true rfl, Nat.le_of_ble_eq_true rfl⟩ ⟨Nat.le_of_ble_eq_true rfl, Nat.le_of_ble_eq_true rfl⟩ dL_law_333 ?_
  refine x_norm (st2 := [.int q2.1]) (kc2 := 157) (ks2 := 5325) rfl rfl rfl rfl rfl ?_
  refine x_pop C dL_law_336 rfl ?_
  refine x_goto C 767 dL_law_337 (by decide) ?_
  exact kend _ hS2
set_option maxRecDepth 20000 in
theorem lc_rise {p : Program} {l : Launch} {e : Env} {s : State} {m : MethodId} {below : List Frame} {meth : Method} {c : Code} {G : GT} {z b L : Nat} {xs : Nat → Int32} {w : Mem} {i : Int32} (C : Cx p s m #[Value.ref b] c G RL cL_law 4 z) (hX : va_X b L xs s s.heap) (hbl : b < s.heap.size) (hbz : b < z) (hL : L ≤ 1536) (hi0 : 0 ≤ i.toInt) (hi : i.toInt + 3 ≤ L) (hS : Sim w) (kend : ∀ w2 : Mem, Sim w2 → Xw p l e room_1 s m #[Value.ref b] below meth c G z 4 (lw_Z below #[Value.ref b] s) 767 [(3, .int i), (2, .ref (z + 134)), (1, .ref (z + 0)), (0, .ref b)] [] (hp G z w2) 157 157 5325) : Xw p l e room_1 s m #[Value.ref b] below meth c G z 4 (lw_Z below #[Value.ref b] s) 340 [(3, .int i), (2, .ref (z + 134)), (1, .ref (z + 0)), (0, .ref b)] [] (hp G z w) 157 157 5325 := by
  obtain ⟨q1, hq1, q2, hq2, hS2, hEq⟩ := op_rise hS
  refine x_aload_n C 2 dL_law_340 rfl rfl ?_
  refine x_callV C cl_X9_rise kmL_48 (ci := 8) (b := 0) (As := []) (rest := []) rfl (hp_of ly_0) (tf_X9_rise w q1 hq1) rfl rfl (Nat.le_of_ble_eq_true rfl) ⟨Nat.le_of_ble_eq_true rfl, Nat.le_of_ble_eq_true rfl⟩ ⟨Nat.le_of_ble_eq_true rfl, Nat.le_of_ble_eq_true rfl⟩ dL_law_341 ?_
  refine x_norm (st2 := [.int q1.1]) (kc2 := 157) (ks2 := 5325) rfl rfl rfl rfl rfl ?_
  refine x_pop C dL_law_344 rfl ?_
  refine x_aload_n C 1 dL_law_345 rfl rfl ?_
  refine x_callV C cl_X10_rise kmL_51 (ci := 9) (b := 134) (As := []) (rest := []) rfl (hp_of ly_134) (tf_X10_rise q1.2 q2 hq2) rfl rfl (Nat.le_of_ble_eq_true rfl) ⟨Nat.le_of_ble_eq_true rfl, Nat.le_of_ble_eq_true rfl⟩ ⟨Nat.le_of_ble_eq_true rfl, Nat.le_of_ble_eq_true rfl⟩ dL_law_346 ?_
  refine x_norm (st2 := [.int q2.1]) (kc2 := 157) (ks2 := 5325) rfl rfl rfl rfl rfl ?_
  refine x_pop C dL_law_349 rfl ?_
  refine x_goto C 767 dL_law_350 (by decide) ?_
  exact kend _ hS2
set_option maxRecDepth 20000 in
theorem lc_learn {p : Program} {l : Launch} {e : Env} {s : State} {m : MethodId} {below : List Frame} {meth : Method} {c : Code} {G : GT} {z b L : Nat} {xs : Nat → Int32} {w : Mem} {i : Int32} (C : Cx p s m #[Value.ref b] c G RL cL_law 4 z) (hX : va_X b L xs s s.heap) (hbl : b < s.heap.size) (hbz : b < z) (hL : L ≤ 1536) (hi0 : 0 ≤ i.toInt) (hi : i.toInt + 3 ≤ L) (hS : Sim w) (kend : ∀ w2 : Mem, Sim w2 → Xw p l e room_1 s m #[Value.ref b] below meth c G z 4 (lw_Z below #[Value.ref b] s) 767 [(3, .int i), (2, .ref (z + 134)), (1, .ref (z + 0)), (0, .ref b)] [] (hp G z w2) 157 157 5325) : Xw p l e room_1 s m #[Value.ref b] below meth c G z 4 (lw_Z below #[Value.ref b] s) 353 [(3, .int i), (2, .ref (z + 134)), (1, .ref (z + 0)), (0, .ref b)] [] (hp G z w) 157 157 5325 := by
  have lva : (1 : Int32).toInt = 1 := by decide
  have xva : (i + (1 : Int32)).toInt = i.toInt + 1 := i_addk lva (by omega) (by omega)
  obtain ⟨va, eva⟩ : ∃ q : Int32, xs (i + (1 : Int32)).toNatClampNeg = q := ⟨_, rfl⟩
  obtain ⟨q1, hq1, q2, hq2, hS2, hEq⟩ := op_learn hS va
  refine x_aload_n C 2 dL_law_353 rfl rfl ?_
  refine x_aload_n C 3 dL_law_354 rfl rfl ?_
  refine x_iload_n C 0 dL_law_355 rfl rfl ?_
  refine x_iconst (v := (1 : Int32)) C dL_law_356 (by decide) ?_
  refine x_iadd C dL_law_357 ?_
  refine x_sld (v := va) C (i + (1 : Int32)).toNatClampNeg hX hbl hbz (i_in (by omega) (by omega)) rfl eva dL_law_358 ?_
  refine x_callV C cl_X9_learn kmL_52 (ci := 8) (b := 0) (As := [.int va]) (rest := []) rfl (hp_of ly_0) (tf_X9_learn va w q1 hq1) rfl rfl (Nat.le_of_ble_eq_true rfl) ⟨Nat.le_of_ble_eq_true rfl, Nat.le_of_ble_eq_true rfl⟩ ⟨Nat.le_of_ble_eq_true rfl, Nat.le_of_ble_eq_true rfl⟩ dL_law_359 ?_
  refine x_norm (st2 := [.int q1.1]) (kc2 := 157) (ks2 := 5325) rfl rfl rfl rfl rfl ?_
  refine x_pop C dL_law_362 rfl ?_
  refine x_aload_n C 1 dL_law_363 rfl rfl ?_
  refine x_aload_n C 3 dL_law_364 rfl rfl ?_
  refine x_iload_n C 0 dL_law_365 rfl rfl ?_
  refine x_iconst (v := (1 : Int32)) C dL_law_366 (by decide) ?_
  refine x_iadd C dL_law_367 ?_
  refine x_sld (v := va) C (i + (1 : Int32)).toNatClampNeg hX hbl hbz (i_in (by omega) (by omega)) rfl eva dL_law_368 ?_
  refine x_callV C cl_X10_learn kmL_55 (ci := 9) (b := 134) (As := [.int va]) (rest := []) rfl (hp_of ly_134) (tf_X10_learn va q1.2 q2 hq2) rfl rfl (Nat.le_of_ble_eq_true rfl) ⟨Nat.le_of_ble_eq_true rfl, Nat.le_of_ble_eq_true rfl⟩ ⟨Nat.le_of_ble_eq_true rfl, Nat.le_of_ble_eq_true rfl⟩ dL_law_369 ?_
  refine x_norm (st2 := [.int q2.1]) (kc2 := 157) (ks2 := 5325) rfl rfl rfl rfl rfl ?_
  refine x_pop C dL_law_372 rfl ?_
  refine x_goto C 767 dL_law_373 (by decide) ?_
  exact kend _ hS2
set_option maxRecDepth 20000 in
theorem lc_minute {p : Program} {l : Launch} {e : Env} {s : State} {m : MethodId} {below : List Frame} {meth : Method} {c : Code} {G : GT} {z b L : Nat} {xs : Nat → Int32} {w : Mem} {i : Int32} (C : Cx p s m #[Value.ref b] c G RL cL_law 4 z) (hX : va_X b L xs s s.heap) (hbl : b < s.heap.size) (hbz : b < z) (hL : L ≤ 1536) (hi0 : 0 ≤ i.toInt) (hi : i.toInt + 3 ≤ L) (hS : Sim w) (kend : ∀ w2 : Mem, Sim w2 → Xw p l e room_1 s m #[Value.ref b] below meth c G z 4 (lw_Z below #[Value.ref b] s) 767 [(3, .int i), (2, .ref (z + 134)), (1, .ref (z + 0)), (0, .ref b)] [] (hp G z w2) 157 157 5325) : Xw p l e room_1 s m #[Value.ref b] below meth c G z 4 (lw_Z below #[Value.ref b] s) 376 [(3, .int i), (2, .ref (z + 134)), (1, .ref (z + 0)), (0, .ref b)] [] (hp G z w) 157 157 5325 := by
  have lva : (1 : Int32).toInt = 1 := by decide
  have xva : (i + (1 : Int32)).toInt = i.toInt + 1 := i_addk lva (by omega) (by omega)
  obtain ⟨va, eva⟩ : ∃ q : Int32, xs (i + (1 : Int32)).toNatClampNeg = q := ⟨_, rfl⟩
  obtain ⟨q1, hq1, q2, hq2, hS2, hEq⟩ := op_minute hS va
  refine x_aload_n C 2 dL_law_376 rfl rfl ?_
  refine x_aload_n C 3 dL_law_377 rfl rfl ?_
  refine x_iload_n C 0 dL_law_378 rfl rfl ?_
  refine x_iconst (v := (1 : Int32)) C dL_law_379 (by decide) ?_
  refine x_iadd C dL_law_380 ?_
  refine x_sld (v := va) C (i + (1 : Int32)).toNatClampNeg hX hbl hbz (i_in (by omega) (by omega)) rfl eva dL_law_381 ?_
  refine x_callV C cl_X9_minute kmL_56 (ci := 8) (b := 0) (As := [.int va]) (rest := []) rfl (hp_of ly_0) (tf_X9_minute va w q1 hq1) rfl rfl (Nat.le_of_ble_eq_true rfl) ⟨Nat.le_of_ble_eq_true rfl, Nat.le_of_ble_eq_true rfl⟩ ⟨Nat.le_of_ble_eq_true rfl, Nat.le_of_ble_eq_true rfl⟩ dL_law_382 ?_
  refine x_norm (st2 := [.int q1.1]) (kc2 := 157) (ks2 := 5325) rfl rfl rfl rfl rfl ?_
  refine x_pop C dL_law_385 rfl ?_
  refine x_aload_n C 1 dL_law_386 rfl rfl ?_
  refine x_aload_n C 3 dL_law_387 rfl rfl ?_
  refine x_iload_n C 0 dL_law_388 rfl rfl ?_
  refine x_iconst (v := (1 : Int32)) C dL_law_389 (by decide) ?_
  refine x_iadd C dL_law_390 ?_
  refine x_sld (v := va) C (i + (1 : Int32)).toNatClampNeg hX hbl hbz (i_in (by omega) (by omega)) rfl eva dL_law_391 ?_
  refine x_callV C cl_X10_minute kmL_59 (ci := 9) (b := 134) (As := [.int va]) (rest := []) rfl (hp_of ly_134) (tf_X10_minute va q1.2 q2 hq2) rfl rfl (Nat.le_of_ble_eq_true rfl) ⟨Nat.le_of_ble_eq_true rfl, Nat.le_of_ble_eq_true rfl⟩ ⟨Nat.le_of_ble_eq_true rfl, Nat.le_of_ble_eq_true rfl⟩ dL_law_392 ?_
  refine x_norm (st2 := [.int q2.1]) (kc2 := 157) (ks2 := 5325) rfl rfl rfl rfl rfl ?_
  refine x_pop C dL_law_395 rfl ?_
  refine x_goto C 767 dL_law_396 (by decide) ?_
  exact kend _ hS2
set_option maxRecDepth 20000 in
theorem lc_anew {p : Program} {l : Launch} {e : Env} {s : State} {m : MethodId} {below : List Frame} {meth : Method} {c : Code} {G : GT} {z b L : Nat} {xs : Nat → Int32} {w : Mem} {i : Int32} (C : Cx p s m #[Value.ref b] c G RL cL_law 4 z) (hX : va_X b L xs s s.heap) (hbl : b < s.heap.size) (hbz : b < z) (hL : L ≤ 1536) (hi0 : 0 ≤ i.toInt) (hi : i.toInt + 3 ≤ L) (hS : Sim w) (kend : ∀ w2 : Mem, Sim w2 → Xw p l e room_1 s m #[Value.ref b] below meth c G z 4 (lw_Z below #[Value.ref b] s) 767 [(3, .int i), (2, .ref (z + 134)), (1, .ref (z + 0)), (0, .ref b)] [] (hp G z w2) 157 157 5325) : Xw p l e room_1 s m #[Value.ref b] below meth c G z 4 (lw_Z below #[Value.ref b] s) 399 [(3, .int i), (2, .ref (z + 134)), (1, .ref (z + 0)), (0, .ref b)] [] (hp G z w) 157 157 5325 := by
  obtain ⟨q1, hq1, q2, hq2, hS2, hEq⟩ := op_anew hS
  refine x_aload_n C 2 dL_law_399 rfl rfl ?_
  refine x_callV C cl_X9_anew kmL_60 (ci := 8) (b := 0) (As := []) (rest := []) rfl (hp_of ly_0) (tf_X9_anew w q1 hq1) rfl rfl (Nat.le_of_ble_eq_true rfl) ⟨Nat.le_of_ble_eq_true rfl, Nat.le_of_ble_eq_true rfl⟩ ⟨Nat.le_of_ble_eq_true rfl, Nat.le_of_ble_eq_true rfl⟩ dL_law_400 ?_
  refine x_norm (st2 := [.int q1.1]) (kc2 := 157) (ks2 := 5325) rfl rfl rfl rfl rfl ?_
  refine x_pop C dL_law_403 rfl ?_
  refine x_aload_n C 1 dL_law_404 rfl rfl ?_
  refine x_callV C cl_X10_anew kmL_63 (ci := 9) (b := 134) (As := []) (rest := []) rfl (hp_of ly_134) (tf_X10_anew q1.2 q2 hq2) rfl rfl (Nat.le_of_ble_eq_true rfl) ⟨Nat.le_of_ble_eq_true rfl, Nat.le_of_ble_eq_true rfl⟩ ⟨Nat.le_of_ble_eq_true rfl, Nat.le_of_ble_eq_true rfl⟩ dL_law_405 ?_
  refine x_norm (st2 := [.int q2.1]) (kc2 := 157) (ks2 := 5325) rfl rfl rfl rfl rfl ?_
  refine x_pop C dL_law_408 rfl ?_
  refine x_goto C 767 dL_law_409 (by decide) ?_
  exact kend _ hS2
set_option maxRecDepth 20000 in
theorem lc_drift {p : Program} {l : Launch} {e : Env} {s : State} {m : MethodId} {below : List Frame} {meth : Method} {c : Code} {G : GT} {z b L : Nat} {xs : Nat → Int32} {w : Mem} {i : Int32} (C : Cx p s m #[Value.ref b] c G RL cL_law 4 z) (hX : va_X b L xs s s.heap) (hbl : b < s.heap.size) (hbz : b < z) (hL : L ≤ 1536) (hi0 : 0 ≤ i.toInt) (hi : i.toInt + 3 ≤ L) (hS : Sim w) (kend : ∀ w2 : Mem, Sim w2 → Xw p l e room_1 s m #[Value.ref b] below meth c G z 4 (lw_Z below #[Value.ref b] s) 767 [(3, .int i), (2, .ref (z + 134)), (1, .ref (z + 0)), (0, .ref b)] [] (hp G z w2) 157 157 5325) : Xw p l e room_1 s m #[Value.ref b] below meth c G z 4 (lw_Z below #[Value.ref b] s) 412 [(3, .int i), (2, .ref (z + 134)), (1, .ref (z + 0)), (0, .ref b)] [] (hp G z w) 157 157 5325 := by
  have lva : (1 : Int32).toInt = 1 := by decide
  have xva : (i + (1 : Int32)).toInt = i.toInt + 1 := i_addk lva (by omega) (by omega)
  obtain ⟨va, eva⟩ : ∃ q : Int32, xs (i + (1 : Int32)).toNatClampNeg = q := ⟨_, rfl⟩
  obtain ⟨q1, hq1, q2, hq2, hS2, hEq⟩ := op_drift hS va
  refine x_aload_n C 2 dL_law_412 rfl rfl ?_
  refine x_aload_n C 3 dL_law_413 rfl rfl ?_
  refine x_iload_n C 0 dL_law_414 rfl rfl ?_
  refine x_iconst (v := (1 : Int32)) C dL_law_415 (by decide) ?_
  refine x_iadd C dL_law_416 ?_
  refine x_sld (v := va) C (i + (1 : Int32)).toNatClampNeg hX hbl hbz (i_in (by omega) (by omega)) rfl eva dL_law_417 ?_
  refine x_callV C cl_X9_drift kmL_64 (ci := 8) (b := 0) (As := [.int va]) (rest := []) rfl (hp_of ly_0) (tf_X9_drift va w q1 hq1) rfl rfl (Nat.le_of_ble_eq_true rfl) ⟨Nat.le_of_ble_eq_true rfl, Nat.le_of_ble_eq_true rfl⟩ ⟨Nat.le_of_ble_eq_true rfl, Nat.le_of_ble_eq_true rfl⟩ dL_law_418 ?_
  refine x_norm (st2 := [.int q1.1]) (kc2 := 157) (ks2 := 5325) rfl rfl rfl rfl rfl ?_
  refine x_pop C dL_law_421 rfl ?_
  refine x_aload_n C 1 dL_law_422 rfl rfl ?_
  refine x_aload_n C 3 dL_law_423 rfl rfl ?_
  refine x_iload_n C 0 dL_law_424 rfl rfl ?_
  refine x_iconst (v := (1 : Int32)) C dL_law_425 (by decide) ?_
  refine x_iadd C dL_law_426 ?_
  refine x_sld (v := va) C (i + (1 : Int32)).toNatClampNeg hX hbl hbz (i_in (by omega) (by omega)) rfl eva dL_law_427 ?_
  refine x_callV C cl_X10_drift kmL_67 (ci := 9) (b := 134) (As := [.int va]) (rest := []) rfl (hp_of ly_134) (tf_X10_drift va q1.2 q2 hq2) rfl rfl (Nat.le_of_ble_eq_true rfl) ⟨Nat.le_of_ble_eq_true rfl, Nat.le_of_ble_eq_true rfl⟩ ⟨Nat.le_of_ble_eq_true rfl, Nat.le_of_ble_eq_true rfl⟩ dL_law_428 ?_
  refine x_norm (st2 := [.int q2.1]) (kc2 := 157) (ks2 := 5325) rfl rfl rfl rfl rfl ?_
  refine x_pop C dL_law_431 rfl ?_
  refine x_goto C 767 dL_law_432 (by decide) ?_
  exact kend _ hS2
set_option maxRecDepth 20000 in
theorem lc_undo {p : Program} {l : Launch} {e : Env} {s : State} {m : MethodId} {below : List Frame} {meth : Method} {c : Code} {G : GT} {z b L : Nat} {xs : Nat → Int32} {w : Mem} {i : Int32} (C : Cx p s m #[Value.ref b] c G RL cL_law 4 z) (hX : va_X b L xs s s.heap) (hbl : b < s.heap.size) (hbz : b < z) (hL : L ≤ 1536) (hi0 : 0 ≤ i.toInt) (hi : i.toInt + 3 ≤ L) (hS : Sim w) (kend : ∀ w2 : Mem, Sim w2 → Xw p l e room_1 s m #[Value.ref b] below meth c G z 4 (lw_Z below #[Value.ref b] s) 767 [(3, .int i), (2, .ref (z + 134)), (1, .ref (z + 0)), (0, .ref b)] [] (hp G z w2) 157 157 5325) : Xw p l e room_1 s m #[Value.ref b] below meth c G z 4 (lw_Z below #[Value.ref b] s) 435 [(3, .int i), (2, .ref (z + 134)), (1, .ref (z + 0)), (0, .ref b)] [] (hp G z w) 157 157 5325 := by
  have lva : (1 : Int32).toInt = 1 := by decide
  have xva : (i + (1 : Int32)).toInt = i.toInt + 1 := i_addk lva (by omega) (by omega)
  obtain ⟨va, eva⟩ : ∃ q : Int32, xs (i + (1 : Int32)).toNatClampNeg = q := ⟨_, rfl⟩
  obtain ⟨q1, hq1, q2, hq2, hS2, hEq⟩ := op_undo hS va
  refine x_aload_n C 2 dL_law_435 rfl rfl ?_
  refine x_aload_n C 3 dL_law_436 rfl rfl ?_
  refine x_iload_n C 0 dL_law_437 rfl rfl ?_
  refine x_iconst (v := (1 : Int32)) C dL_law_438 (by decide) ?_
  refine x_iadd C dL_law_439 ?_
  refine x_sld (v := va) C (i + (1 : Int32)).toNatClampNeg hX hbl hbz (i_in (by omega) (by omega)) rfl eva dL_law_440 ?_
  refine x_callV C cl_X9_undo kmL_68 (ci := 8) (b := 0) (As := [.int va]) (rest := []) rfl (hp_of ly_0) (tf_X9_undo va w q1 hq1) rfl rfl (Nat.le_of_ble_eq_true rfl) ⟨Nat.le_of_ble_eq_true rfl, Nat.le_of_ble_eq_true rfl⟩ ⟨Nat.le_of_ble_eq_true rfl, Nat.le_of_ble_eq_true rfl⟩ dL_law_441 ?_
  refine x_norm (st2 := [.int q1.1]) (kc2 := 157) (ks2 := 5325) rfl rfl rfl rfl rfl ?_
  refine x_pop C dL_law_444 rfl ?_
  refine x_aload_n C 1 dL_law_445 rfl rfl ?_
  refine x_aload_n C 3 dL_law_446 rfl rfl ?_
  refine x_iload_n C 0 dL_law_447 rfl rfl ?_
  refine x_iconst (v := (1 : Int32)) C dL_law_448 (by decide) ?_
  refine x_iadd C dL_law_449 ?_
  refine x_sld (v := va) C (i + (1 : Int32)).toNatClampNeg hX hbl hbz (i_in (by omega) (by omega)) rfl eva dL_law_450 ?_
  refine x_callV C cl_X10_undo kmL_71 (ci := 9) (b := 134) (As := [.int va]) (rest := []) rfl (hp_of ly_134) (tf_X10_undo va q1.2 q2 hq2) rfl rfl (Nat.le_of_ble_eq_true rfl) ⟨Nat.le_of_ble_eq_true rfl, Nat.le_of_ble_eq_true rfl⟩ ⟨Nat.le_of_ble_eq_true rfl, Nat.le_of_ble_eq_true rfl⟩ dL_law_451 ?_
  refine x_norm (st2 := [.int q2.1]) (kc2 := 157) (ks2 := 5325) rfl rfl rfl rfl rfl ?_
  refine x_pop C dL_law_454 rfl ?_
  refine x_goto C 767 dL_law_455 (by decide) ?_
  exact kend _ hS2
set_option maxRecDepth 20000 in
theorem lc_stay {p : Program} {l : Launch} {e : Env} {s : State} {m : MethodId} {below : List Frame} {meth : Method} {c : Code} {G : GT} {z b L : Nat} {xs : Nat → Int32} {w : Mem} {i : Int32} (C : Cx p s m #[Value.ref b] c G RL cL_law 4 z) (hX : va_X b L xs s s.heap) (hbl : b < s.heap.size) (hbz : b < z) (hL : L ≤ 1536) (hi0 : 0 ≤ i.toInt) (hi : i.toInt + 3 ≤ L) (hS : Sim w) (kend : ∀ w2 : Mem, Sim w2 → Xw p l e room_1 s m #[Value.ref b] below meth c G z 4 (lw_Z below #[Value.ref b] s) 767 [(3, .int i), (2, .ref (z + 134)), (1, .ref (z + 0)), (0, .ref b)] [] (hp G z w2) 157 157 5325) : Xw p l e room_1 s m #[Value.ref b] below meth c G z 4 (lw_Z below #[Value.ref b] s) 458 [(3, .int i), (2, .ref (z + 134)), (1, .ref (z + 0)), (0, .ref b)] [] (hp G z w) 157 157 5325 := by
  have lva : (1 : Int32).toInt = 1 := by decide
  have xva : (i + (1 : Int32)).toInt = i.toInt + 1 := i_addk lva (by omega) (by omega)
  obtain ⟨va, eva⟩ : ∃ q : Int32, xs (i + (1 : Int32)).toNatClampNeg = q := ⟨_, rfl⟩
  have lvb : (2 : Int32).toInt = 2 := by decide
  have xvb : (i + (2 : Int32)).toInt = i.toInt + 2 := i_addk lvb (by omega) (by omega)
  obtain ⟨vb, evb⟩ : ∃ q : Int32, xs (i + (2 : Int32)).toNatClampNeg = q := ⟨_, rfl⟩
  obtain ⟨q1, hq1, q2, hq2, hS2, hEq⟩ := op_stay hS va vb
  refine x_aload_n C 2 dL_law_458 rfl rfl ?_
  refine x_aload_n C 3 dL_law_459 rfl rfl ?_
  refine x_iload_n C 0 dL_law_460 rfl rfl ?_
  refine x_iconst (v := (1 : Int32)) C dL_law_461 (by decide) ?_
  refine x_iadd C dL_law_462 ?_
  refine x_sld (v := va) C (i + (1 : Int32)).toNatClampNeg hX hbl hbz (i_in (by omega) (by omega)) rfl eva dL_law_463 ?_
  refine x_aload_n C 3 dL_law_464 rfl rfl ?_
  refine x_iload_n C 0 dL_law_465 rfl rfl ?_
  refine x_iconst (v := (2 : Int32)) C dL_law_466 (by decide) ?_
  refine x_iadd C dL_law_467 ?_
  refine x_sld (v := vb) C (i + (2 : Int32)).toNatClampNeg hX hbl hbz (i_in (by omega) (by omega)) rfl evb dL_law_468 ?_
  refine x_callV C cl_X9_stay kmL_72 (ci := 8) (b := 0) (As := [.int va, .int vb]) (rest := []) rfl (hp_of ly_0) (tf_X9_stay va vb w q1 hq1) rfl rfl (Nat.le_of_ble_eq_true rfl) ⟨Nat.le_of_ble_eq_true rfl, Nat.le_of_ble_eq_true rfl⟩ ⟨Nat.le_of_ble_eq_true rfl, Nat.le_of_ble_eq_true rfl⟩ dL_law_469 ?_
  refine x_norm (st2 := [.int q1]) (kc2 := 157) (ks2 := 5325) rfl rfl rfl rfl rfl ?_
  refine x_pop C dL_law_472 rfl ?_
  refine x_aload_n C 1 dL_law_473 rfl rfl ?_
  refine x_aload_n C 3 dL_law_474 rfl rfl ?_
  refine x_iload_n C 0 dL_law_475 rfl rfl ?_
  refine x_iconst (v := (1 : Int32)) C dL_law_476 (by decide) ?_
  refine x_iadd C dL_law_477 ?_
  refine x_sld (v := va) C (i + (1 : Int32)).toNatClampNeg hX hbl hbz (i_in (by omega) (by omega)) rfl eva dL_law_478 ?_
  refine x_aload_n C 3 dL_law_479 rfl rfl ?_
  refine x_iload_n C 0 dL_law_480 rfl rfl ?_
  refine x_iconst (v := (2 : Int32)) C dL_law_481 (by decide) ?_
  refine x_iadd C dL_law_482 ?_
  refine x_sld (v := vb) C (i + (2 : Int32)).toNatClampNeg hX hbl hbz (i_in (by omega) (by omega)) rfl evb dL_law_483 ?_
  refine x_callV C cl_X10_stay kmL_75 (ci := 9) (b := 134) (As := [.int va, .int vb]) (rest := []) rfl (hp_of ly_134) (tf_X10_stay va vb w q2 hq2) rfl rfl (Nat.le_of_ble_eq_true rfl) ⟨Nat.le_of_ble_eq_true rfl, Nat.le_of_ble_eq_true rfl⟩ ⟨Nat.le_of_ble_eq_true rfl, Nat.le_of_ble_eq_true rfl⟩ dL_law_484 ?_
  refine x_norm (st2 := [.int q2]) (kc2 := 157) (ks2 := 5325) rfl rfl rfl rfl rfl ?_
  refine x_pop C dL_law_487 rfl ?_
  refine x_goto C 767 dL_law_488 (by decide) ?_
  exact kend _ hS2
set_option maxRecDepth 20000 in
theorem lc_talk {p : Program} {l : Launch} {e : Env} {s : State} {m : MethodId} {below : List Frame} {meth : Method} {c : Code} {G : GT} {z b L : Nat} {xs : Nat → Int32} {w : Mem} {i : Int32} (C : Cx p s m #[Value.ref b] c G RL cL_law 4 z) (hX : va_X b L xs s s.heap) (hbl : b < s.heap.size) (hbz : b < z) (hL : L ≤ 1536) (hi0 : 0 ≤ i.toInt) (hi : i.toInt + 3 ≤ L) (hS : Sim w) (kend : ∀ w2 : Mem, Sim w2 → Xw p l e room_1 s m #[Value.ref b] below meth c G z 4 (lw_Z below #[Value.ref b] s) 767 [(3, .int i), (2, .ref (z + 134)), (1, .ref (z + 0)), (0, .ref b)] [] (hp G z w2) 157 157 5325) : Xw p l e room_1 s m #[Value.ref b] below meth c G z 4 (lw_Z below #[Value.ref b] s) 491 [(3, .int i), (2, .ref (z + 134)), (1, .ref (z + 0)), (0, .ref b)] [] (hp G z w) 157 157 5325 := by
  have lva : (1 : Int32).toInt = 1 := by decide
  have xva : (i + (1 : Int32)).toInt = i.toInt + 1 := i_addk lva (by omega) (by omega)
  obtain ⟨va, eva⟩ : ∃ q : Int32, xs (i + (1 : Int32)).toNatClampNeg = q := ⟨_, rfl⟩
  have lvb : (2 : Int32).toInt = 2 := by decide
  have xvb : (i + (2 : Int32)).toInt = i.toInt + 2 := i_addk lvb (by omega) (by omega)
  obtain ⟨vb, evb⟩ : ∃ q : Int32, xs (i + (2 : Int32)).toNatClampNeg = q := ⟨_, rfl⟩
  obtain ⟨q1, hq1, q2, hq2, hS2, hEq⟩ := op_talk hS va vb
  refine x_aload_n C 2 dL_law_491 rfl rfl ?_
  refine x_aload_n C 3 dL_law_492 rfl rfl ?_
  refine x_iload_n C 0 dL_law_493 rfl rfl ?_
  refine x_iconst (v := (1 : Int32)) C dL_law_494 (by decide) ?_
  refine x_iadd C dL_law_495 ?_
  refine x_sld (v := va) C (i + (1 : Int32)).toNatClampNeg hX hbl hbz (i_in (by omega) (by omega)) rfl eva dL_law_496 ?_
  refine x_aload_n C 3 dL_law_497 rfl rfl ?_
  refine x_iload_n C 0 dL_law_498 rfl rfl ?_
  refine x_iconst (v := (2 : Int32)) C dL_law_499 (by decide) ?_
  refine x_iadd C dL_law_500 ?_
  refine x_sld (v := vb) C (i + (2 : Int32)).toNatClampNeg hX hbl hbz (i_in (by omega) (by omega)) rfl evb dL_law_501 ?_
  refine x_callV C cl_X9_talk kmL_76 (ci := 8) (b := 0) (As := [.int va, .int vb]) (rest := []) rfl (hp_of ly_0) (tf_X9_talk va vb w q1 hq1) rfl rfl (Nat.le_of_ble_eq_true rfl) ⟨Nat.le_of_ble_eq_true rfl, Nat.le_of_ble_eq_true rfl⟩ ⟨Nat.le_of_ble_eq_true rfl, Nat.le_of_ble_eq_true rfl⟩ dL_law_502 ?_
  refine x_norm (st2 := [.int q1.1]) (kc2 := 157) (ks2 := 5325) rfl rfl rfl rfl rfl ?_
  refine x_pop C dL_law_505 rfl ?_
  refine x_aload_n C 1 dL_law_506 rfl rfl ?_
  refine x_aload_n C 3 dL_law_507 rfl rfl ?_
  refine x_iload_n C 0 dL_law_508 rfl rfl ?_
  refine x_iconst (v := (1 : Int32)) C dL_law_509 (by decide) ?_
  refine x_iadd C dL_law_510 ?_
  refine x_sld (v := va) C (i + (1 : Int32)).toNatClampNeg hX hbl hbz (i_in (by omega) (by omega)) rfl eva dL_law_511 ?_
  refine x_aload_n C 3 dL_law_512 rfl rfl ?_
  refine x_iload_n C 0 dL_law_513 rfl rfl ?_
  refine x_iconst (v := (2 : Int32)) C dL_law_514 (by decide) ?_
  refine x_iadd C dL_law_515 ?_
  refine x_sld (v := vb) C (i + (2 : Int32)).toNatClampNeg hX hbl hbz (i_in (by omega) (by omega)) rfl evb dL_law_516 ?_
  refine x_callV C cl_X10_talk kmL_79 (ci := 9) (b := 134) (As := [.int va, .int vb]) (rest := []) rfl (hp_of ly_134) (tf_X10_talk va vb q1.2 q2 hq2) rfl rfl (Nat.le_of_ble_eq_true rfl) ⟨Nat.le_of_ble_eq_true rfl, Nat.le_of_ble_eq_true rfl⟩ ⟨Nat.le_of_ble_eq_true rfl, Nat.le_of_ble_eq_true rfl⟩ dL_law_517 ?_
  refine x_norm (st2 := [.int q2.1]) (kc2 := 157) (ks2 := 5325) rfl rfl rfl rfl rfl ?_
  refine x_pop C dL_law_520 rfl ?_
  refine x_goto C 767 dL_law_521 (by decide) ?_
  exact kend _ hS2
set_option maxRecDepth 20000 in
theorem lc_queue {p : Program} {l : Launch} {e : Env} {s : State} {m : MethodId} {below : List Frame} {meth : Method} {c : Code} {G : GT} {z b L : Nat} {xs : Nat → Int32} {w : Mem} {i : Int32} (C : Cx p s m #[Value.ref b] c G RL cL_law 4 z) (hX : va_X b L xs s s.heap) (hbl : b < s.heap.size) (hbz : b < z) (hL : L ≤ 1536) (hi0 : 0 ≤ i.toInt) (hi : i.toInt + 3 ≤ L) (hS : Sim w) (kend : ∀ w2 : Mem, Sim w2 → Xw p l e room_1 s m #[Value.ref b] below meth c G z 4 (lw_Z below #[Value.ref b] s) 767 [(3, .int i), (2, .ref (z + 134)), (1, .ref (z + 0)), (0, .ref b)] [] (hp G z w2) 157 157 5325) : Xw p l e room_1 s m #[Value.ref b] below meth c G z 4 (lw_Z below #[Value.ref b] s) 524 [(3, .int i), (2, .ref (z + 134)), (1, .ref (z + 0)), (0, .ref b)] [] (hp G z w) 157 157 5325 := by
  have lva : (1 : Int32).toInt = 1 := by decide
  have xva : (i + (1 : Int32)).toInt = i.toInt + 1 := i_addk lva (by omega) (by omega)
  obtain ⟨va, eva⟩ : ∃ q : Int32, xs (i + (1 : Int32)).toNatClampNeg = q := ⟨_, rfl⟩
  obtain ⟨q1, hq1, q2, hq2, hS2, hEq⟩ := op_queue hS va
  refine x_aload_n C 2 dL_law_524 rfl rfl ?_
  refine x_aload_n C 3 dL_law_525 rfl rfl ?_
  refine x_iload_n C 0 dL_law_526 rfl rfl ?_
  refine x_iconst (v := (1 : Int32)) C dL_law_527 (by decide) ?_
  refine x_iadd C dL_law_528 ?_
  refine x_sld (v := va) C (i + (1 : Int32)).toNatClampNeg hX hbl hbz (i_in (by omega) (by omega)) rfl eva dL_law_529 ?_
  refine x_callV C cl_X9_queue kmL_80 (ci := 8) (b := 0) (As := [.int va]) (rest := []) rfl (hp_of ly_0) (tf_X9_queue va w q1 hq1) rfl rfl (Nat.le_of_ble_eq_true rfl) ⟨Nat.le_of_ble_eq_true rfl, Nat.le_of_ble_eq_true rfl⟩ ⟨Nat.le_of_ble_eq_true rfl, Nat.le_of_ble_eq_true rfl⟩ dL_law_530 ?_
  refine x_norm (st2 := [.int q1.1]) (kc2 := 157) (ks2 := 5325) rfl rfl rfl rfl rfl ?_
  refine x_pop C dL_law_533 rfl ?_
  refine x_aload_n C 1 dL_law_534 rfl rfl ?_
  refine x_aload_n C 3 dL_law_535 rfl rfl ?_
  refine x_iload_n C 0 dL_law_536 rfl rfl ?_
  refine x_iconst (v := (1 : Int32)) C dL_law_537 (by decide) ?_
  refine x_iadd C dL_law_538 ?_
  refine x_sld (v := va) C (i + (1 : Int32)).toNatClampNeg hX hbl hbz (i_in (by omega) (by omega)) rfl eva dL_law_539 ?_
  refine x_callV C cl_X10_queue kmL_83 (ci := 9) (b := 134) (As := [.int va]) (rest := []) rfl (hp_of ly_134) (tf_X10_queue va q1.2 q2 hq2) rfl rfl (Nat.le_of_ble_eq_true rfl) ⟨Nat.le_of_ble_eq_true rfl, Nat.le_of_ble_eq_true rfl⟩ ⟨Nat.le_of_ble_eq_true rfl, Nat.le_of_ble_eq_true rfl⟩ dL_law_540 ?_
  refine x_norm (st2 := [.int q2.1]) (kc2 := 157) (ks2 := 5325) rfl rfl rfl rfl rfl ?_
  refine x_pop C dL_law_543 rfl ?_
  refine x_goto C 767 dL_law_544 (by decide) ?_
  exact kend _ hS2
set_option maxRecDepth 20000 in
theorem lc_dry {p : Program} {l : Launch} {e : Env} {s : State} {m : MethodId} {below : List Frame} {meth : Method} {c : Code} {G : GT} {z b L : Nat} {xs : Nat → Int32} {w : Mem} {i : Int32} (C : Cx p s m #[Value.ref b] c G RL cL_law 4 z) (hX : va_X b L xs s s.heap) (hbl : b < s.heap.size) (hbz : b < z) (hL : L ≤ 1536) (hi0 : 0 ≤ i.toInt) (hi : i.toInt + 3 ≤ L) (hS : Sim w) (kend : ∀ w2 : Mem, Sim w2 → Xw p l e room_1 s m #[Value.ref b] below meth c G z 4 (lw_Z below #[Value.ref b] s) 767 [(3, .int i), (2, .ref (z + 134)), (1, .ref (z + 0)), (0, .ref b)] [] (hp G z w2) 157 157 5325) : Xw p l e room_1 s m #[Value.ref b] below meth c G z 4 (lw_Z below #[Value.ref b] s) 547 [(3, .int i), (2, .ref (z + 134)), (1, .ref (z + 0)), (0, .ref b)] [] (hp G z w) 157 157 5325 := by
  have lva : (1 : Int32).toInt = 1 := by decide
  have xva : (i + (1 : Int32)).toInt = i.toInt + 1 := i_addk lva (by omega) (by omega)
  obtain ⟨va, eva⟩ : ∃ q : Int32, xs (i + (1 : Int32)).toNatClampNeg = q := ⟨_, rfl⟩
  have lvb : (2 : Int32).toInt = 2 := by decide
  have xvb : (i + (2 : Int32)).toInt = i.toInt + 2 := i_addk lvb (by omega) (by omega)
  obtain ⟨vb, evb⟩ : ∃ q : Int32, xs (i + (2 : Int32)).toNatClampNeg = q := ⟨_, rfl⟩
  obtain ⟨q1, hq1, q2, hq2, hS2, hEq⟩ := op_dry hS va vb
  refine x_aload_n C 2 dL_law_547 rfl rfl ?_
  refine x_aload_n C 3 dL_law_548 rfl rfl ?_
  refine x_iload_n C 0 dL_law_549 rfl rfl ?_
  refine x_iconst (v := (1 : Int32)) C dL_law_550 (by decide) ?_
  refine x_iadd C dL_law_551 ?_
  refine x_sld (v := va) C (i + (1 : Int32)).toNatClampNeg hX hbl hbz (i_in (by omega) (by omega)) rfl eva dL_law_552 ?_
  refine x_aload_n C 3 dL_law_553 rfl rfl ?_
  refine x_iload_n C 0 dL_law_554 rfl rfl ?_
  refine x_iconst (v := (2 : Int32)) C dL_law_555 (by decide) ?_
  refine x_iadd C dL_law_556 ?_
  refine x_sld (v := vb) C (i + (2 : Int32)).toNatClampNeg hX hbl hbz (i_in (by omega) (by omega)) rfl evb dL_law_557 ?_
  refine x_callV C cl_X9_dry kmL_84 (ci := 8) (b := 0) (As := [.int va, .int vb]) (rest := []) rfl (hp_of ly_0) (tf_X9_dry va vb w q1 hq1) rfl rfl (Nat.le_of_ble_eq_true rfl) ⟨Nat.le_of_ble_eq_true rfl, Nat.le_of_ble_eq_true rfl⟩ ⟨Nat.le_of_ble_eq_true rfl, Nat.le_of_ble_eq_true rfl⟩ dL_law_558 ?_
  refine x_norm (st2 := [.int q1]) (kc2 := 157) (ks2 := 5325) rfl rfl rfl rfl rfl ?_
  refine x_pop C dL_law_561 rfl ?_
  refine x_aload_n C 1 dL_law_562 rfl rfl ?_
  refine x_aload_n C 3 dL_law_563 rfl rfl ?_
  refine x_iload_n C 0 dL_law_564 rfl rfl ?_
  refine x_iconst (v := (1 : Int32)) C dL_law_565 (by decide) ?_
  refine x_iadd C dL_law_566 ?_
  refine x_sld (v := va) C (i + (1 : Int32)).toNatClampNeg hX hbl hbz (i_in (by omega) (by omega)) rfl eva dL_law_567 ?_
  refine x_aload_n C 3 dL_law_568 rfl rfl ?_
  refine x_iload_n C 0 dL_law_569 rfl rfl ?_
  refine x_iconst (v := (2 : Int32)) C dL_law_570 (by decide) ?_
  refine x_iadd C dL_law_571 ?_
  refine x_sld (v := vb) C (i + (2 : Int32)).toNatClampNeg hX hbl hbz (i_in (by omega) (by omega)) rfl evb dL_law_572 ?_
  refine x_callV C cl_X10_dry kmL_87 (ci := 9) (b := 134) (As := [.int va, .int vb]) (rest := []) rfl (hp_of ly_134) (tf_X10_dry va vb w q2 hq2) rfl rfl (Nat.le_of_ble_eq_true rfl) ⟨Nat.le_of_ble_eq_true rfl, Nat.le_of_ble_eq_true rfl⟩ ⟨Nat.le_of_ble_eq_true rfl, Nat.le_of_ble_eq_true rfl⟩ dL_law_573 ?_
  refine x_norm (st2 := [.int q2]) (kc2 := 157) (ks2 := 5325) rfl rfl rfl rfl rfl ?_
  refine x_pop C dL_law_576 rfl ?_
  refine x_goto C 767 dL_law_577 (by decide) ?_
  exact kend _ hS2
set_option maxRecDepth 20000 in
theorem lc_stayed {p : Program} {l : Launch} {e : Env} {s : State} {m : MethodId} {below : List Frame} {meth : Method} {c : Code} {G : GT} {z b L : Nat} {xs : Nat → Int32} {w : Mem} {i : Int32} (C : Cx p s m #[Value.ref b] c G RL cL_law 4 z) (hX : va_X b L xs s s.heap) (hbl : b < s.heap.size) (hbz : b < z) (hL : L ≤ 1536) (hi0 : 0 ≤ i.toInt) (hi : i.toInt + 3 ≤ L) (hS : Sim w) (kend : ∀ w2 : Mem, Sim w2 → Xw p l e room_1 s m #[Value.ref b] below meth c G z 4 (lw_Z below #[Value.ref b] s) 767 [(3, .int i), (2, .ref (z + 134)), (1, .ref (z + 0)), (0, .ref b)] [] (hp G z w2) 157 157 5325) : Xw p l e room_1 s m #[Value.ref b] below meth c G z 4 (lw_Z below #[Value.ref b] s) 580 [(3, .int i), (2, .ref (z + 134)), (1, .ref (z + 0)), (0, .ref b)] [] (hp G z w) 157 157 5325 := by
  have lva : (1 : Int32).toInt = 1 := by decide
  have xva : (i + (1 : Int32)).toInt = i.toInt + 1 := i_addk lva (by omega) (by omega)
  obtain ⟨va, eva⟩ : ∃ q : Int32, xs (i + (1 : Int32)).toNatClampNeg = q := ⟨_, rfl⟩
  have lvb : (2 : Int32).toInt = 2 := by decide
  have xvb : (i + (2 : Int32)).toInt = i.toInt + 2 := i_addk lvb (by omega) (by omega)
  obtain ⟨vb, evb⟩ : ∃ q : Int32, xs (i + (2 : Int32)).toNatClampNeg = q := ⟨_, rfl⟩
  obtain ⟨q1, hq1, q2, hq2, hS2, hEq⟩ := op_stayed hS va vb
  refine x_aload_n C 2 dL_law_580 rfl rfl ?_
  refine x_aload_n C 3 dL_law_581 rfl rfl ?_
  refine x_iload_n C 0 dL_law_582 rfl rfl ?_
  refine x_iconst (v := (1 : Int32)) C dL_law_583 (by decide) ?_
  refine x_iadd C dL_law_584 ?_
  refine x_sld (v := va) C (i + (1 : Int32)).toNatClampNeg hX hbl hbz (i_in (by omega) (by omega)) rfl eva dL_law_585 ?_
  refine x_aload_n C 3 dL_law_586 rfl rfl ?_
  refine x_iload_n C 0 dL_law_587 rfl rfl ?_
  refine x_iconst (v := (2 : Int32)) C dL_law_588 (by decide) ?_
  refine x_iadd C dL_law_589 ?_
  refine x_sld (v := vb) C (i + (2 : Int32)).toNatClampNeg hX hbl hbz (i_in (by omega) (by omega)) rfl evb dL_law_590 ?_
  refine x_callV C cl_X9_stayed kmL_88 (ci := 8) (b := 0) (As := [.int va, .int vb]) (rest := []) rfl (hp_of ly_0) (tf_X9_stayed va vb w q1 hq1) rfl rfl (Nat.le_of_ble_eq_true rfl) ⟨Nat.le_of_ble_eq_true rfl, Nat.le_of_ble_eq_true rfl⟩ ⟨Nat.le_of_ble_eq_true rfl, Nat.le_of_ble_eq_true rfl⟩ dL_law_591 ?_
  refine x_norm (st2 := [.int q1.1]) (kc2 := 157) (ks2 := 5325) rfl rfl rfl rfl rfl ?_
  refine x_pop C dL_law_594 rfl ?_
  refine x_aload_n C 1 dL_law_595 rfl rfl ?_
  refine x_aload_n C 3 dL_law_596 rfl rfl ?_
  refine x_iload_n C 0 dL_law_597 rfl rfl ?_
  refine x_iconst (v := (1 : Int32)) C dL_law_598 (by decide) ?_
  refine x_iadd C dL_law_599 ?_
  refine x_sld (v := va) C (i + (1 : Int32)).toNatClampNeg hX hbl hbz (i_in (by omega) (by omega)) rfl eva dL_law_600 ?_
  refine x_aload_n C 3 dL_law_601 rfl rfl ?_
  refine x_iload_n C 0 dL_law_602 rfl rfl ?_
  refine x_iconst (v := (2 : Int32)) C dL_law_603 (by decide) ?_
  refine x_iadd C dL_law_604 ?_
  refine x_sld (v := vb) C (i + (2 : Int32)).toNatClampNeg hX hbl hbz (i_in (by omega) (by omega)) rfl evb dL_law_605 ?_
  refine x_callV C cl_X10_stayed kmL_91 (ci := 9) (b := 134) (As := [.int va, .int vb]) (rest := []) rfl (hp_of ly_134) (tf_X10_stayed va vb q1.2 q2 hq2) rfl rfl (Nat.le_of_ble_eq_true rfl) ⟨Nat.le_of_ble_eq_true rfl, Nat.le_of_ble_eq_true rfl⟩ ⟨Nat.le_of_ble_eq_true rfl, Nat.le_of_ble_eq_true rfl⟩ dL_law_606 ?_
  refine x_norm (st2 := [.int q2.1]) (kc2 := 157) (ks2 := 5325) rfl rfl rfl rfl rfl ?_
  refine x_pop C dL_law_609 rfl ?_
  refine x_goto C 767 dL_law_610 (by decide) ?_
  exact kend _ hS2
set_option maxRecDepth 20000 in
theorem lc_couldBe {p : Program} {l : Launch} {e : Env} {s : State} {m : MethodId} {below : List Frame} {meth : Method} {c : Code} {G : GT} {z b L : Nat} {xs : Nat → Int32} {w : Mem} {i : Int32} (C : Cx p s m #[Value.ref b] c G RL cL_law 4 z) (hX : va_X b L xs s s.heap) (hbl : b < s.heap.size) (hbz : b < z) (hL : L ≤ 1536) (hi0 : 0 ≤ i.toInt) (hi : i.toInt + 3 ≤ L) (hS : Sim w) (kend : ∀ w2 : Mem, Sim w2 → Xw p l e room_1 s m #[Value.ref b] below meth c G z 4 (lw_Z below #[Value.ref b] s) 767 [(3, .int i), (2, .ref (z + 134)), (1, .ref (z + 0)), (0, .ref b)] [] (hp G z w2) 157 157 5325) : Xw p l e room_1 s m #[Value.ref b] below meth c G z 4 (lw_Z below #[Value.ref b] s) 613 [(3, .int i), (2, .ref (z + 134)), (1, .ref (z + 0)), (0, .ref b)] [] (hp G z w) 157 157 5325 := by
  obtain ⟨q1, hq1, q2, hq2, hS2, hEq⟩ := op_couldBe hS
  refine x_aload_n C 2 dL_law_613 rfl rfl ?_
  refine x_callV C cl_X9_couldBe kmL_92 (ci := 8) (b := 0) (As := []) (rest := []) rfl (hp_of ly_0) (tf_X9_couldBe w q1 hq1) rfl rfl (Nat.le_of_ble_eq_true rfl) ⟨Nat.le_of_ble_eq_true rfl, Nat.le_of_ble_eq_true rfl⟩ ⟨Nat.le_of_ble_eq_true rfl, Nat.le_of_ble_eq_true rfl⟩ dL_law_614 ?_
  refine x_norm (st2 := [.int q1]) (kc2 := 157) (ks2 := 5325) rfl rfl rfl rfl rfl ?_
  refine x_pop C dL_law_617 rfl ?_
  refine x_aload_n C 1 dL_law_618 rfl rfl ?_
  refine x_callV C cl_X10_couldBe kmL_95 (ci := 9) (b := 134) (As := []) (rest := []) rfl (hp_of ly_134) (tf_X10_couldBe w q2 hq2) rfl rfl (Nat.le_of_ble_eq_true rfl) ⟨Nat.le_of_ble_eq_true rfl, Nat.le_of_ble_eq_true rfl⟩ ⟨Nat.le_of_ble_eq_true rfl, Nat.le_of_ble_eq_true rfl⟩ dL_law_619 ?_
  refine x_norm (st2 := [.int q2]) (kc2 := 157) (ks2 := 5325) rfl rfl rfl rfl rfl ?_
  refine x_pop C dL_law_622 rfl ?_
  refine x_goto C 767 dL_law_623 (by decide) ?_
  exact kend _ hS2
set_option maxRecDepth 20000 in
theorem lc_ask {p : Program} {l : Launch} {e : Env} {s : State} {m : MethodId} {below : List Frame} {meth : Method} {c : Code} {G : GT} {z b L : Nat} {xs : Nat → Int32} {w : Mem} {i : Int32} (C : Cx p s m #[Value.ref b] c G RL cL_law 4 z) (hX : va_X b L xs s s.heap) (hbl : b < s.heap.size) (hbz : b < z) (hL : L ≤ 1536) (hi0 : 0 ≤ i.toInt) (hi : i.toInt + 3 ≤ L) (hS : Sim w) (kend : ∀ w2 : Mem, Sim w2 → Xw p l e room_1 s m #[Value.ref b] below meth c G z 4 (lw_Z below #[Value.ref b] s) 767 [(3, .int i), (2, .ref (z + 134)), (1, .ref (z + 0)), (0, .ref b)] [] (hp G z w2) 157 157 5325) : Xw p l e room_1 s m #[Value.ref b] below meth c G z 4 (lw_Z below #[Value.ref b] s) 626 [(3, .int i), (2, .ref (z + 134)), (1, .ref (z + 0)), (0, .ref b)] [] (hp G z w) 157 157 5325 := by
  obtain ⟨q1, hq1, q2, hq2, hS2, hEq⟩ := op_ask hS
  refine x_aload_n C 2 dL_law_626 rfl rfl ?_
  refine x_callV C cl_X9_ask kmL_96 (ci := 8) (b := 0) (As := []) (rest := []) rfl (hp_of ly_0) (tf_X9_ask w q1 hq1) rfl rfl (Nat.le_of_ble_eq_true rfl) ⟨Nat.le_of_ble_eq_true rfl, Nat.le_of_ble_eq_true rfl⟩ ⟨Nat.le_of_ble_eq_true rfl, Nat.le_of_ble_eq_true rfl⟩ dL_law_627 ?_
  refine x_norm (st2 := [.int q1]) (kc2 := 157) (ks2 := 5325) rfl rfl rfl rfl rfl ?_
  refine x_aload_n C 1 dL_law_630 rfl rfl ?_
  refine x_callV C cl_X10_ask kmL_99 (ci := 9) (b := 134) (As := []) (rest := [.int q1]) rfl (hp_of ly_134) (tf_X10_ask w q2 hq2) rfl rfl (Nat.le_of_ble_eq_true rfl) ⟨Nat.le_of_ble_eq_true rfl, Nat.le_of_ble_eq_true rfl⟩ ⟨Nat.le_of_ble_eq_true rfl, Nat.le_of_ble_eq_true rfl⟩ dL_law_631 ?_
  refine x_norm (st2 := [.int q2, .int q1]) (kc2 := 157) (ks2 := 5325) rfl rfl rfl rfl rfl ?_
  refine x_icmp_eq_t C 767 dL_law_634 (by decide) hEq ?_
  exact kend _ hS2
set_option maxRecDepth 20000 in
theorem lc_write {p : Program} {l : Launch} {e : Env} {s : State} {m : MethodId} {below : List Frame} {meth : Method} {c : Code} {G : GT} {z b L : Nat} {xs : Nat → Int32} {w : Mem} {i : Int32} (C : Cx p s m #[Value.ref b] c G RL cL_law 4 z) (hX : va_X b L xs s s.heap) (hbl : b < s.heap.size) (hbz : b < z) (hL : L ≤ 1536) (hi0 : 0 ≤ i.toInt) (hi : i.toInt + 3 ≤ L) (hS : Sim w) (kend : ∀ w2 : Mem, Sim w2 → Xw p l e room_1 s m #[Value.ref b] below meth c G z 4 (lw_Z below #[Value.ref b] s) 767 [(3, .int i), (2, .ref (z + 134)), (1, .ref (z + 0)), (0, .ref b)] [] (hp G z w2) 157 157 5325) : Xw p l e room_1 s m #[Value.ref b] below meth c G z 4 (lw_Z below #[Value.ref b] s) 639 [(3, .int i), (2, .ref (z + 134)), (1, .ref (z + 0)), (0, .ref b)] [] (hp G z w) 157 157 5325 := by
  have lva : (1 : Int32).toInt = 1 := by decide
  have xva : (i + (1 : Int32)).toInt = i.toInt + 1 := i_addk lva (by omega) (by omega)
  obtain ⟨va, eva⟩ : ∃ q : Int32, xs (i + (1 : Int32)).toNatClampNeg = q := ⟨_, rfl⟩
  have lvb : (2 : Int32).toInt = 2 := by decide
  have xvb : (i + (2 : Int32)).toInt = i.toInt + 2 := i_addk lvb (by omega) (by omega)
  obtain ⟨vb, evb⟩ : ∃ q : Int32, xs (i + (2 : Int32)).toNatClampNeg = q := ⟨_, rfl⟩
  obtain ⟨q1, hq1, q2, hq2, hS2, hEq⟩ := op_write hS va vb
  refine x_aload_n C 2 dL_law_639 rfl rfl ?_
  refine x_aload_n C 3 dL_law_640 rfl rfl ?_
  refine x_iload_n C 0 dL_law_641 rfl rfl ?_
  refine x_iconst (v := (1 : Int32)) C dL_law_642 (by decide) ?_
  refine x_iadd C dL_law_643 ?_
  refine x_sld (v := va) C (i + (1 : Int32)).toNatClampNeg hX hbl hbz (i_in (by omega) (by omega)) rfl eva dL_law_644 ?_
  refine x_aload_n C 3 dL_law_645 rfl rfl ?_
  refine x_iload_n C 0 dL_law_646 rfl rfl ?_
  refine x_iconst (v := (2 : Int32)) C dL_law_647 (by decide) ?_
  refine x_iadd C dL_law_648 ?_
  refine x_sld (v := vb) C (i + (2 : Int32)).toNatClampNeg hX hbl hbz (i_in (by omega) (by omega)) rfl evb dL_law_649 ?_
  refine x_callV C cl_X9_write kmL_100 (ci := 8) (b := 0) (As := [.int va, .int vb]) (rest := []) rfl (hp_of ly_0) (tf_X9_write va vb w q1 hq1) rfl rfl (Nat.le_of_ble_eq_true rfl) ⟨Nat.le_of_ble_eq_true rfl, Nat.le_of_ble_eq_true rfl⟩ ⟨Nat.le_of_ble_eq_true rfl, Nat.le_of_ble_eq_true rfl⟩ dL_law_650 ?_
  refine x_norm (st2 := [.int q1.1]) (kc2 := 157) (ks2 := 5325) rfl rfl rfl rfl rfl ?_
  refine x_pop C dL_law_653 rfl ?_
  refine x_aload_n C 1 dL_law_654 rfl rfl ?_
  refine x_aload_n C 3 dL_law_655 rfl rfl ?_
  refine x_iload_n C 0 dL_law_656 rfl rfl ?_
  refine x_iconst (v := (1 : Int32)) C dL_law_657 (by decide) ?_
  refine x_iadd C dL_law_658 ?_
  refine x_sld (v := va) C (i + (1 : Int32)).toNatClampNeg hX hbl hbz (i_in (by omega) (by omega)) rfl eva dL_law_659 ?_
  refine x_aload_n C 3 dL_law_660 rfl rfl ?_
  refine x_iload_n C 0 dL_law_661 rfl rfl ?_
  refine x_iconst (v := (2 : Int32)) C dL_law_662 (by decide) ?_
  refine x_iadd C dL_law_663 ?_
  refine x_sld (v := vb) C (i + (2 : Int32)).toNatClampNeg hX hbl hbz (i_in (by omega) (by omega)) rfl evb dL_law_664 ?_
  refine x_callV C cl_X10_write kmL_103 (ci := 9) (b := 134) (As := [.int va, .int vb]) (rest := []) rfl (hp_of ly_134) (tf_X10_write va vb q1.2 q2 hq2) rfl rfl (Nat.le_of_ble_eq_true rfl) ⟨Nat.le_of_ble_eq_true rfl, Nat.le_of_ble_eq_true rfl⟩ ⟨Nat.le_of_ble_eq_true rfl, Nat.le_of_ble_eq_true rfl⟩ dL_law_665 ?_
  refine x_norm (st2 := [.int q2.1]) (kc2 := 157) (ks2 := 5325) rfl rfl rfl rfl rfl ?_
  refine x_pop C dL_law_668 rfl ?_
  refine x_goto C 767 dL_law_669 (by decide) ?_
  exact kend _ hS2
set_option maxRecDepth 20000 in
theorem lc_judge {p : Program} {l : Launch} {e : Env} {s : State} {m : MethodId} {below : List Frame} {meth : Method} {c : Code} {G : GT} {z b L : Nat} {xs : Nat → Int32} {w : Mem} {i : Int32} (C : Cx p s m #[Value.ref b] c G RL cL_law 4 z) (hX : va_X b L xs s s.heap) (hbl : b < s.heap.size) (hbz : b < z) (hL : L ≤ 1536) (hi0 : 0 ≤ i.toInt) (hi : i.toInt + 3 ≤ L) (hS : Sim w) (kend : ∀ w2 : Mem, Sim w2 → Xw p l e room_1 s m #[Value.ref b] below meth c G z 4 (lw_Z below #[Value.ref b] s) 767 [(3, .int i), (2, .ref (z + 134)), (1, .ref (z + 0)), (0, .ref b)] [] (hp G z w2) 157 157 5325) : Xw p l e room_1 s m #[Value.ref b] below meth c G z 4 (lw_Z below #[Value.ref b] s) 672 [(3, .int i), (2, .ref (z + 134)), (1, .ref (z + 0)), (0, .ref b)] [] (hp G z w) 157 157 5325 := by
  obtain ⟨q1, hq1, q2, hq2, hS2, hEq⟩ := op_judge hS
  refine x_aload_n C 2 dL_law_672 rfl rfl ?_
  refine x_callV C cl_X9_judge kmL_104 (ci := 8) (b := 0) (As := []) (rest := []) rfl (hp_of ly_0) (tf_X9_judge w q1 hq1) rfl rfl (Nat.le_of_ble_eq_true rfl) ⟨Nat.le_of_ble_eq_true rfl, Nat.le_of_ble_eq_true rfl⟩ ⟨Nat.le_of_ble_eq_true rfl, Nat.le_of_ble_eq_true rfl⟩ dL_law_673 ?_
  refine x_norm (st2 := [.int q1]) (kc2 := 157) (ks2 := 5325) rfl rfl rfl rfl rfl ?_
  refine x_pop C dL_law_676 rfl ?_
  refine x_aload_n C 1 dL_law_677 rfl rfl ?_
  refine x_callV C cl_X10_judge kmL_107 (ci := 9) (b := 134) (As := []) (rest := []) rfl (hp_of ly_134) (tf_X10_judge w q2 hq2) rfl rfl (Nat.le_of_ble_eq_true rfl) ⟨Nat.le_of_ble_eq_true rfl, Nat.le_of_ble_eq_true rfl⟩ ⟨Nat.le_of_ble_eq_true rfl, Nat.le_of_ble_eq_true rfl⟩ dL_law_678 ?_
  refine x_norm (st2 := [.int q2]) (kc2 := 157) (ks2 := 5325) rfl rfl rfl rfl rfl ?_
  refine x_pop C dL_law_681 rfl ?_
  refine x_goto C 767 dL_law_682 (by decide) ?_
  exact kend _ hS2
set_option maxRecDepth 20000 in
theorem lc_tear {p : Program} {l : Launch} {e : Env} {s : State} {m : MethodId} {below : List Frame} {meth : Method} {c : Code} {G : GT} {z b L : Nat} {xs : Nat → Int32} {w : Mem} {i : Int32} (C : Cx p s m #[Value.ref b] c G RL cL_law 4 z) (hX : va_X b L xs s s.heap) (hbl : b < s.heap.size) (hbz : b < z) (hL : L ≤ 1536) (hi0 : 0 ≤ i.toInt) (hi : i.toInt + 3 ≤ L) (hS : Sim w) (kend : ∀ w2 : Mem, Sim w2 → Xw p l e room_1 s m #[Value.ref b] below meth c G z 4 (lw_Z below #[Value.ref b] s) 767 [(3, .int i), (2, .ref (z + 134)), (1, .ref (z + 0)), (0, .ref b)] [] (hp G z w2) 157 157 5325) : Xw p l e room_1 s m #[Value.ref b] below meth c G z 4 (lw_Z below #[Value.ref b] s) 685 [(3, .int i), (2, .ref (z + 134)), (1, .ref (z + 0)), (0, .ref b)] [] (hp G z w) 157 157 5325 := by
  obtain ⟨q1, hq1, q2, hq2, hS2, hEq⟩ := op_tear hS
  refine x_aload_n C 2 dL_law_685 rfl rfl ?_
  refine x_callV C cl_X9_tear kmL_108 (ci := 8) (b := 0) (As := []) (rest := []) rfl (hp_of ly_0) (tf_X9_tear w q1 hq1) rfl rfl (Nat.le_of_ble_eq_true rfl) ⟨Nat.le_of_ble_eq_true rfl, Nat.le_of_ble_eq_true rfl⟩ ⟨Nat.le_of_ble_eq_true rfl, Nat.le_of_ble_eq_true rfl⟩ dL_law_686 ?_
  refine x_norm (st2 := [.int q1.1]) (kc2 := 157) (ks2 := 5325) rfl rfl rfl rfl rfl ?_
  refine x_pop C dL_law_689 rfl ?_
  refine x_aload_n C 1 dL_law_690 rfl rfl ?_
  refine x_callV C cl_X10_tear kmL_111 (ci := 9) (b := 134) (As := []) (rest := []) rfl (hp_of ly_134) (tf_X10_tear q1.2 q2 hq2) rfl rfl (Nat.le_of_ble_eq_true rfl) ⟨Nat.le_of_ble_eq_true rfl, Nat.le_of_ble_eq_true rfl⟩ ⟨Nat.le_of_ble_eq_true rfl, Nat.le_of_ble_eq_true rfl⟩ dL_law_691 ?_
  refine x_norm (st2 := [.int q2.1]) (kc2 := 157) (ks2 := 5325) rfl rfl rfl rfl rfl ?_
  refine x_pop C dL_law_694 rfl ?_
  refine x_goto C 767 dL_law_695 (by decide) ?_
  exact kend _ hS2
set_option maxRecDepth 20000 in
theorem lc_seed {p : Program} {l : Launch} {e : Env} {s : State} {m : MethodId} {below : List Frame} {meth : Method} {c : Code} {G : GT} {z b L : Nat} {xs : Nat → Int32} {w : Mem} {i : Int32} (C : Cx p s m #[Value.ref b] c G RL cL_law 4 z) (hX : va_X b L xs s s.heap) (hbl : b < s.heap.size) (hbz : b < z) (hL : L ≤ 1536) (hi0 : 0 ≤ i.toInt) (hi : i.toInt + 3 ≤ L) (hS : Sim w) (kend : ∀ w2 : Mem, Sim w2 → Xw p l e room_1 s m #[Value.ref b] below meth c G z 4 (lw_Z below #[Value.ref b] s) 767 [(3, .int i), (2, .ref (z + 134)), (1, .ref (z + 0)), (0, .ref b)] [] (hp G z w2) 157 157 5325) : Xw p l e room_1 s m #[Value.ref b] below meth c G z 4 (lw_Z below #[Value.ref b] s) 698 [(3, .int i), (2, .ref (z + 134)), (1, .ref (z + 0)), (0, .ref b)] [] (hp G z w) 157 157 5325 := by
  have lva : (1 : Int32).toInt = 1 := by decide
  have xva : (i + (1 : Int32)).toInt = i.toInt + 1 := i_addk lva (by omega) (by omega)
  obtain ⟨va, eva⟩ : ∃ q : Int32, xs (i + (1 : Int32)).toNatClampNeg = q := ⟨_, rfl⟩
  obtain ⟨q1, hq1, q2, hq2, hS2, hEq⟩ := op_seed hS va
  refine x_aload_n C 2 dL_law_698 rfl rfl ?_
  refine x_aload_n C 3 dL_law_699 rfl rfl ?_
  refine x_iload_n C 0 dL_law_700 rfl rfl ?_
  refine x_iconst (v := (1 : Int32)) C dL_law_701 (by decide) ?_
  refine x_iadd C dL_law_702 ?_
  refine x_sld (v := va) C (i + (1 : Int32)).toNatClampNeg hX hbl hbz (i_in (by omega) (by omega)) rfl eva dL_law_703 ?_
  refine x_callV C cl_X9_seed kmL_112 (ci := 8) (b := 0) (As := [.int va]) (rest := []) rfl (hp_of ly_0) (tf_X9_seed va w q1 hq1) rfl rfl (Nat.le_of_ble_eq_true rfl) ⟨Nat.le_of_ble_eq_true rfl, Nat.le_of_ble_eq_true rfl⟩ ⟨Nat.le_of_ble_eq_true rfl, Nat.le_of_ble_eq_true rfl⟩ dL_law_704 ?_
  refine x_norm (st2 := [.int q1.1]) (kc2 := 157) (ks2 := 5325) rfl rfl rfl rfl rfl ?_
  refine x_pop C dL_law_707 rfl ?_
  refine x_aload_n C 1 dL_law_708 rfl rfl ?_
  refine x_aload_n C 3 dL_law_709 rfl rfl ?_
  refine x_iload_n C 0 dL_law_710 rfl rfl ?_
  refine x_iconst (v := (1 : Int32)) C dL_law_711 (by decide) ?_
  refine x_iadd C dL_law_712 ?_
  refine x_sld (v := va) C (i + (1 : Int32)).toNatClampNeg hX hbl hbz (i_in (by omega) (by omega)) rfl eva dL_law_713 ?_
  refine x_callV C cl_X10_seed kmL_115 (ci := 9) (b := 134) (As := [.int va]) (rest := []) rfl (hp_of ly_134) (tf_X10_seed va q1.2 q2 hq2) rfl rfl (Nat.le_of_ble_eq_true rfl) ⟨Nat.le_of_ble_eq_true rfl, Nat.le_of_ble_eq_true rfl⟩ ⟨Nat.le_of_ble_eq_true rfl, Nat.le_of_ble_eq_true rfl⟩ dL_law_714 ?_
  refine x_norm (st2 := [.int q2.1]) (kc2 := 157) (ks2 := 5325) rfl rfl rfl rfl rfl ?_
  refine x_pop C dL_law_717 rfl ?_
  refine x_goto C 767 dL_law_718 (by decide) ?_
  exact kend _ hS2
set_option maxRecDepth 20000 in
theorem lc_keep {p : Program} {l : Launch} {e : Env} {s : State} {m : MethodId} {below : List Frame} {meth : Method} {c : Code} {G : GT} {z b L : Nat} {xs : Nat → Int32} {w : Mem} {i : Int32} (C : Cx p s m #[Value.ref b] c G RL cL_law 4 z) (hX : va_X b L xs s s.heap) (hbl : b < s.heap.size) (hbz : b < z) (hL : L ≤ 1536) (hi0 : 0 ≤ i.toInt) (hi : i.toInt + 3 ≤ L) (hS : Sim w) (kend : ∀ w2 : Mem, Sim w2 → Xw p l e room_1 s m #[Value.ref b] below meth c G z 4 (lw_Z below #[Value.ref b] s) 767 [(3, .int i), (2, .ref (z + 134)), (1, .ref (z + 0)), (0, .ref b)] [] (hp G z w2) 157 157 5325) : Xw p l e room_1 s m #[Value.ref b] below meth c G z 4 (lw_Z below #[Value.ref b] s) 721 [(3, .int i), (2, .ref (z + 134)), (1, .ref (z + 0)), (0, .ref b)] [] (hp G z w) 157 157 5325 := by
  have lva : (1 : Int32).toInt = 1 := by decide
  have xva : (i + (1 : Int32)).toInt = i.toInt + 1 := i_addk lva (by omega) (by omega)
  obtain ⟨va, eva⟩ : ∃ q : Int32, xs (i + (1 : Int32)).toNatClampNeg = q := ⟨_, rfl⟩
  obtain ⟨q1, hq1, q2, hq2, hS2, hEq⟩ := op_keep hS va
  refine x_aload_n C 2 dL_law_721 rfl rfl ?_
  refine x_aload_n C 3 dL_law_722 rfl rfl ?_
  refine x_iload_n C 0 dL_law_723 rfl rfl ?_
  refine x_iconst (v := (1 : Int32)) C dL_law_724 (by decide) ?_
  refine x_iadd C dL_law_725 ?_
  refine x_sld (v := va) C (i + (1 : Int32)).toNatClampNeg hX hbl hbz (i_in (by omega) (by omega)) rfl eva dL_law_726 ?_
  refine x_callV C cl_X9_keep kmL_116 (ci := 8) (b := 0) (As := [.int va]) (rest := []) rfl (hp_of ly_0) (tf_X9_keep va w q1 hq1) rfl rfl (Nat.le_of_ble_eq_true rfl) ⟨Nat.le_of_ble_eq_true rfl, Nat.le_of_ble_eq_true rfl⟩ ⟨Nat.le_of_ble_eq_true rfl, Nat.le_of_ble_eq_true rfl⟩ dL_law_727 ?_
  refine x_norm (st2 := [.int q1.1]) (kc2 := 157) (ks2 := 5325) rfl rfl rfl rfl rfl ?_
  refine x_pop C dL_law_730 rfl ?_
  refine x_aload_n C 1 dL_law_731 rfl rfl ?_
  refine x_aload_n C 3 dL_law_732 rfl rfl ?_
  refine x_iload_n C 0 dL_law_733 rfl rfl ?_
  refine x_iconst (v := (1 : Int32)) C dL_law_734 (by decide) ?_
  refine x_iadd C dL_law_735 ?_
  refine x_sld (v := va) C (i + (1 : Int32)).toNatClampNeg hX hbl hbz (i_in (by omega) (by omega)) rfl eva dL_law_736 ?_
  refine x_callV C cl_X10_keep kmL_119 (ci := 9) (b := 134) (As := [.int va]) (rest := []) rfl (hp_of ly_134) (tf_X10_keep va q1.2 q2 hq2) rfl rfl (Nat.le_of_ble_eq_true rfl) ⟨Nat.le_of_ble_eq_true rfl, Nat.le_of_ble_eq_true rfl⟩ ⟨Nat.le_of_ble_eq_true rfl, Nat.le_of_ble_eq_true rfl⟩ dL_law_737 ?_
  refine x_norm (st2 := [.int q2.1]) (kc2 := 157) (ks2 := 5325) rfl rfl rfl rfl rfl ?_
  refine x_pop C dL_law_740 rfl ?_
  refine x_goto C 767 dL_law_741 (by decide) ?_
  exact kend _ hS2
set_option maxRecDepth 20000 in
theorem lc_goBack {p : Program} {l : Launch} {e : Env} {s : State} {m : MethodId} {below : List Frame} {meth : Method} {c : Code} {G : GT} {z b L : Nat} {xs : Nat → Int32} {w : Mem} {i : Int32} (C : Cx p s m #[Value.ref b] c G RL cL_law 4 z) (hX : va_X b L xs s s.heap) (hbl : b < s.heap.size) (hbz : b < z) (hL : L ≤ 1536) (hi0 : 0 ≤ i.toInt) (hi : i.toInt + 3 ≤ L) (hS : Sim w) (kend : ∀ w2 : Mem, Sim w2 → Xw p l e room_1 s m #[Value.ref b] below meth c G z 4 (lw_Z below #[Value.ref b] s) 767 [(3, .int i), (2, .ref (z + 134)), (1, .ref (z + 0)), (0, .ref b)] [] (hp G z w2) 157 157 5325) : Xw p l e room_1 s m #[Value.ref b] below meth c G z 4 (lw_Z below #[Value.ref b] s) 744 [(3, .int i), (2, .ref (z + 134)), (1, .ref (z + 0)), (0, .ref b)] [] (hp G z w) 157 157 5325 := by
  have lva : (1 : Int32).toInt = 1 := by decide
  have xva : (i + (1 : Int32)).toInt = i.toInt + 1 := i_addk lva (by omega) (by omega)
  obtain ⟨va, eva⟩ : ∃ q : Int32, xs (i + (1 : Int32)).toNatClampNeg = q := ⟨_, rfl⟩
  obtain ⟨q1, hq1, q2, hq2, hS2, hEq⟩ := op_goBack hS va
  refine x_aload_n C 2 dL_law_744 rfl rfl ?_
  refine x_aload_n C 3 dL_law_745 rfl rfl ?_
  refine x_iload_n C 0 dL_law_746 rfl rfl ?_
  refine x_iconst (v := (1 : Int32)) C dL_law_747 (by decide) ?_
  refine x_iadd C dL_law_748 ?_
  refine x_sld (v := va) C (i + (1 : Int32)).toNatClampNeg hX hbl hbz (i_in (by omega) (by omega)) rfl eva dL_law_749 ?_
  refine x_callV C cl_X9_goBack kmL_120 (ci := 8) (b := 0) (As := [.int va]) (rest := []) rfl (hp_of ly_0) (tf_X9_goBack va w q1 hq1) rfl rfl (Nat.le_of_ble_eq_true rfl) ⟨Nat.le_of_ble_eq_true rfl, Nat.le_of_ble_eq_true rfl⟩ ⟨Nat.le_of_ble_eq_true rfl, Nat.le_of_ble_eq_true rfl⟩ dL_law_750 ?_
  refine x_norm (st2 := [.int q1.1]) (kc2 := 157) (ks2 := 5325) rfl rfl rfl rfl rfl ?_
  refine x_pop C dL_law_753 rfl ?_
  refine x_aload_n C 1 dL_law_754 rfl rfl ?_
  refine x_aload_n C 3 dL_law_755 rfl rfl ?_
  refine x_iload_n C 0 dL_law_756 rfl rfl ?_
  refine x_iconst (v := (1 : Int32)) C dL_law_757 (by decide) ?_
  refine x_iadd C dL_law_758 ?_
  refine x_sld (v := va) C (i + (1 : Int32)).toNatClampNeg hX hbl hbz (i_in (by omega) (by omega)) rfl eva dL_law_759 ?_
  refine x_callV C cl_X10_goBack kmL_123 (ci := 9) (b := 134) (As := [.int va]) (rest := []) rfl (hp_of ly_134) (tf_X10_goBack va q1.2 q2 hq2) rfl rfl (Nat.le_of_ble_eq_true rfl) ⟨Nat.le_of_ble_eq_true rfl, Nat.le_of_ble_eq_true rfl⟩ ⟨Nat.le_of_ble_eq_true rfl, Nat.le_of_ble_eq_true rfl⟩ dL_law_760 ?_
  refine x_norm (st2 := [.int q2.1]) (kc2 := 157) (ks2 := 5325) rfl rfl rfl rfl rfl ?_
  refine x_pop C dL_law_763 rfl ?_
  refine x_goto C 767 dL_law_764 (by decide) ?_
  exact kend _ hS2
