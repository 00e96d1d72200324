/-! CONTRACTS WHOSE OUTCOME IS SAID BY A PREDICATE -/
def Qp (G : GT) (z n : Nat) (Po : Option Value → HpT → Prop) : Array Value → State → Outcome → State → Prop := fun _ st oc t => (∃ (r : Option Value) (u : HpT), oc = .returned r ∧ Po r u ∧ Hd G z u n t.heap) ∧ va_F (zA z) st t
def Mp (G : GT) (l : Launch) (z : Nat) (y : MethodName) (cc : ByteArray) (nL : Nat) (ret : Option FieldType) (rm : Room) (av : List Value) (u : HpT) (n : Nat) (Po : Option Value → HpT → Prop) : Prop :=
  Met l y (wsY y cc nL ret) rm (va_Pc av (fun U => Hd G z u n U.heap ∧ Kx G U)) (Qp G z n Po) rm.cells rm.slots (zA z)
theorem mp_of {G : GT} {l : Launch} {z : Nat} {y : MethodName} {cc : ByteArray} {nL : Nat} {ret : Option FieldType} {rm : Room} {av : List Value} {u : HpT} {n : Nat} {Po : Option Value → HpT → Prop} (hy : plainName y.cls = true) (hlen : (lg_sl av).length ≤ nL)
    (body : ∀ (p : Program) (e : Env) (s : State) (m : MethodId) (below : List Frame) (meth : Method) (c : Code), Cx p s m av.toArray c G y.cls cc nL z → meth.sig.returnType = ret → meth.locks = false → meth.name = y.name →
      Xw p l e rm s m av.toArray below meth c G z nL (MQ below (Qp G z n Po) av.toArray s rm.cells rm.slots (zA z)) 0 (lv_args 0 av) [] u n 0 0) : Mp G l z y cc nL ret rm av u n Po := by
  refine Met.ofW (cc := cc) (maxL := nL) (ret := ret) hy rfl ?_
  intro p e s m args below meth c s₁ B hml hv
  obtain ⟨rfl, hH, hK⟩ := hv
  have hts := atoms_spec (ws := wsY y cc nL ret) B.pre
  rw [lg_entry_eq]
  exact body p e s m below meth c ⟨B.exec, B.bytes, hml, findClass_of_methodNamed B.named, fun w hw => hts w (List.mem_cons_of_mem _ hw), hK, by rw [hH.1]; omega⟩ B.returns B.notSynchronized (name_of_methodNamed B.named B.method).1 s.heap [] _ (lv_entry av hlen) hH va_S.rf
section XR4
variable {p : Program} {l : Launch} {e : Env} {R : Room} {s : State} {m : MethodId} {args : Array Value} {below : List Frame} {meth : Method} {c : Code} {G : GT} {z nL : Nat} {Z : State → Prop} {pc : Nat} {lo : List (Nat × Value)} {st : List Value} {u : HpT} {n kc ks : Nat} {own : String} {cc : ByteArray}
theorem x_runP {st0 rest : List Value} {Po : Option Value → HpT → Prop} {a : Array Value} (hr : ∀ (H : Heap) (locs : List Loc) (ls : Array Slot), lv_has ls nL lo → Hd G z u n H → va_S (zA z) s.heap H locs → va_Run p l e R s m args below meth c H locs kc ks 0 0 (F0 m pc ls st0) rest (Qp G z n Po a) (zA z))
    (kk : ∀ (r : Option Value) (u' : HpT), Po r u' → Xw p l e R s m args below meth c G z nL Z (pc + 3) lo (r.toList ++ rest) u' n kc ks) : Xw p l e R s m args below meth c G z nL Z pc lo st0 u n kc ks := by
  intro H locs ls hL hH hS T hT X
  obtain ⟨v, st₀, t, T', L, h0, X', hl2, e1, e2, ⟨⟨r, u', hv, hpo, hb⟩, hz, hk⟩, sg⟩ := hr H locs ls hL hH hS T hT X
  cases hv
  rw [h0] at hz hk
  obtain ⟨t2, a1, b1⟩ := kk v u' hpo T'.heap (locs ++ L) ls hL (by rw [e1]; exact hb)
    ⟨Nat.le_trans hS.1 (by rw [e1]; exact hz), fun q h1 h2 => by rw [e1, hk q (Nat.lt_of_lt_of_le h1 hS.1) h2]; exact hS.2.1 q h1 h2, fun q hq => by
      rcases List.mem_append.mp hq with h | h
      · exact hS.2.2 q h
      · exact hl2 q h⟩ T' rfl X'
  exact ⟨t2, sg t2 a1, b1⟩
theorem x_callVP (C : Cx p s m args c G own cc nL z) {y : MethodName} {bc : ByteArray} {mL k : Nat} {rt : Option FieldType} (hC : ClV y bc mL rt k) {index : Nat} (hw : Cond.methodLink own index y ∈ lw_good) {fr lc : Nat} {b ci : Nat} {T : u_T} {N : Nat} {fs : List Value} {As rest st0 : List Value} {Po : Option Value → HpT → Prop} (hcl : vwCl[ci]? = some (y.cls, T, N)) (hu : u b = some (.inr (ci, fs)))
    (hM : Mp G l z y bc mL rt { frames := fr, cells := 0, slots := 0, locals := lc } (.ref (z + b) :: As) u n Po) (hst : st0 = As.reverse ++ .ref (z + b) :: rest) (hlen : As.length = k) (hcat : (rest.map fun v => v.category).sum ≤ 8) (hR : fr + 1 ≤ R.frames ∧ 8 + (mL + 11) + lc ≤ R.locals) (hf : kc ≤ R.cells ∧ ks ≤ R.slots) (d : decode cc pc = .ok (.invokevirtual index, 3))
    (kk : ∀ (r : Option Value) (u' : HpT), Po r u' → Xw p l e R s m args below meth c G z nL Z (pc + 3) lo (r.toList ++ rest) u' n kc ks) : Xw p l e R s m args below meth c G z nL Z pc lo st0 u n kc ks := by
  subst hst
  refine x_runP (Po := Po) (a := (Value.ref (z + b) :: As).toArray) (fun H locs ls hL hH hS => ?_) kk
  have hts := C.2.2.2.2.1
  refine va_runV (mc := 0) (ms := 0) (C := y.cls) (As := As) (rest := rest) ⟨C.1, C.2.1, C.2.2.1, C.2.2.2.1, hts⟩ hM ⟨callB_of (ws' := lw_good) k hts (goodIn_good hC.1.1) rfl rfl rfl (hts _ hC.1.2.1) (hts _ hw) hC.1.2.2 hR, hts _ hC.2.1, hts _ hC.2.2⟩ ⟨pc_blind, ?_, fun U hU hW => ⟨rfl, by rw [hU]; exact hH, C.2.2.2.2.2.1.warm hW⟩⟩ rfl hlen hL.1 rfl (lv_room hcat) d hf
  exact va_recv C.2.2.2.2.2.1.1 (hH.one hu) hcl (q0 := 0) rfl
theorem x_callSP (C : Cx p s m args c G own cc nL z) {y : MethodName} {bc : ByteArray} {mL k : Nat} {rt : Option FieldType} (hC : ClS y bc mL rt k) {index : Nat} (hw : Cond.methodLink own index y ∈ lw_good) {fr lc : Nat} {As rest st0 : List Value} {Po : Option Value → HpT → Prop}
    (hM : Mp G l z y bc mL rt { frames := fr, cells := 0, slots := 0, locals := lc } As u n Po) (hst : st0 = As.reverse ++ rest) (hlen : As.length = k) (hcat : (rest.map fun v => v.category).sum ≤ 8) (hR : fr + 1 ≤ R.frames ∧ 8 + (mL + 11) + lc ≤ R.locals) (hf : kc ≤ R.cells ∧ ks ≤ R.slots) (d : decode cc pc = .ok (.invokestatic index, 3))
    (kk : ∀ (r : Option Value) (u' : HpT), Po r u' → Xw p l e R s m args below meth c G z nL Z (pc + 3) lo (r.toList ++ rest) u' n kc ks) : Xw p l e R s m args below meth c G z nL Z pc lo st0 u n kc ks := by
  subst hst
  refine x_runP (Po := Po) (a := As.toArray) (fun H locs ls hL hH hS => ?_) kk
  have hts := C.2.2.2.2.1
  exact va_runS (mc := 0) (ms := 0) (As := As) (rest := rest) ⟨C.1, C.2.1, C.2.2.1, C.2.2.2.1, hts⟩ hM ⟨callB_of (ws' := lw_good) k hts (goodIn_good hC.1.1) rfl rfl rfl (hts _ hC.1.2.1) (hts _ hw) hC.1.2.2 hR, hts _ hC.2⟩ ⟨pc_blind, fun U hU hW => ⟨rfl, by rw [hU]; exact hH, C.2.2.2.2.2.1.warm hW⟩⟩ rfl hlen hL.1 rfl (lv_room hcat) d hf
theorem x_callSNP (C : Cx p s m args c G own cc nL z) {y : MethodName} {bc : ByteArray} {mL k : Nat} {rt : Option FieldType} (hC : ClS y bc mL rt k) {index : Nat} {host : String} (hw : Cond.methodLinkNest own index y host ∈ lw_tbl) {fr lc : Nat} {As rest st0 : List Value} {Po : Option Value → HpT → Prop}
    (hM : Mp G l z y bc mL rt { frames := fr, cells := 0, slots := 0, locals := lc } As u n Po) (hst : st0 = As.reverse ++ rest) (hlen : As.length = k) (hcat : (rest.map fun v => v.category).sum ≤ 8) (hR : fr + 1 ≤ R.frames ∧ 8 + (mL + 11) + lc ≤ R.locals) (hf : kc ≤ R.cells ∧ ks ≤ R.slots) (d : decode cc pc = .ok (.invokestatic index, 3))
    (kk : ∀ (r : Option Value) (u' : HpT), Po r u' → Xw p l e R s m args below meth c G z nL Z (pc + 3) lo (r.toList ++ rest) u' n kc ks) : Xw p l e R s m args below meth c G z nL Z pc lo st0 u n kc ks := by
  subst hst
  refine x_runP (Po := Po) (a := As.toArray) (fun H locs ls hL hH hS => ?_) kk
  have hts := C.2.2.2.2.1
  exact va_runSN (mc := 0) (ms := 0) (As := As) (rest := rest) ⟨C.1, C.2.1, C.2.2.1, C.2.2.2.1, hts⟩ hM ⟨va_cnB (ws' := lw_good) k hts (goodIn_good hC.1.1) rfl rfl rfl (C.2.2.2.2.2.1.2.2.2 _ _ _ _ hw) (hts _ hC.1.2.1) hC.1.2.2 hR, hts _ hC.2, trivial⟩ ⟨pc_blind, fun U hU hW => ⟨rfl, by rw [hU]; exact hH, C.2.2.2.2.2.1.warm hW⟩⟩ rfl hlen hL.1 rfl (lv_room hcat) d hf
theorem x_iretP (C : Cx p s m args c G own cc nL z) {mc ms : Nat} {v : Int32} {Po : Option Value → HpT → Prop} (hr : meth.sig.returnType = some .int) (hlk : meth.locks = false) (h1 : kc ≤ mc) (h2 : ks ≤ ms) (d : decode cc pc = .ok (.ireturn, 1)) (hpo : Po (some (Value.int v)) u) : Xw p l e R s m args below meth c G z nL (MQ below (Qp G z n Po) args s mc ms (zA z)) pc lo [.int v] u n kc ks := by
  intro H locs ls hL hH hS
  refine W.widen h1 h2 ?_
  exact W.iret C.1 C.2.1 hr (fun t ht hW => ⟨⟨_, u, rfl, hpo, by rw [ht]; exact hH⟩, hS.F ht⟩) hS.2.2 d hlk
theorem x_zretP (C : Cx p s m args c G own cc nL z) {mc ms : Nat} {v : Int32} {Po : Option Value → HpT → Prop} (hr : meth.sig.returnType = some .boolean) (hlk : meth.locks = false) (h1 : kc ≤ mc) (h2 : ks ≤ ms) (d : decode cc pc = .ok (.ireturn, 1)) (hb : narrow .boolean (.int v) = .int v) (hpo : Po (some (Value.int v)) u) : Xw p l e R s m args below meth c G z nL (MQ below (Qp G z n Po) args s mc ms (zA z)) pc lo [.int v] u n kc ks := by
  intro H locs ls hL hH hS
  refine W.widen h1 h2 ?_
  exact W.zret C.1 C.2.1 hr hb (fun t ht hW => ⟨⟨_, u, rfl, hpo, by rw [ht]; exact hH⟩, hS.F ht⟩) hS.2.2 d hlk
theorem x_vretP (C : Cx p s m args c G own cc nL z) {mc ms : Nat} {Po : Option Value → HpT → Prop} (hr : meth.sig.returnType = none) (hlk : meth.locks = false) (h1 : kc ≤ mc) (h2 : ks ≤ ms) (d : decode cc pc = .ok (.return_, 1)) (hpo : Po none u) : Xw p l e R s m args below meth c G z nL (MQ below (Qp G z n Po) args s mc ms (zA z)) pc lo [] u n kc ks := by
  intro H locs ls hL hH hS
  refine W.widen h1 h2 ?_
  exact W.vret C.1 C.2.1 hr (fun t ht hW => ⟨⟨_, u, rfl, hpo, by rw [ht]; exact hH⟩, hS.F ht⟩) hS.2.2 d hlk
end XR4
