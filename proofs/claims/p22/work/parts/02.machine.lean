/-! THE MACHINE BY STATES: a heap is a function from places (counted from z) to cells; X says that the walk goes well from here on; Mt is a contract with its outcome given -/
abbrev HpT : Type := Nat → Option va_E
def hup (u : HpT) (k : Nat) (q : va_E) : HpT := fun j => if j = k then some q else u j
theorem hup_s (u : HpT) (k : Nat) (q : va_E) : hup u k q k = some q := by simp [hup]
theorem hup_n {u : HpT} {k j : Nat} {q : va_E} (h : j ≠ k) : hup u k q j = u j := by simp [hup, h]
theorem hup_n' {u : HpT} {k j : Nat} {q : va_E} {w : Option va_E} (h : j ≠ k) (hw : u j = w) : hup u k q j = w := by rw [hup_n h]; exact hw
theorem hup_hup (u : HpT) (k : Nat) (q q2 : va_E) : hup (hup u k q) k q2 = hup u k q2 := by
  funext j
  by_cases h : j = k
  · simp [hup, h]
  · simp [hup, h]
theorem hup_id {u : HpT} {k : Nat} {q : va_E} (h : u k = some q) : hup u k q = u := by
  funext j
  by_cases hj : j = k
  · subst hj
    rw [hup_s, h]
  · rw [hup_n hj]
theorem hup_comm {u : HpT} {k j : Nat} {q q2 : va_E} (h : k ≠ j) : hup (hup u k q) j q2 = hup (hup u j q2) k q := by
  funext i
  by_cases h1 : i = j
  · subst h1
    rw [hup_s, hup_n (Ne.symm h), hup_s]
  · rw [hup_n h1]
    by_cases h2 : i = k
    · subst h2
      rw [hup_s, hup_s]
    · rw [hup_n h2, hup_n h2, hup_n h1]
abbrev GT : Type := va_G × (Nat → ClassId)
abbrev gtys (G : GT) : List (ClassId × FieldType) := [(G.2 0, .int), (G.2 1, .boolean), (G.2 2, .long), (G.2 3, .object RX3), (G.2 4, .object RX4)]
def Kx (G : GT) (U : State) : Prop := va_K G.1 vwCl (gtys G) U ∧ va_AO RX3 U ∧ va_AO RX4 U ∧ ∀ (a : String) (i : Nat) (y : MethodName) (h : String), Cond.methodLinkNest a i y h ∈ lw_tbl → va_Nw (.methodLinkNest a i y h) U
theorem Kx.warm {G : GT} {s U : State} (hW : s.WarmedH U.vm) (h : Kx G s) : Kx G U := ⟨va_K.moved hW.alike h.1, va_AO.moved hW.alike h.2.1, va_AO.moved hW.alike h.2.2.1, fun a i y q hm => va_Nw.warmM hW (h.2.2.2 a i y q hm)⟩
theorem Kx.calling {G : GT} {U : State} {g : JFrame} {mk : MethodId} {a : Array Value} (h : Kx G U) : Kx G (U.calling g mk a) := ⟨va_K.moved (u := U) (U := U.calling g mk a) (Vm.Alike.refl U.vm) h.1, va_AO.moved (u := U) (U := U.calling g mk a) (Vm.Alike.refl U.vm) h.2.1, va_AO.moved (u := U) (U := U.calling g mk a) (Vm.Alike.refl U.vm) h.2.2.1, fun b i y q hm => va_Nw.same rfl rfl (h.2.2.2 b i y q hm)⟩
def lw_good : List Cond := lw_tbl.filter goodWord
theorem mem_good {w : Cond} (i : Nat) (h : lw_tbl[i]? = some w) (hg : goodWord w = true) : w ∈ lw_good := List.mem_filter.mpr ⟨List.mem_of_getElem? h, hg⟩
theorem in_good {ws : List Cond} (h : ∀ w ∈ ws, w ∈ lw_tbl) (hg : ws.all goodWord = true) : ∀ w ∈ ws, w ∈ lw_good := fun w hw => List.mem_filter.mpr ⟨h w hw, List.all_eq_true.mp hg w hw⟩
theorem goodIn_good {y : MethodName} {cc : ByteArray} {nL : Nat} {ret : Option FieldType} (h : Cond.code y cc nL ret ∈ lw_good) : GoodIn lw_good (Cond.code y cc nL ret :: lw_good) := by
  intro w hw
  rcases List.mem_cons.mp hw with rfl | hw
  · exact ⟨h, good_of_word (List.mem_filter.mp h).2⟩
  · exact ⟨hw, good_of_word (List.mem_filter.mp hw).2⟩
def Hd (G : GT) (z : Nat) (u : HpT) (n : Nat) (H : Heap) : Prop := H.size = z + n ∧ ∀ (k : Nat) (q : va_E), u k = some q → va_at G.1 vwCl (z + k, q) H
def zA (z : Nat) : Nat → Prop := fun q => z ≤ q
/-- an array of ints, of booleans, of longs, of references -/
abbrev aI (G : GT) (n : Nat) (f : Nat → Int32) : va_E := .inl (G.2 0, n, .inl f)
abbrev aZ (G : GT) (n : Nat) (f : Nat → Int32) : va_E := .inl (G.2 1, n, .inl f)
abbrev aL (G : GT) (n : Nat) (f : Nat → Int64) : va_E := .inl (G.2 2, n, .inr (.inl f))
abbrev aE (G : GT) (n : Nat) (f : Nat → Option Nat) : va_E := .inl (G.2 3, n, .inr (.inr (.inr (.inr f))))
abbrev aM (G : GT) (n : Nat) (f : Nat → Option Nat) : va_E := .inl (G.2 4, n, .inr (.inr (.inr (.inr f))))
def Cx (p : Program) (s : State) (m : MethodId) (args : Array Value) (c : Code) (G : GT) (own : String) (cc : ByteArray) (nL z : Nat) : Prop :=
  p.tables.exec = Jvm.exec ∧ c.code = cc ∧ c.maxLocals = nL ∧ s.vm.findClass own = some m.cls ∧ (∀ w ∈ lw_good, w.before args s = true) ∧ Kx G s ∧ z ≤ s.heap.size
def Xw (p : Program) (l : Launch) (e : Env) (R : Room) (s : State) (m : MethodId) (args : Array Value) (below : List Frame) (meth : Method) (c : Code) (G : GT) (z nL : Nat) (Z : State → Prop) (pc : Nat) (lo : List (Nat × Value)) (st : List Value) (u : HpT) (n kc ks : Nat) : Prop :=
  ∀ (H : Heap) (locs : List Loc) (ls : Array Slot), lv_has ls nL lo → Hd G z u n H → va_S (zA z) s.heap H locs → W p l e R s m args below meth c H locs kc ks Z (F0 m pc ls st)
def wsY (y : MethodName) (cc : ByteArray) (nL : Nat) (ret : Option FieldType) : List Cond := Cond.code y cc nL ret :: lw_good
def Qm (G : GT) (z : Nat) (r : Option Value) (u : HpT) (n : Nat) : Array Value → State → Outcome → State → Prop := fun _ st oc t => (oc = .returned r ∧ Hd G z u n t.heap) ∧ va_F (zA z) st t
def Mt (G : GT) (l : Launch) (z : Nat) (y : MethodName) (cc : ByteArray) (nL : Nat) (ret : Option FieldType) (rm : Room) (av : List Value) (u : HpT) (n : Nat) (r : Option Value) (u' : HpT) (n' : Nat) : Prop :=
  Met l y (wsY y cc nL ret) rm (va_Pc av (fun U => Hd G z u n U.heap ∧ Kx G U)) (Qm G z r u' n') rm.cells rm.slots (zA z)
theorem Hd.upd {G : GT} {z n a : Nat} {u : HpT} {q : va_E} {H H1 : Heap} (h : Hd G z u n H) (hz : H1.size = H.size) (ho : ∀ x : Nat, x ≠ z + a → H1[x]? = H[x]?) (hq : va_at G.1 vwCl (z + a, q) H1) : Hd G z (hup u a q) n H1 := by
  refine ⟨hz.trans h.1, fun k e hk => ?_⟩
  by_cases hka : k = a
  · subst hka
    rw [hup_s] at hk
    cases hk
    exact hq
  · rw [hup_n hka] at hk
    exact (h.2 k e hk).kept (ho _ (by show z + k ≠ z + a; omega))
theorem Hd.one {G : GT} {z n a : Nat} {u : HpT} {q : va_E} {H : Heap} (h : Hd G z u n H) (hq : u a = some q) : va_P G.1 vwCl [(z + a, q)] H := by
  intro k x hx
  have hz : k < 1 := (List.getElem?_eq_some_iff.mp hx).1
  rw [show k = 0 by omega] at hx
  cases hx
  exact h.2 a q hq
theorem mt_of {G : GT} {l : Launch} {z : Nat} {y : MethodName} {cc : ByteArray} {nL : Nat} {ret : Option FieldType} {rm : Room} {av : List Value} {u : HpT} {n : Nat} {r : Option Value} {u' : HpT} {n' : Nat} (hy : plainName y.cls = true) (hlen : (lg_sl av).length ≤ nL)
    (body : ∀ (p : Program) (e : Env) (s : State) (m : MethodId) (below : List Frame) (meth : Method) (c : Code), Cx p s m av.toArray c G y.cls cc nL z → meth.sig.returnType = ret → meth.locks = false → meth.name = y.name →
      Xw p l e rm s m av.toArray below meth c G z nL (MQ below (Qm G z r u' n') av.toArray s rm.cells rm.slots (zA z)) 0 (lv_args 0 av) [] u n 0 0) : Mt G l z y cc nL ret rm av u n r u' n' := by
  refine Met.ofW (cc := cc) (maxL := nL) (ret := ret) hy rfl ?_
  intro p e s m args below meth c s₁ B hml hv
  obtain ⟨rfl, hH, hK⟩ := hv
  have hts := atoms_spec (ws := wsY y cc nL ret) B.pre
  rw [lg_entry_eq]
  exact body p e s m below meth c ⟨B.exec, B.bytes, hml, findClass_of_methodNamed B.named, fun w hw => hts w (List.mem_cons_of_mem _ hw), hK, by rw [hH.1]; omega⟩ B.returns B.notSynchronized (name_of_methodNamed B.named B.method).1 s.heap [] _ (lv_entry av hlen) hH va_S.rf
section XR
variable {p : Program} {l : Launch} {e : Env} {R : Room} {s : State} {m : MethodId} {args : Array Value} {below : List Frame} {meth : Method} {c : Code} {G : GT} {z nL : Nat} {Z : State → Prop} {pc : Nat} {lo : List (Nat × Value)} {st : List Value} {u : HpT} {n kc ks : Nat} {own : String} {cc : ByteArray}
theorem x_iadd (C : Cx p s m args c G own cc nL z) {x y : Int32} (d : decode cc pc = .ok (.iadd, 1)) (k : Xw p l e R s m args below meth c G z nL Z (pc + 1) lo (.int (x + y) :: st) u n kc ks) : Xw p l e R s m args below meth c G z nL Z pc lo (.int y :: .int x :: st) u n kc ks := fun H locs ls hl hH hS => lv_iadd C.1 C.2.1 d (k H locs ls hl hH hS)
theorem x_isub (C : Cx p s m args c G own cc nL z) {x y : Int32} (d : decode cc pc = .ok (.isub, 1)) (k : Xw p l e R s m args below meth c G z nL Z (pc + 1) lo (.int (x - y) :: st) u n kc ks) : Xw p l e R s m args below meth c G z nL Z pc lo (.int y :: .int x :: st) u n kc ks := fun H locs ls hl hH hS => lv_isub C.1 C.2.1 d (k H locs ls hl hH hS)
theorem x_imul (C : Cx p s m args c G own cc nL z) {x y : Int32} (d : decode cc pc = .ok (.imul, 1)) (k : Xw p l e R s m args below meth c G z nL Z (pc + 1) lo (.int (x * y) :: st) u n kc ks) : Xw p l e R s m args below meth c G z nL Z pc lo (.int y :: .int x :: st) u n kc ks := fun H locs ls hl hH hS => lv_imul C.1 C.2.1 d (k H locs ls hl hH hS)
theorem x_iand (C : Cx p s m args c G own cc nL z) {x y : Int32} (d : decode cc pc = .ok (.iand, 1)) (k : Xw p l e R s m args below meth c G z nL Z (pc + 1) lo (.int (x &&& y) :: st) u n kc ks) : Xw p l e R s m args below meth c G z nL Z pc lo (.int y :: .int x :: st) u n kc ks := fun H locs ls hl hH hS => lv_iand C.1 C.2.1 d (k H locs ls hl hH hS)
theorem x_ior (C : Cx p s m args c G own cc nL z) {x y : Int32} (d : decode cc pc = .ok (.ior, 1)) (k : Xw p l e R s m args below meth c G z nL Z (pc + 1) lo (.int (x ||| y) :: st) u n kc ks) : Xw p l e R s m args below meth c G z nL Z pc lo (.int y :: .int x :: st) u n kc ks := fun H locs ls hl hH hS => lv_ior C.1 C.2.1 d (k H locs ls hl hH hS)
theorem x_ixor (C : Cx p s m args c G own cc nL z) {x y : Int32} (d : decode cc pc = .ok (.ixor, 1)) (k : Xw p l e R s m args below meth c G z nL Z (pc + 1) lo (.int (x ^^^ y) :: st) u n kc ks) : Xw p l e R s m args below meth c G z nL Z pc lo (.int y :: .int x :: st) u n kc ks := fun H locs ls hl hH hS => lv_ixor C.1 C.2.1 d (k H locs ls hl hH hS)
theorem x_ishl (C : Cx p s m args c G own cc nL z) {x y : Int32} (d : decode cc pc = .ok (.ishl, 1)) (k : Xw p l e R s m args below meth c G z nL Z (pc + 1) lo (.int (x <<< (y &&& 31)) :: st) u n kc ks) : Xw p l e R s m args below meth c G z nL Z pc lo (.int y :: .int x :: st) u n kc ks := fun H locs ls hl hH hS => lv_ishl C.1 C.2.1 d (k H locs ls hl hH hS)
theorem x_ishr (C : Cx p s m args c G own cc nL z) {x y : Int32} (d : decode cc pc = .ok (.ishr, 1)) (k : Xw p l e R s m args below meth c G z nL Z (pc + 1) lo (.int (x >>> (y &&& 31)) :: st) u n kc ks) : Xw p l e R s m args below meth c G z nL Z pc lo (.int y :: .int x :: st) u n kc ks := fun H locs ls hl hH hS => lv_ishr C.1 C.2.1 d (k H locs ls hl hH hS)
theorem x_iushr (C : Cx p s m args c G own cc nL z) {x y : Int32} (d : decode cc pc = .ok (.iushr, 1)) (k : Xw p l e R s m args below meth c G z nL Z (pc + 1) lo (.int ((x.toUInt32 >>> (y.toUInt32 &&& Int32.toUInt32 31)).toInt32) :: st) u n kc ks) : Xw p l e R s m args below meth c G z nL Z pc lo (.int y :: .int x :: st) u n kc ks := fun H locs ls hl hH hS => lv_iushr C.1 C.2.1 d rfl (k H locs ls hl hH hS)
theorem x_idiv (C : Cx p s m args c G own cc nL z) {x y : Int32} (d : decode cc pc = .ok (.idiv, 1)) (hne : ¬ y = 0) (k : Xw p l e R s m args below meth c G z nL Z (pc + 1) lo (.int (x / y) :: st) u n kc ks) : Xw p l e R s m args below meth c G z nL Z pc lo (.int y :: .int x :: st) u n kc ks := fun H locs ls hl hH hS => lv_idiv C.1 C.2.1 d hne (k H locs ls hl hH hS)
theorem x_irem (C : Cx p s m args c G own cc nL z) {x y : Int32} (d : decode cc pc = .ok (.irem, 1)) (hne : ¬ y = 0) (k : Xw p l e R s m args below meth c G z nL Z (pc + 1) lo (.int (x - x / y * y) :: st) u n kc ks) : Xw p l e R s m args below meth c G z nL Z pc lo (.int y :: .int x :: st) u n kc ks := fun H locs ls hl hH hS => lv_irem C.1 C.2.1 d hne (k H locs ls hl hH hS)
theorem x_ldiv (C : Cx p s m args c G own cc nL z) {x y : Int64} (d : decode cc pc = .ok (.ldiv, 1)) (hne : ¬ y = 0) (k : Xw p l e R s m args below meth c G z nL Z (pc + 1) lo (.long (x / y) :: st) u n kc ks) : Xw p l e R s m args below meth c G z nL Z pc lo (.long y :: .long x :: st) u n kc ks := fun H locs ls hl hH hS => lv_ldiv C.1 C.2.1 d hne (k H locs ls hl hH hS)
theorem x_lrem (C : Cx p s m args c G own cc nL z) {x y : Int64} (d : decode cc pc = .ok (.lrem, 1)) (hne : ¬ y = 0) (k : Xw p l e R s m args below meth c G z nL Z (pc + 1) lo (.long (x - x / y * y) :: st) u n kc ks) : Xw p l e R s m args below meth c G z nL Z pc lo (.long y :: .long x :: st) u n kc ks := fun H locs ls hl hH hS => lv_lrem C.1 C.2.1 d hne (k H locs ls hl hH hS)
theorem x_ladd (C : Cx p s m args c G own cc nL z) {x y : Int64} (d : decode cc pc = .ok (.ladd, 1)) (k : Xw p l e R s m args below meth c G z nL Z (pc + 1) lo (.long (x + y) :: st) u n kc ks) : Xw p l e R s m args below meth c G z nL Z pc lo (.long y :: .long x :: st) u n kc ks := fun H locs ls hl hH hS => lv_ladd C.1 C.2.1 d (k H locs ls hl hH hS)
theorem x_lmul (C : Cx p s m args c G own cc nL z) {x y : Int64} (d : decode cc pc = .ok (.lmul, 1)) (k : Xw p l e R s m args below meth c G z nL Z (pc + 1) lo (.long (x * y) :: st) u n kc ks) : Xw p l e R s m args below meth c G z nL Z pc lo (.long y :: .long x :: st) u n kc ks := fun H locs ls hl hH hS => lv_lmul C.1 C.2.1 d (k H locs ls hl hH hS)
theorem x_ineg (C : Cx p s m args c G own cc nL z) {x : Int32} (d : decode cc pc = .ok (.ineg, 1)) (k : Xw p l e R s m args below meth c G z nL Z (pc + 1) lo (.int (-x) :: st) u n kc ks) : Xw p l e R s m args below meth c G z nL Z pc lo (.int x :: st) u n kc ks := fun H locs ls hl hH hS => lv_ineg C.1 C.2.1 d (k H locs ls hl hH hS)
theorem x_i2l (C : Cx p s m args c G own cc nL z) {x : Int32} (d : decode cc pc = .ok (.i2l, 1)) (k : Xw p l e R s m args below meth c G z nL Z (pc + 1) lo (.long x.toInt64 :: st) u n kc ks) : Xw p l e R s m args below meth c G z nL Z pc lo (.int x :: st) u n kc ks := fun H locs ls hl hH hS => lv_i2l C.1 C.2.1 d rfl (k H locs ls hl hH hS)
theorem x_l2i (C : Cx p s m args c G own cc nL z) {x : Int64} (d : decode cc pc = .ok (.l2i, 1)) (k : Xw p l e R s m args below meth c G z nL Z (pc + 1) lo (.int x.toInt32 :: st) u n kc ks) : Xw p l e R s m args below meth c G z nL Z pc lo (.long x :: st) u n kc ks := fun H locs ls hl hH hS => lv_l2i C.1 C.2.1 d rfl (k H locs ls hl hH hS)
theorem x_dup (C : Cx p s m args c G own cc nL z) {va : Value} (d : decode cc pc = .ok (.dup, 1)) (hva : va.category = 1) (k : Xw p l e R s m args below meth c G z nL Z (pc + 1) lo (va :: va :: st) u n kc ks) : Xw p l e R s m args below meth c G z nL Z pc lo (va :: st) u n kc ks := fun H locs ls hl hH hS => lv_dup C.1 C.2.1 d hva (k H locs ls hl hH hS)
theorem x_pop (C : Cx p s m args c G own cc nL z) {va : Value} (d : decode cc pc = .ok (.pop, 1)) (hva : va.category = 1) (k : Xw p l e R s m args below meth c G z nL Z (pc + 1) lo (st) u n kc ks) : Xw p l e R s m args below meth c G z nL Z pc lo (va :: st) u n kc ks := fun H locs ls hl hH hS => lv_pop C.1 C.2.1 d hva (k H locs ls hl hH hS)
theorem x_dup2 (C : Cx p s m args c G own cc nL z) {va vb : Value} (d : decode cc pc = .ok (.dup2, 1)) (hva : va.category = 1) (hvb : vb.category = 1) (k : Xw p l e R s m args below meth c G z nL Z (pc + 1) lo (va :: vb :: va :: vb :: st) u n kc ks) : Xw p l e R s m args below meth c G z nL Z pc lo (va :: vb :: st) u n kc ks := fun H locs ls hl hH hS => lv_dup2_11 C.1 C.2.1 d hva hvb (k H locs ls hl hH hS)
theorem x_iconst (C : Cx p s m args c G own cc nL z) {k0 : Int} {v : Int32} (d : decode cc pc = .ok (.iconst k0, 1)) (hv : Int32.ofInt k0 = v) (k : Xw p l e R s m args below meth c G z nL Z (pc + 1) lo (.int v :: st) u n kc ks) : Xw p l e R s m args below meth c G z nL Z pc lo (st) u n kc ks := fun H locs ls hl hH hS => lv_iconst C.1 C.2.1 d hv (k H locs ls hl hH hS)
theorem x_bipush (C : Cx p s m args c G own cc nL z) {k0 : Int} {v : Int32} (d : decode cc pc = .ok (.bipush k0, 2)) (hv : (Int8.ofInt k0).toInt32 = v) (k : Xw p l e R s m args below meth c G z nL Z (pc + 2) lo (.int v :: st) u n kc ks) : Xw p l e R s m args below meth c G z nL Z pc lo (st) u n kc ks := fun H locs ls hl hH hS => lv_bipush C.1 C.2.1 d hv (k H locs ls hl hH hS)
theorem x_sipush (C : Cx p s m args c G own cc nL z) {k0 : Int} {v : Int32} (d : decode cc pc = .ok (.sipush k0, 3)) (hv : (Int16.ofInt k0).toInt32 = v) (k : Xw p l e R s m args below meth c G z nL Z (pc + 3) lo (.int v :: st) u n kc ks) : Xw p l e R s m args below meth c G z nL Z pc lo (st) u n kc ks := fun H locs ls hl hH hS => lv_sipush C.1 C.2.1 d hv (k H locs ls hl hH hS)
theorem x_iload_n (C : Cx p s m args c G own cc nL z) (j : Nat) {k0 : Fin 4} {i : Nat} {x : Int32} (d : decode cc pc = .ok (.iload_n k0, 1)) (hi : (k0 : Nat) = i) (hj : lo[j]? = some (i, .int x)) (k : Xw p l e R s m args below meth c G z nL Z (pc + 1) lo (.int x :: st) u n kc ks) : Xw p l e R s m args below meth c G z nL Z pc lo st u n kc ks := fun H locs ls hl hH hS => lv_iload_n C.1 C.2.1 d hi (lv_at hl j hj) (k H locs ls hl hH hS)
theorem x_iload (C : Cx p s m args c G own cc nL z) (j : Nat) {i : Nat} {x : Int32} (d : decode cc pc = .ok (.iload i, 2)) (hj : lo[j]? = some (i, .int x)) (k : Xw p l e R s m args below meth c G z nL Z (pc + 2) lo (.int x :: st) u n kc ks) : Xw p l e R s m args below meth c G z nL Z pc lo st u n kc ks := fun H locs ls hl hH hS => lv_iload C.1 C.2.1 d (lv_at hl j hj) (k H locs ls hl hH hS)
theorem x_istore_n (C : Cx p s m args c G own cc nL z) (lo2 : List (Nat × Value)) {k0 : Fin 4} {i : Nat} {x : Int32} (d : decode cc pc = .ok (.istore_n k0, 1)) (hi : (k0 : Nat) = i) (hn : i < nL) (h2 : (i, Value.int x) :: lo.filter (fun q => !(q.1 == i) && !(q.1 + 1 == i && q.2.category == 2)) = lo2) (k : Xw p l e R s m args below meth c G z nL Z (pc + 1) lo2 st u n kc ks) : Xw p l e R s m args below meth c G z nL Z pc lo (.int x :: st) u n kc ks := fun H locs ls hl hH hS => lv_istore_n C.1 C.2.1 d hi hl hn h2 (fun ls hl => k H locs ls hl hH hS)
theorem x_istore (C : Cx p s m args c G own cc nL z) (lo2 : List (Nat × Value)) {i : Nat} {x : Int32} (d : decode cc pc = .ok (.istore i, 2)) (hn : i < nL) (h2 : (i, Value.int x) :: lo.filter (fun q => !(q.1 == i) && !(q.1 + 1 == i && q.2.category == 2)) = lo2) (k : Xw p l e R s m args below meth c G z nL Z (pc + 2) lo2 st u n kc ks) : Xw p l e R s m args below meth c G z nL Z pc lo (.int x :: st) u n kc ks := fun H locs ls hl hH hS => lv_istore C.1 C.2.1 d hl hn h2 (fun ls hl => k H locs ls hl hH hS)
theorem x_lload_n (C : Cx p s m args c G own cc nL z) (j : Nat) {k0 : Fin 4} {i : Nat} {x : Int64} (d : decode cc pc = .ok (.lload_n k0, 1)) (hi : (k0 : Nat) = i) (hj : lo[j]? = some (i, .long x)) (k : Xw p l e R s m args below meth c G z nL Z (pc + 1) lo (.long x :: st) u n kc ks) : Xw p l e R s m args below meth c G z nL Z pc lo st u n kc ks := fun H locs ls hl hH hS => lv_lload_n C.1 C.2.1 d hi (lv_at hl j hj) (k H locs ls hl hH hS)
theorem x_lload (C : Cx p s m args c G own cc nL z) (j : Nat) {i : Nat} {x : Int64} (d : decode cc pc = .ok (.lload i, 2)) (hj : lo[j]? = some (i, .long x)) (k : Xw p l e R s m args below meth c G z nL Z (pc + 2) lo (.long x :: st) u n kc ks) : Xw p l e R s m args below meth c G z nL Z pc lo st u n kc ks := fun H locs ls hl hH hS => lv_lload C.1 C.2.1 d (lv_at hl j hj) (k H locs ls hl hH hS)
theorem x_lstore_n (C : Cx p s m args c G own cc nL z) (lo2 : List (Nat × Value)) {k0 : Fin 4} {i : Nat} {x : Int64} (d : decode cc pc = .ok (.lstore_n k0, 1)) (hi : (k0 : Nat) = i) (hn : i + 1 < nL) (h2 : (i, Value.long x) :: lo.filter (fun q => !(q.1 == i) && (!(q.1 == i + 1) && !(q.1 + 1 == i && q.2.category == 2))) = lo2) (k : Xw p l e R s m args below meth c G z nL Z (pc + 1) lo2 st u n kc ks) : Xw p l e R s m args below meth c G z nL Z pc lo (.long x :: st) u n kc ks := fun H locs ls hl hH hS => lv_lstore_n C.1 C.2.1 d hi hl hn h2 (fun ls hl => k H locs ls hl hH hS)
theorem x_lstore (C : Cx p s m args c G own cc nL z) (lo2 : List (Nat × Value)) {i : Nat} {x : Int64} (d : decode cc pc = .ok (.lstore i, 2)) (hn : i + 1 < nL) (h2 : (i, Value.long x) :: lo.filter (fun q => !(q.1 == i) && (!(q.1 == i + 1) && !(q.1 + 1 == i && q.2.category == 2))) = lo2) (k : Xw p l e R s m args below meth c G z nL Z (pc + 2) lo2 st u n kc ks) : Xw p l e R s m args below meth c G z nL Z pc lo (.long x :: st) u n kc ks := fun H locs ls hl hH hS => lv_lstore C.1 C.2.1 d hl hn h2 (fun ls hl => k H locs ls hl hH hS)
theorem x_aload_n (C : Cx p s m args c G own cc nL z) (j : Nat) {k0 : Fin 4} {i : Nat} {x : Nat} (d : decode cc pc = .ok (.aload_n k0, 1)) (hi : (k0 : Nat) = i) (hj : lo[j]? = some (i, .ref x)) (k : Xw p l e R s m args below meth c G z nL Z (pc + 1) lo (.ref x :: st) u n kc ks) : Xw p l e R s m args below meth c G z nL Z pc lo st u n kc ks := fun H locs ls hl hH hS => lv_aload_n C.1 C.2.1 d hi (lv_at hl j hj) (k H locs ls hl hH hS)
theorem x_aload (C : Cx p s m args c G own cc nL z) (j : Nat) {i : Nat} {x : Nat} (d : decode cc pc = .ok (.aload i, 2)) (hj : lo[j]? = some (i, .ref x)) (k : Xw p l e R s m args below meth c G z nL Z (pc + 2) lo (.ref x :: st) u n kc ks) : Xw p l e R s m args below meth c G z nL Z pc lo st u n kc ks := fun H locs ls hl hH hS => lv_aload C.1 C.2.1 d (lv_at hl j hj) (k H locs ls hl hH hS)
theorem x_astore_n (C : Cx p s m args c G own cc nL z) (lo2 : List (Nat × Value)) {k0 : Fin 4} {i : Nat} {x : Nat} (d : decode cc pc = .ok (.astore_n k0, 1)) (hi : (k0 : Nat) = i) (hn : i < nL) (h2 : (i, Value.ref x) :: lo.filter (fun q => !(q.1 == i) && !(q.1 + 1 == i && q.2.category == 2)) = lo2) (k : Xw p l e R s m args below meth c G z nL Z (pc + 1) lo2 st u n kc ks) : Xw p l e R s m args below meth c G z nL Z pc lo (.ref x :: st) u n kc ks := fun H locs ls hl hH hS => lv_astore_n C.1 C.2.1 d hi hl hn h2 (fun ls hl => k H locs ls hl hH hS)
theorem x_astore (C : Cx p s m args c G own cc nL z) (lo2 : List (Nat × Value)) {i : Nat} {x : Nat} (d : decode cc pc = .ok (.astore i, 2)) (hn : i < nL) (h2 : (i, Value.ref x) :: lo.filter (fun q => !(q.1 == i) && !(q.1 + 1 == i && q.2.category == 2)) = lo2) (k : Xw p l e R s m args below meth c G z nL Z (pc + 2) lo2 st u n kc ks) : Xw p l e R s m args below meth c G z nL Z pc lo (.ref x :: st) u n kc ks := fun H locs ls hl hH hS => lv_astore C.1 C.2.1 d hl hn h2 (fun ls hl => k H locs ls hl hH hS)
theorem x_iinc (C : Cx p s m args c G own cc nL z) (j : Nat) (lo2 : List (Nat × Value)) {i : Nat} {k0 : Int} {x v : Int32} (d : decode cc pc = .ok (.iinc i k0, 3)) (hj : lo[j]? = some (i, .int x)) (hv : x + Int32.ofInt k0 = v) (hn : i < nL) (h2 : (i, Value.int v) :: lo.filter (fun q => !(q.1 == i) && !(q.1 + 1 == i && q.2.category == 2)) = lo2) (k : Xw p l e R s m args below meth c G z nL Z (pc + 3) lo2 st u n kc ks) : Xw p l e R s m args below meth c G z nL Z pc lo st u n kc ks := fun H locs ls hl hH hS => lv_iinc C.1 C.2.1 d hl hj hv hn h2 (fun ls hl => k H locs ls hl hH hS)
theorem x_icmp_eq (C : Cx p s m args c G own cc nL z) {x y : Int32} {off : Int} (tgt : Nat) (d : decode cc pc = .ok (.if_icmp .eq off, 3)) (ht : (pc : Int) + off = (tgt : Int)) (kt : x = y → Xw p l e R s m args below meth c G z nL Z tgt lo st u n kc ks) (kf : ¬ x = y → Xw p l e R s m args below meth c G z nL Z (pc + 3) lo st u n kc ks) : Xw p l e R s m args below meth c G z nL Z pc lo (.int y :: .int x :: st) u n kc ks := fun H locs ls hl hH hS => lv_icmp_eq C.1 C.2.1 d ht (fun h => kt h H locs ls hl hH hS) (fun h => kf h H locs ls hl hH hS)
theorem x_icmp_eq_t (C : Cx p s m args c G own cc nL z) {x y : Int32} {off : Int} (tgt : Nat) (d : decode cc pc = .ok (.if_icmp .eq off, 3)) (ht : (pc : Int) + off = (tgt : Int)) (h : x = y) (kt : Xw p l e R s m args below meth c G z nL Z tgt lo st u n kc ks) : Xw p l e R s m args below meth c G z nL Z pc lo (.int y :: .int x :: st) u n kc ks := fun H locs ls hl hH hS => lv_icmp_eq C.1 C.2.1 d ht (fun _ => kt H locs ls hl hH hS) (fun h9 => absurd h (by first | exact h9 | exact fun q => q h9))
theorem x_icmp_eq_f (C : Cx p s m args c G own cc nL z) {x y : Int32} {off : Int} (tgt : Nat) (d : decode cc pc = .ok (.if_icmp .eq off, 3)) (ht : (pc : Int) + off = (tgt : Int)) (h : ¬ x = y) (kf : Xw p l e R s m args below meth c G z nL Z (pc + 3) lo st u n kc ks) : Xw p l e R s m args below meth c G z nL Z pc lo (.int y :: .int x :: st) u n kc ks := fun H locs ls hl hH hS => lv_icmp_eq C.1 C.2.1 d ht (fun h9 => absurd h9 (by first | exact h | exact fun q => q h)) (fun _ => kf H locs ls hl hH hS)
theorem x_if_eq (C : Cx p s m args c G own cc nL z) {x : Int32} {off : Int} (tgt : Nat) (d : decode cc pc = .ok (.ifCond .eq off, 3)) (ht : (pc : Int) + off = (tgt : Int)) (kt : x = 0 → Xw p l e R s m args below meth c G z nL Z tgt lo st u n kc ks) (kf : ¬ x = 0 → Xw p l e R s m args below meth c G z nL Z (pc + 3) lo st u n kc ks) : Xw p l e R s m args below meth c G z nL Z pc lo (.int x :: st) u n kc ks := fun H locs ls hl hH hS => lv_if_eq C.1 C.2.1 d ht (fun h => kt h H locs ls hl hH hS) (fun h => kf h H locs ls hl hH hS)
theorem x_if_eq_t (C : Cx p s m args c G own cc nL z) {x : Int32} {off : Int} (tgt : Nat) (d : decode cc pc = .ok (.ifCond .eq off, 3)) (ht : (pc : Int) + off = (tgt : Int)) (h : x = 0) (kt : Xw p l e R s m args below meth c G z nL Z tgt lo st u n kc ks) : Xw p l e R s m args below meth c G z nL Z pc lo (.int x :: st) u n kc ks := fun H locs ls hl hH hS => lv_if_eq C.1 C.2.1 d ht (fun _ => kt H locs ls hl hH hS) (fun h9 => absurd h (by first | exact h9 | exact fun q => q h9))
theorem x_if_eq_f (C : Cx p s m args c G own cc nL z) {x : Int32} {off : Int} (tgt : Nat) (d : decode cc pc = .ok (.ifCond .eq off, 3)) (ht : (pc : Int) + off = (tgt : Int)) (h : ¬ x = 0) (kf : Xw p l e R s m args below meth c G z nL Z (pc + 3) lo st u n kc ks) : Xw p l e R s m args below meth c G z nL Z pc lo (.int x :: st) u n kc ks := fun H locs ls hl hH hS => lv_if_eq C.1 C.2.1 d ht (fun h9 => absurd h9 (by first | exact h | exact fun q => q h)) (fun _ => kf H locs ls hl hH hS)
theorem x_icmp_ne (C : Cx p s m args c G own cc nL z) {x y : Int32} {off : Int} (tgt : Nat) (d : decode cc pc = .ok (.if_icmp .ne off, 3)) (ht : (pc : Int) + off = (tgt : Int)) (kt : ¬ x = y → Xw p l e R s m args below meth c G z nL Z tgt lo st u n kc ks) (kf : x = y → Xw p l e R s m args below meth c G z nL Z (pc + 3) lo st u n kc ks) : Xw p l e R s m args below meth c G z nL Z pc lo (.int y :: .int x :: st) u n kc ks := fun H locs ls hl hH hS => lv_icmp_ne C.1 C.2.1 d ht (fun h => kt h H locs ls hl hH hS) (fun h => kf h H locs ls hl hH hS)
theorem x_icmp_ne_t (C : Cx p s m args c G own cc nL z) {x y : Int32} {off : Int} (tgt : Nat) (d : decode cc pc = .ok (.if_icmp .ne off, 3)) (ht : (pc : Int) + off = (tgt : Int)) (h : ¬ x = y) (kt : Xw p l e R s m args below meth c G z nL Z tgt lo st u n kc ks) : Xw p l e R s m args below meth c G z nL Z pc lo (.int y :: .int x :: st) u n kc ks := fun H locs ls hl hH hS => lv_icmp_ne C.1 C.2.1 d ht (fun _ => kt H locs ls hl hH hS) (fun h9 => absurd h (by first | exact h9 | exact fun q => q h9))
theorem x_icmp_ne_f (C : Cx p s m args c G own cc nL z) {x y : Int32} {off : Int} (tgt : Nat) (d : decode cc pc = .ok (.if_icmp .ne off, 3)) (ht : (pc : Int) + off = (tgt : Int)) (h : x = y) (kf : Xw p l e R s m args below meth c G z nL Z (pc + 3) lo st u n kc ks) : Xw p l e R s m args below meth c G z nL Z pc lo (.int y :: .int x :: st) u n kc ks := fun H locs ls hl hH hS => lv_icmp_ne C.1 C.2.1 d ht (fun h9 => absurd h9 (by first | exact h | exact fun q => q h)) (fun _ => kf H locs ls hl hH hS)
theorem x_if_ne (C : Cx p s m args c G own cc nL z) {x : Int32} {off : Int} (tgt : Nat) (d : decode cc pc = .ok (.ifCond .ne off, 3)) (ht : (pc : Int) + off = (tgt : Int)) (kt : ¬ x = 0 → Xw p l e R s m args below meth c G z nL Z tgt lo st u n kc ks) (kf : x = 0 → Xw p l e R s m args below meth c G z nL Z (pc + 3) lo st u n kc ks) : Xw p l e R s m args below meth c G z nL Z pc lo (.int x :: st) u n kc ks := fun H locs ls hl hH hS => lv_if_ne C.1 C.2.1 d ht (fun h => kt h H locs ls hl hH hS) (fun h => kf h H locs ls hl hH hS)
theorem x_if_ne_t (C : Cx p s m args c G own cc nL z) {x : Int32} {off : Int} (tgt : Nat) (d : decode cc pc = .ok (.ifCond .ne off, 3)) (ht : (pc : Int) + off = (tgt : Int)) (h : ¬ x = 0) (kt : Xw p l e R s m args below meth c G z nL Z tgt lo st u n kc ks) : Xw p l e R s m args below meth c G z nL Z pc lo (.int x :: st) u n kc ks := fun H locs ls hl hH hS => lv_if_ne C.1 C.2.1 d ht (fun _ => kt H locs ls hl hH hS) (fun h9 => absurd h (by first | exact h9 | exact fun q => q h9))
theorem x_if_ne_f (C : Cx p s m args c G own cc nL z) {x : Int32} {off : Int} (tgt : Nat) (d : decode cc pc = .ok (.ifCond .ne off, 3)) (ht : (pc : Int) + off = (tgt : Int)) (h : x = 0) (kf : Xw p l e R s m args below meth c G z nL Z (pc + 3) lo st u n kc ks) : Xw p l e R s m args below meth c G z nL Z pc lo (.int x :: st) u n kc ks := fun H locs ls hl hH hS => lv_if_ne C.1 C.2.1 d ht (fun h9 => absurd h9 (by first | exact h | exact fun q => q h)) (fun _ => kf H locs ls hl hH hS)
theorem x_icmp_lt (C : Cx p s m args c G own cc nL z) {x y : Int32} {off : Int} (tgt : Nat) (d : decode cc pc = .ok (.if_icmp .lt off, 3)) (ht : (pc : Int) + off = (tgt : Int)) (kt : x < y → Xw p l e R s m args below meth c G z nL Z tgt lo st u n kc ks) (kf : ¬ x < y → Xw p l e R s m args below meth c G z nL Z (pc + 3) lo st u n kc ks) : Xw p l e R s m args below meth c G z nL Z pc lo (.int y :: .int x :: st) u n kc ks := fun H locs ls hl hH hS => lv_icmp_lt C.1 C.2.1 d ht (fun h => kt h H locs ls hl hH hS) (fun h => kf h H locs ls hl hH hS)
theorem x_icmp_lt_t (C : Cx p s m args c G own cc nL z) {x y : Int32} {off : Int} (tgt : Nat) (d : decode cc pc = .ok (.if_icmp .lt off, 3)) (ht : (pc : Int) + off = (tgt : Int)) (h : x < y) (kt : Xw p l e R s m args below meth c G z nL Z tgt lo st u n kc ks) : Xw p l e R s m args below meth c G z nL Z pc lo (.int y :: .int x :: st) u n kc ks := fun H locs ls hl hH hS => lv_icmp_lt C.1 C.2.1 d ht (fun _ => kt H locs ls hl hH hS) (fun h9 => absurd h (by first | exact h9 | exact fun q => q h9))
theorem x_icmp_lt_f (C : Cx p s m args c G own cc nL z) {x y : Int32} {off : Int} (tgt : Nat) (d : decode cc pc = .ok (.if_icmp .lt off, 3)) (ht : (pc : Int) + off = (tgt : Int)) (h : ¬ x < y) (kf : Xw p l e R s m args below meth c G z nL Z (pc + 3) lo st u n kc ks) : Xw p l e R s m args below meth c G z nL Z pc lo (.int y :: .int x :: st) u n kc ks := fun H locs ls hl hH hS => lv_icmp_lt C.1 C.2.1 d ht (fun h9 => absurd h9 (by first | exact h | exact fun q => q h)) (fun _ => kf H locs ls hl hH hS)
theorem x_if_lt (C : Cx p s m args c G own cc nL z) {x : Int32} {off : Int} (tgt : Nat) (d : decode cc pc = .ok (.ifCond .lt off, 3)) (ht : (pc : Int) + off = (tgt : Int)) (kt : x < 0 → Xw p l e R s m args below meth c G z nL Z tgt lo st u n kc ks) (kf : ¬ x < 0 → Xw p l e R s m args below meth c G z nL Z (pc + 3) lo st u n kc ks) : Xw p l e R s m args below meth c G z nL Z pc lo (.int x :: st) u n kc ks := fun H locs ls hl hH hS => lv_if_lt C.1 C.2.1 d ht (fun h => kt h H locs ls hl hH hS) (fun h => kf h H locs ls hl hH hS)
theorem x_if_lt_t (C : Cx p s m args c G own cc nL z) {x : Int32} {off : Int} (tgt : Nat) (d : decode cc pc = .ok (.ifCond .lt off, 3)) (ht : (pc : Int) + off = (tgt : Int)) (h : x < 0) (kt : Xw p l e R s m args below meth c G z nL Z tgt lo st u n kc ks) : Xw p l e R s m args below meth c G z nL Z pc lo (.int x :: st) u n kc ks := fun H locs ls hl hH hS => lv_if_lt C.1 C.2.1 d ht (fun _ => kt H locs ls hl hH hS) (fun h9 => absurd h (by first | exact h9 | exact fun q => q h9))
theorem x_if_lt_f (C : Cx p s m args c G own cc nL z) {x : Int32} {off : Int} (tgt : Nat) (d : decode cc pc = .ok (.ifCond .lt off, 3)) (ht : (pc : Int) + off = (tgt : Int)) (h : ¬ x < 0) (kf : Xw p l e R s m args below meth c G z nL Z (pc + 3) lo st u n kc ks) : Xw p l e R s m args below meth c G z nL Z pc lo (.int x :: st) u n kc ks := fun H locs ls hl hH hS => lv_if_lt C.1 C.2.1 d ht (fun h9 => absurd h9 (by first | exact h | exact fun q => q h)) (fun _ => kf H locs ls hl hH hS)
theorem x_icmp_ge (C : Cx p s m args c G own cc nL z) {x y : Int32} {off : Int} (tgt : Nat) (d : decode cc pc = .ok (.if_icmp .ge off, 3)) (ht : (pc : Int) + off = (tgt : Int)) (kt : y ≤ x → Xw p l e R s m args below meth c G z nL Z tgt lo st u n kc ks) (kf : ¬ y ≤ x → Xw p l e R s m args below meth c G z nL Z (pc + 3) lo st u n kc ks) : Xw p l e R s m args below meth c G z nL Z pc lo (.int y :: .int x :: st) u n kc ks := fun H locs ls hl hH hS => lv_icmp_ge C.1 C.2.1 d ht (fun h => kt h H locs ls hl hH hS) (fun h => kf h H locs ls hl hH hS)
theorem x_icmp_ge_t (C : Cx p s m args c G own cc nL z) {x y : Int32} {off : Int} (tgt : Nat) (d : decode cc pc = .ok (.if_icmp .ge off, 3)) (ht : (pc : Int) + off = (tgt : Int)) (h : y ≤ x) (kt : Xw p l e R s m args below meth c G z nL Z tgt lo st u n kc ks) : Xw p l e R s m args below meth c G z nL Z pc lo (.int y :: .int x :: st) u n kc ks := fun H locs ls hl hH hS => lv_icmp_ge C.1 C.2.1 d ht (fun _ => kt H locs ls hl hH hS) (fun h9 => absurd h (by first | exact h9 | exact fun q => q h9))
theorem x_icmp_ge_f (C : Cx p s m args c G own cc nL z) {x y : Int32} {off : Int} (tgt : Nat) (d : decode cc pc = .ok (.if_icmp .ge off, 3)) (ht : (pc : Int) + off = (tgt : Int)) (h : ¬ y ≤ x) (kf : Xw p l e R s m args below meth c G z nL Z (pc + 3) lo st u n kc ks) : Xw p l e R s m args below meth c G z nL Z pc lo (.int y :: .int x :: st) u n kc ks := fun H locs ls hl hH hS => lv_icmp_ge C.1 C.2.1 d ht (fun h9 => absurd h9 (by first | exact h | exact fun q => q h)) (fun _ => kf H locs ls hl hH hS)
theorem x_if_ge (C : Cx p s m args c G own cc nL z) {x : Int32} {off : Int} (tgt : Nat) (d : decode cc pc = .ok (.ifCond .ge off, 3)) (ht : (pc : Int) + off = (tgt : Int)) (kt : 0 ≤ x → Xw p l e R s m args below meth c G z nL Z tgt lo st u n kc ks) (kf : ¬ 0 ≤ x → Xw p l e R s m args below meth c G z nL Z (pc + 3) lo st u n kc ks) : Xw p l e R s m args below meth c G z nL Z pc lo (.int x :: st) u n kc ks := fun H locs ls hl hH hS => lv_if_ge C.1 C.2.1 d ht (fun h => kt h H locs ls hl hH hS) (fun h => kf h H locs ls hl hH hS)
theorem x_if_ge_t (C : Cx p s m args c G own cc nL z) {x : Int32} {off : Int} (tgt : Nat) (d : decode cc pc = .ok (.ifCond .ge off, 3)) (ht : (pc : Int) + off = (tgt : Int)) (h : 0 ≤ x) (kt : Xw p l e R s m args below meth c G z nL Z tgt lo st u n kc ks) : Xw p l e R s m args below meth c G z nL Z pc lo (.int x :: st) u n kc ks := fun H locs ls hl hH hS => lv_if_ge C.1 C.2.1 d ht (fun _ => kt H locs ls hl hH hS) (fun h9 => absurd h (by first | exact h9 | exact fun q => q h9))
theorem x_if_ge_f (C : Cx p s m args c G own cc nL z) {x : Int32} {off : Int} (tgt : Nat) (d : decode cc pc = .ok (.ifCond .ge off, 3)) (ht : (pc : Int) + off = (tgt : Int)) (h : ¬ 0 ≤ x) (kf : Xw p l e R s m args below meth c G z nL Z (pc + 3) lo st u n kc ks) : Xw p l e R s m args below meth c G z nL Z pc lo (.int x :: st) u n kc ks := fun H locs ls hl hH hS => lv_if_ge C.1 C.2.1 d ht (fun h9 => absurd h9 (by first | exact h | exact fun q => q h)) (fun _ => kf H locs ls hl hH hS)
theorem x_icmp_gt (C : Cx p s m args c G own cc nL z) {x y : Int32} {off : Int} (tgt : Nat) (d : decode cc pc = .ok (.if_icmp .gt off, 3)) (ht : (pc : Int) + off = (tgt : Int)) (kt : y < x → Xw p l e R s m args below meth c G z nL Z tgt lo st u n kc ks) (kf : ¬ y < x → Xw p l e R s m args below meth c G z nL Z (pc + 3) lo st u n kc ks) : Xw p l e R s m args below meth c G z nL Z pc lo (.int y :: .int x :: st) u n kc ks := fun H locs ls hl hH hS => lv_icmp_gt C.1 C.2.1 d ht (fun h => kt h H locs ls hl hH hS) (fun h => kf h H locs ls hl hH hS)
theorem x_icmp_gt_t (C : Cx p s m args c G own cc nL z) {x y : Int32} {off : Int} (tgt : Nat) (d : decode cc pc = .ok (.if_icmp .gt off, 3)) (ht : (pc : Int) + off = (tgt : Int)) (h : y < x) (kt : Xw p l e R s m args below meth c G z nL Z tgt lo st u n kc ks) : Xw p l e R s m args below meth c G z nL Z pc lo (.int y :: .int x :: st) u n kc ks := fun H locs ls hl hH hS => lv_icmp_gt C.1 C.2.1 d ht (fun _ => kt H locs ls hl hH hS) (fun h9 => absurd h (by first | exact h9 | exact fun q => q h9))
theorem x_icmp_gt_f (C : Cx p s m args c G own cc nL z) {x y : Int32} {off : Int} (tgt : Nat) (d : decode cc pc = .ok (.if_icmp .gt off, 3)) (ht : (pc : Int) + off = (tgt : Int)) (h : ¬ y < x) (kf : Xw p l e R s m args below meth c G z nL Z (pc + 3) lo st u n kc ks) : Xw p l e R s m args below meth c G z nL Z pc lo (.int y :: .int x :: st) u n kc ks := fun H locs ls hl hH hS => lv_icmp_gt C.1 C.2.1 d ht (fun h9 => absurd h9 (by first | exact h | exact fun q => q h)) (fun _ => kf H locs ls hl hH hS)
theorem x_if_gt (C : Cx p s m args c G own cc nL z) {x : Int32} {off : Int} (tgt : Nat) (d : decode cc pc = .ok (.ifCond .gt off, 3)) (ht : (pc : Int) + off = (tgt : Int)) (kt : 0 < x → Xw p l e R s m args below meth c G z nL Z tgt lo st u n kc ks) (kf : ¬ 0 < x → Xw p l e R s m args below meth c G z nL Z (pc + 3) lo st u n kc ks) : Xw p l e R s m args below meth c G z nL Z pc lo (.int x :: st) u n kc ks := fun H locs ls hl hH hS => lv_if_gt C.1 C.2.1 d ht (fun h => kt h H locs ls hl hH hS) (fun h => kf h H locs ls hl hH hS)
theorem x_if_gt_t (C : Cx p s m args c G own cc nL z) {x : Int32} {off : Int} (tgt : Nat) (d : decode cc pc = .ok (.ifCond .gt off, 3)) (ht : (pc : Int) + off = (tgt : Int)) (h : 0 < x) (kt : Xw p l e R s m args below meth c G z nL Z tgt lo st u n kc ks) : Xw p l e R s m args below meth c G z nL Z pc lo (.int x :: st) u n kc ks := fun H locs ls hl hH hS => lv_if_gt C.1 C.2.1 d ht (fun _ => kt H locs ls hl hH hS) (fun h9 => absurd h (by first | exact h9 | exact fun q => q h9))
theorem x_if_gt_f (C : Cx p s m args c G own cc nL z) {x : Int32} {off : Int} (tgt : Nat) (d : decode cc pc = .ok (.ifCond .gt off, 3)) (ht : (pc : Int) + off = (tgt : Int)) (h : ¬ 0 < x) (kf : Xw p l e R s m args below meth c G z nL Z (pc + 3) lo st u n kc ks) : Xw p l e R s m args below meth c G z nL Z pc lo (.int x :: st) u n kc ks := fun H locs ls hl hH hS => lv_if_gt C.1 C.2.1 d ht (fun h9 => absurd h9 (by first | exact h | exact fun q => q h)) (fun _ => kf H locs ls hl hH hS)
theorem x_icmp_le (C : Cx p s m args c G own cc nL z) {x y : Int32} {off : Int} (tgt : Nat) (d : decode cc pc = .ok (.if_icmp .le off, 3)) (ht : (pc : Int) + off = (tgt : Int)) (kt : x ≤ y → Xw p l e R s m args below meth c G z nL Z tgt lo st u n kc ks) (kf : ¬ x ≤ y → Xw p l e R s m args below meth c G z nL Z (pc + 3) lo st u n kc ks) : Xw p l e R s m args below meth c G z nL Z pc lo (.int y :: .int x :: st) u n kc ks := fun H locs ls hl hH hS => lv_icmp_le C.1 C.2.1 d ht (fun h => kt h H locs ls hl hH hS) (fun h => kf h H locs ls hl hH hS)
theorem x_icmp_le_t (C : Cx p s m args c G own cc nL z) {x y : Int32} {off : Int} (tgt : Nat) (d : decode cc pc = .ok (.if_icmp .le off, 3)) (ht : (pc : Int) + off = (tgt : Int)) (h : x ≤ y) (kt : Xw p l e R s m args below meth c G z nL Z tgt lo st u n kc ks) : Xw p l e R s m args below meth c G z nL Z pc lo (.int y :: .int x :: st) u n kc ks := fun H locs ls hl hH hS => lv_icmp_le C.1 C.2.1 d ht (fun _ => kt H locs ls hl hH hS) (fun h9 => absurd h (by first | exact h9 | exact fun q => q h9))
theorem x_icmp_le_f (C : Cx p s m args c G own cc nL z) {x y : Int32} {off : Int} (tgt : Nat) (d : decode cc pc = .ok (.if_icmp .le off, 3)) (ht : (pc : Int) + off = (tgt : Int)) (h : ¬ x ≤ y) (kf : Xw p l e R s m args below meth c G z nL Z (pc + 3) lo st u n kc ks) : Xw p l e R s m args below meth c G z nL Z pc lo (.int y :: .int x :: st) u n kc ks := fun H locs ls hl hH hS => lv_icmp_le C.1 C.2.1 d ht (fun h9 => absurd h9 (by first | exact h | exact fun q => q h)) (fun _ => kf H locs ls hl hH hS)
theorem x_if_le (C : Cx p s m args c G own cc nL z) {x : Int32} {off : Int} (tgt : Nat) (d : decode cc pc = .ok (.ifCond .le off, 3)) (ht : (pc : Int) + off = (tgt : Int)) (kt : x ≤ 0 → Xw p l e R s m args below meth c G z nL Z tgt lo st u n kc ks) (kf : ¬ x ≤ 0 → Xw p l e R s m args below meth c G z nL Z (pc + 3) lo st u n kc ks) : Xw p l e R s m args below meth c G z nL Z pc lo (.int x :: st) u n kc ks := fun H locs ls hl hH hS => lv_if_le C.1 C.2.1 d ht (fun h => kt h H locs ls hl hH hS) (fun h => kf h H locs ls hl hH hS)
theorem x_if_le_t (C : Cx p s m args c G own cc nL z) {x : Int32} {off : Int} (tgt : Nat) (d : decode cc pc = .ok (.ifCond .le off, 3)) (ht : (pc : Int) + off = (tgt : Int)) (h : x ≤ 0) (kt : Xw p l e R s m args below meth c G z nL Z tgt lo st u n kc ks) : Xw p l e R s m args below meth c G z nL Z pc lo (.int x :: st) u n kc ks := fun H locs ls hl hH hS => lv_if_le C.1 C.2.1 d ht (fun _ => kt H locs ls hl hH hS) (fun h9 => absurd h (by first | exact h9 | exact fun q => q h9))
theorem x_if_le_f (C : Cx p s m args c G own cc nL z) {x : Int32} {off : Int} (tgt : Nat) (d : decode cc pc = .ok (.ifCond .le off, 3)) (ht : (pc : Int) + off = (tgt : Int)) (h : ¬ x ≤ 0) (kf : Xw p l e R s m args below meth c G z nL Z (pc + 3) lo st u n kc ks) : Xw p l e R s m args below meth c G z nL Z pc lo (.int x :: st) u n kc ks := fun H locs ls hl hH hS => lv_if_le C.1 C.2.1 d ht (fun h9 => absurd h9 (by first | exact h | exact fun q => q h)) (fun _ => kf H locs ls hl hH hS)
theorem x_goto (C : Cx p s m args c G own cc nL z) {off : Int} (tgt : Nat) (d : decode cc pc = .ok (.goto off, 3)) (ht : (pc : Int) + off = (tgt : Int)) (k : Xw p l e R s m args below meth c G z nL Z tgt lo st u n kc ks) : Xw p l e R s m args below meth c G z nL Z pc lo st u n kc ks := fun H locs ls hl hH hS => lv_goto C.1 C.2.1 d ht (k H locs ls hl hH hS)
theorem x_mv {lo2 : List (Nat × Value)} (ks' : List Nat) (hl : lv_pick lo ks' = lo2) (k : Xw p l e R s m args below meth c G z nL Z pc lo2 st u n kc ks) : Xw p l e R s m args below meth c G z nL Z pc lo st u n kc ks := fun H locs ls hL hH hS => k H locs ls (lv_sub hL ks' hl) hH hS
theorem x_heap {u2 : HpT} (hu : u = u2) (k : Xw p l e R s m args below meth c G z nL Z pc lo st u2 n kc ks) : Xw p l e R s m args below meth c G z nL Z pc lo st u n kc ks := hu ▸ k
theorem x_tableIn (C : Cx p s m args c G own cc nL z) {dflt lo1 hi : Int} {offs : Array Int} {len : Nat} {x : Int32} {off : Int} (tgt : Nat) (d : decode cc pc = .ok (.tableswitch dflt lo1 hi offs, len)) (h1 : ¬ x.toInt < lo1) (h2 : ¬ hi < x.toInt) (ho : offs[(x.toInt - lo1).toNat]? = some off) (ht : (pc : Int) + off = (tgt : Int))
    (k : Xw p l e R s m args below meth c G z nL Z tgt lo st u n kc ks) : Xw p l e R s m args below meth c G z nL Z pc lo (.int x :: st) u n kc ks := fun H locs ls hl hH hS => lv_tableIn C.1 C.2.1 d h1 h2 ho ht (k H locs ls hl hH hS)
theorem x_tableOut (C : Cx p s m args c G own cc nL z) {dflt lo1 hi : Int} {offs : Array Int} {len : Nat} {x : Int32} (tgt : Nat) (d : decode cc pc = .ok (.tableswitch dflt lo1 hi offs, len)) (h : x.toInt < lo1 ∨ hi < x.toInt) (ht : (pc : Int) + dflt = (tgt : Int))
    (k : Xw p l e R s m args below meth c G z nL Z tgt lo st u n kc ks) : Xw p l e R s m args below meth c G z nL Z pc lo (.int x :: st) u n kc ks := fun H locs ls hl hH hS => lv_tableOut C.1 C.2.1 d h ht (k H locs ls hl hH hS)
theorem x_ldc (C : Cx p s m args c G own cc nL z) {index : Nat} {v : Int32} (hw : Cond.constant own index v ∈ lw_good) (d : decode cc pc = .ok (.ldc index, 2)) (k : Xw p l e R s m args below meth c G z nL Z (pc + 2) lo (.int v :: st) u n kc ks) : Xw p l e R s m args below meth c G z nL Z pc lo st u n kc ks := fun H locs ls hl hH hS => lv_ldc C.1 C.2.1 C.2.2.2.1 (C.2.2.2.2.1 _ hw) d (k H locs ls hl hH hS)
theorem x_ldcw (C : Cx p s m args c G own cc nL z) {index : Nat} {v : Int32} (hw : Cond.constant own index v ∈ lw_good) (d : decode cc pc = .ok (.ldc_w index, 3)) (k : Xw p l e R s m args below meth c G z nL Z (pc + 3) lo (.int v :: st) u n kc ks) : Xw p l e R s m args below meth c G z nL Z pc lo st u n kc ks := fun H locs ls hl hH hS => lv_ldcw C.1 C.2.1 C.2.2.2.1 (C.2.2.2.2.1 _ hw) d (k H locs ls hl hH hS)
theorem x_ldc2 (C : Cx p s m args c G own cc nL z) {index : Nat} {v : Int64} (hw : Cond.constantLong own index v ∈ lw_good) (d : decode cc pc = .ok (.ldc2_w index, 3)) (k : Xw p l e R s m args below meth c G z nL Z (pc + 3) lo (.long v :: st) u n kc ks) : Xw p l e R s m args below meth c G z nL Z pc lo st u n kc ks := fun H locs ls hl hH hS => lv_ldc2 C.1 C.2.1 C.2.2.2.1 (C.2.2.2.2.1 _ hw) d (k H locs ls hl hH hS)
/-- a computed number gets a name -/
theorem x_top {v : Int32} (k : ∀ w : Int32, w = v → Xw p l e R s m args below meth c G z nL Z pc lo (.int w :: st) u n kc ks) : Xw p l e R s m args below meth c G z nL Z pc lo (.int v :: st) u n kc ks := k v rfl
theorem x_eqi {v w : Int32} (h : v = w) (k : Xw p l e R s m args below meth c G z nL Z pc lo (.int w :: st) u n kc ks) : Xw p l e R s m args below meth c G z nL Z pc lo (.int v :: st) u n kc ks := h ▸ k
theorem x_eql {v w : Int64} (h : v = w) (k : Xw p l e R s m args below meth c G z nL Z pc lo (.long w :: st) u n kc ks) : Xw p l e R s m args below meth c G z nL Z pc lo (.long v :: st) u n kc ks := h ▸ k
/-- getfield -/
theorem x_get (C : Cx p s m args c G own cc nL z) {ref C' : String} {T : u_T} {N ci index : Nat} (hin : ∀ w ∈ u_ws C' T N, w ∈ lw_good) (hc : vwCl[ci]? = some (C', T, N)) (k : Nat) (hk : k < N) (hw : Cond.fieldLink own index ref (T k).2.1 (T k).2.2.1 ∈ lw_good) (href : (T k).1 = ref) {a : Nat} {fs : List Value} {v : Value} (hu : u a = some (.inr (ci, fs))) (hv : fs[k]? = some v) (d : decode cc pc = .ok (.getfield index, 3))
    (kk : Xw p l e R s m args below meth c G z nL Z (pc + 3) lo (v :: st) u n kc ks) : Xw p l e R s m args below meth c G z nL Z pc lo (.ref (z + a) :: st) u n kc ks :=
  fun H locs ls hl hH hS => va_get (ws := [(z + a, .inr (ci, fs))]) C.1 C.2.1 C.2.2.2.2.1 hin C.2.2.2.1 C.2.2.2.2.2.1.1 (hH.one hu) 0 rfl hc k hk (C.2.2.2.2.1 _ hw) (fun _ h9 => by rw [← href]; exact h9) hv d (kk H locs ls hl hH hS)
/-- putfield -/
theorem x_put (C : Cx p s m args c G own cc nL z) {ref C' : String} {T : u_T} {N ci index : Nat} (hin : ∀ w ∈ u_ws C' T N, w ∈ lw_good) (ty0 : Nat → FieldType) (hty : ∀ k, k < N → parseFieldDescriptor (T k).2.2.1 = some (ty0 k)) (hnm : ∀ a, a < N → ∀ b, b < N → a ≠ b → (T a).2.1 ≠ (T b).2.1) (hc : vwCl[ci]? = some (C', T, N)) (k : Nat) (hk : k < N) (hw : Cond.fieldLink own index ref (T k).2.1 (T k).2.2.1 ∈ lw_good) (href : (T k).1 = ref) (hfin : (T k).2.2.2 = false)
    {a : Nat} {fs : List Value} {v : Value} (hn : narrow (ty0 k) v = v) (hfit : fits (ty0 k) v = true) (hu : u a = some (.inr (ci, fs))) (hl : k < fs.length) (d : decode cc pc = .ok (.putfield index, 3))
    (kk : Xw p l e R s m args below meth c G z nL Z (pc + 3) lo st (hup u a (.inr (ci, fs.set k v))) n kc ks) : Xw p l e R s m args below meth c G z nL Z pc lo (v :: .ref (z + a) :: st) u n kc ks := by
  intro H locs ls hL hH hS0
  obtain ⟨hexec, hb, -, hown, hts, ⟨hK, -⟩, hzs⟩ := C
  have hap := va_apart (own := own) hts hin ty0 hty hnm hK hc
  obtain ⟨r, h1, cell, q1, q2, q3, q4⟩ := hH.2 a _ hu
  have hr : r = (C', T, N) := Option.some.inj (h1.symm.trans hc)
  subst hr
  obtain ⟨hS, hfc, kC, hkC, hkind⟩ := hK.1 ci _ hc
  obtain ⟨cf, kf, fi, f, hi, hsl⟩ := hS k hk
  have hlay := hts _ (hin _ (u_in_lay hk))
  unfold u_lay at hlay
  rw [if_neg (by rw [hfin]; decide)] at hlay
  have hst := (u_facts hfc hkC (u_lays hts hin hk) hi).1
  have h6 := u_store hfc hkC hkind hlay hi (hty k hk) hn hfit
  refine W.putK hexec hb (f := f) ⟨hown, hts _ hw, ⟨_, _, _, by rw [← href]; exact hi⟩, hst⟩ (by rw [q2]; exact h6) q1 q3 (by rw [hsl]; exact k2_hasslot (q4 k hk)) rfl rfl d fun H' e1 e2 e3 => ?_
  rw [hsl] at e1 ⊢
  exact kk H' _ ls hL (hH.upd e2 e3 ⟨_, hc, t_OB.to (V := updV (vp_V fs) k v) ⟨_, e1, q2, q3, t_set q4 hap hk v⟩ (fun j _ => vp_updV_set hl v j)⟩) (hS0.put e2 e3 (by show z ≤ z + a; omega))
theorem x_putF (C : Cx p s m args c G own cc nL z) {ref C' : String} {T : u_T} {N ci index : Nat} (hin : ∀ w ∈ u_ws C' T N, w ∈ lw_good) (ty0 : Nat → FieldType) (hty : ∀ k, k < N → parseFieldDescriptor (T k).2.2.1 = some (ty0 k)) (hnm : ∀ a, a < N → ∀ b, b < N → a ≠ b → (T a).2.1 ≠ (T b).2.1) (hc : vwCl[ci]? = some (C', T, N)) (k : Nat) (hk : k < N) (hw : Cond.fieldLink own index ref (T k).2.1 (T k).2.2.1 ∈ lw_good) (href : (T k).1 = ref) (hfin : (T k).2.2.2 = true) (hin2 : meth.name = "<init>") (hdecl : (T k).1 = own)
    {a : Nat} {fs : List Value} {v : Value} (hn : narrow (ty0 k) v = v) (hfit : fits (ty0 k) v = true) (hu : u a = some (.inr (ci, fs))) (hl : k < fs.length) (d : decode cc pc = .ok (.putfield index, 3))
    (kk : Xw p l e R s m args below meth c G z nL Z (pc + 3) lo st (hup u a (.inr (ci, fs.set k v))) n kc ks) : Xw p l e R s m args below meth c G z nL Z pc lo (v :: .ref (z + a) :: st) u n kc ks := by
  intro H locs ls hL hH hS0
  obtain ⟨hexec, hb, -, hown, hts, ⟨hK, -⟩, hzs⟩ := C
  have hap := va_apart (own := own) hts hin ty0 hty hnm hK hc
  obtain ⟨r, h1, cell, q1, q2, q3, q4⟩ := hH.2 a _ hu
  have hr : r = (C', T, N) := Option.some.inj (h1.symm.trans hc)
  subst hr
  obtain ⟨hS, hfc, kC, hkC, hkind⟩ := hK.1 ci _ hc
  obtain ⟨cf, kf, fi, f, hi, hsl⟩ := hS k hk
  have hlay := hts _ (hin _ (u_in_lay hk))
  unfold u_lay at hlay
  rw [if_pos hfin] at hlay
  have hst := (u_facts hfc hkC (u_lays hts hin hk) hi).1
  have hcf : m.cls = cf := by
    obtain ⟨_, _, c', _, _, _, -, -, hf', -, -, -, hown2, -⟩ := Cond.laysFinal_spec hlay
    have e1 : c' = cf := by have := hi.symm.trans hf'; simp at this; exact this.1.symm
    rw [hdecl] at hown2
    rw [← e1]; exact Option.some.inj (hown.symm.trans hown2)
  have h6 := u_fits hfc hkC hkind (Or.inr hlay) hi (hty k hk) hn hfit
  refine W.putFinK hexec hb hown (hts _ hw) (by rw [← href]; exact hi) hst hcf hin2 (by rw [q2]; exact h6) q1 q3 (by rw [hsl]; exact k2_hasslot (q4 k hk)) rfl rfl d fun H' e1 e2 e3 => ?_
  rw [hsl] at e1 ⊢
  exact kk H' _ ls hL (hH.upd e2 e3 ⟨_, hc, t_OB.to (V := updV (vp_V fs) k v) ⟨_, e1, q2, q3, t_set q4 hap hk v⟩ (fun j _ => vp_updV_set hl v j)⟩) (hS0.put e2 e3 (by show z ≤ z + a; omega))
/-- arrays -/
theorem x_iald (C : Cx p s m args c G own cc nL z) {a N : Nat} {f : Nat → Int32} {i : Int32} (hu : u a = some (aI G N f)) (hin : vp_in i N) (d : decode cc pc = .ok (.iaload, 1))
    (kk : Xw p l e R s m args below meth c G z nL Z (pc + 1) lo (.int (f i.toNatClampNeg) :: st) u n kc ks) : Xw p l e R s m args below meth c G z nL Z pc lo (.int i :: .ref (z + a) :: st) u n kc ks :=
  fun H locs ls hl hH hS => va_iald (ws := [(z + a, aI G N f)]) C.1 C.2.1 C.2.2.2.2.2.1.1 (hH.one hu) 0 0 rfl rfl hin d (kk H locs ls hl hH hS)
theorem x_zald (C : Cx p s m args c G own cc nL z) {a N : Nat} {f : Nat → Int32} {i : Int32} (hu : u a = some (aZ G N f)) (hin : vp_in i N) (d : decode cc pc = .ok (.baload, 1))
    (kk : Xw p l e R s m args below meth c G z nL Z (pc + 1) lo (.int (f i.toNatClampNeg) :: st) u n kc ks) : Xw p l e R s m args below meth c G z nL Z pc lo (.int i :: .ref (z + a) :: st) u n kc ks :=
  fun H locs ls hl hH hS => va_zald (ws := [(z + a, aZ G N f)]) C.1 C.2.1 C.2.2.2.2.2.1.1 (hH.one hu) 0 1 rfl rfl hin d (kk H locs ls hl hH hS)
theorem x_lald (C : Cx p s m args c G own cc nL z) {a N : Nat} {f : Nat → Int64} {i : Int32} (hu : u a = some (aL G N f)) (hin : vp_in i N) (d : decode cc pc = .ok (.laload, 1))
    (kk : Xw p l e R s m args below meth c G z nL Z (pc + 1) lo (.long (f i.toNatClampNeg) :: st) u n kc ks) : Xw p l e R s m args below meth c G z nL Z pc lo (.int i :: .ref (z + a) :: st) u n kc ks :=
  fun H locs ls hl hH hS => va_lald (ws := [(z + a, aL G N f)]) C.1 C.2.1 C.2.2.2.2.2.1.1 (hH.one hu) 0 2 rfl rfl hin d (kk H locs ls hl hH hS)
theorem x_aaldE (C : Cx p s m args c G own cc nL z) {a N y : Nat} {f : Nat → Option Nat} {i : Int32} (hu : u a = some (aE G N f)) (hin : vp_in i N) (hy : f i.toNatClampNeg = some y) (d : decode cc pc = .ok (.aaload, 1))
    (kk : Xw p l e R s m args below meth c G z nL Z (pc + 1) lo (.ref y :: st) u n kc ks) : Xw p l e R s m args below meth c G z nL Z pc lo (.int i :: .ref (z + a) :: st) u n kc ks :=
  fun H locs ls hl hH hS => va_aldq (ws := [(z + a, aE G N f)]) C.1 C.2.1 C.2.2.2.2.2.1.1 (hH.one hu) 0 3 rfl rfl hin d (by rw [hy]; exact kk H locs ls hl hH hS)
theorem x_aaldM (C : Cx p s m args c G own cc nL z) {a N y : Nat} {f : Nat → Option Nat} {i : Int32} (hu : u a = some (aM G N f)) (hin : vp_in i N) (hy : f i.toNatClampNeg = some y) (d : decode cc pc = .ok (.aaload, 1))
    (kk : Xw p l e R s m args below meth c G z nL Z (pc + 1) lo (.ref y :: st) u n kc ks) : Xw p l e R s m args below meth c G z nL Z pc lo (.int i :: .ref (z + a) :: st) u n kc ks :=
  fun H locs ls hl hH hS => va_aldq (ws := [(z + a, aM G N f)]) C.1 C.2.1 C.2.2.2.2.2.1.1 (hH.one hu) 0 4 rfl rfl hin d (by rw [hy]; exact kk H locs ls hl hH hS)
theorem x_alen (C : Cx p s m args c G own cc nL z) (t0 : Nat) {a : Nat} {cA : ClassId} {x : vp_A} {ty : FieldType} (hu : u a = some (.inl (cA, x))) (ht : (gtys G)[t0]? = some (cA, ty)) {v : Int32} (hv : Int32.ofNat x.1 = v) (d : decode cc pc = .ok (.arraylength, 1))
    (kk : Xw p l e R s m args below meth c G z nL Z (pc + 1) lo (.int v :: st) u n kc ks) : Xw p l e R s m args below meth c G z nL Z pc lo (.ref (z + a) :: st) u n kc ks :=
  fun H locs ls hl hH hS => va_alen (ws := [(z + a, .inl (cA, x))]) C.1 C.2.1 C.2.2.2.2.2.1.1 (hH.one hu) 0 t0 rfl ht hv d (kk H locs ls hl hH hS)
theorem x_iast (C : Cx p s m args c G own cc nL z) {a N : Nat} {f : Nat → Int32} {i v : Int32} (hu : u a = some (aI G N f)) (hin : vp_in i N) (d : decode cc pc = .ok (.iastore, 1))
    (kk : Xw p l e R s m args below meth c G z nL Z (pc + 1) lo st (hup u a (aI G N (upd f i.toNatClampNeg v))) n kc ks) : Xw p l e R s m args below meth c G z nL Z pc lo (.int v :: .int i :: .ref (z + a) :: st) u n kc ks := by
  intro H locs ls hL hH hS
  refine W.iast C.1 C.2.1 (hH.2 a _ hu) ((C.2.2.2.2.2.1.1.2 0 (G.2 0, .int) rfl).1 N (fun j => .int (f j))) (fun q => by cases q) (by show ¬ (i < 0 ∨ (arrV _ _ _).slots.size ≤ _); rw [arrV_size]; exact hin) rfl rfl d fun H1 e1 hz oq => ?_
  refine kk H1 _ ls hL (hH.upd hz oq ?_) (hS.put hz oq (by show z ≤ z + a; omega))
  show H1[z + a]? = some (vp_cell _ _)
  rw [e1]
  rw [vp_cell_i, vp_cell_i, arrV_store]
  congr 2
  funext q
  by_cases hq : q = i.toNatClampNeg
  · subst hq
    simp [updV, upd]
  · simp [updV, upd, hq]
theorem x_zast (C : Cx p s m args c G own cc nL z) {a N : Nat} {f : Nat → Int32} {i v : Int32} (hu : u a = some (aZ G N f)) (hin : vp_in i N) (d : decode cc pc = .ok (.bastore, 1))
    (kk : Xw p l e R s m args below meth c G z nL Z (pc + 1) lo st (hup u a (aZ G N (upd f i.toNatClampNeg (vp_nar .boolean v)))) n kc ks) : Xw p l e R s m args below meth c G z nL Z pc lo (.int v :: .int i :: .ref (z + a) :: st) u n kc ks := by
  intro H locs ls hL hH hS
  refine W.zast C.1 C.2.1 (hH.2 a _ hu) ((C.2.2.2.2.2.1.1.2 1 (G.2 1, .boolean) rfl).1 N (fun j => .int (f j))) (fun q => by cases q) (by show ¬ (i < 0 ∨ (arrV _ _ _).slots.size ≤ _); rw [arrV_size]; exact hin) rfl rfl d fun H1 e1 hz oq => ?_
  refine kk H1 _ ls hL (hH.upd hz oq ?_) (hS.put hz oq (by show z ≤ z + a; omega))
  show H1[z + a]? = some (vp_cell _ _)
  rw [e1]
  rw [vp_cell_i, vp_cell_i, arrV_store]
  congr 2
  funext q
  by_cases hq : q = i.toNatClampNeg
  · subst hq
    simp [updV, upd, vp_nar]
    try rfl
  · simp [updV, upd, hq]
theorem x_last (C : Cx p s m args c G own cc nL z) {a N : Nat} {f : Nat → Int64} {i : Int32} {v : Int64} (hu : u a = some (aL G N f)) (hin : vp_in i N) (d : decode cc pc = .ok (.lastore, 1))
    (kk : Xw p l e R s m args below meth c G z nL Z (pc + 1) lo st (hup u a (aL G N (vp_updL f i.toNatClampNeg v))) n kc ks) : Xw p l e R s m args below meth c G z nL Z pc lo (.long v :: .int i :: .ref (z + a) :: st) u n kc ks := by
  intro H locs ls hL hH hS
  refine W.last C.1 C.2.1 (hH.2 a _ hu) ((C.2.2.2.2.2.1.1.2 2 (G.2 2, .long) rfl).1 N (fun j => .long (f j))) (fun q => by cases q) (by show ¬ (i < 0 ∨ (arrV _ _ _).slots.size ≤ _); rw [arrV_size]; exact hin) rfl rfl d fun H1 e1 hz oq => ?_
  refine kk H1 _ ls hL (hH.upd hz oq ?_) (hS.put hz oq (by show z ≤ z + a; omega))
  show H1[z + a]? = some (vp_cell _ _)
  rw [e1]
  rw [vp_cell_l, vp_cell_l, arrV_store]
  congr 2
  funext q
  by_cases hq : q = i.toNatClampNeg
  · subst hq
    simp [updV, vp_updL]
  · simp [updV, vp_updL, hq]
theorem x_iret (C : Cx p s m args c G own cc nL z) {mc ms : Nat} {v : Int32} {r : Option Value} {u' : HpT} {n' : Nat} (hr : meth.sig.returnType = some .int) (hlk : meth.locks = false) (h1 : kc ≤ mc) (h2 : ks ≤ ms) (d : decode cc pc = .ok (.ireturn, 1)) (hv : some (Value.int v) = r) (hu : u = u') (hn : n = n') : Xw p l e R s m args below meth c G z nL (MQ below (Qm G z r u' n') args s mc ms (zA z)) pc lo [.int v] u n kc ks := by
  intro H locs ls hL hH hS
  subst hv; subst hu; subst hn
  refine W.widen h1 h2 ?_
  exact W.iret C.1 C.2.1 hr (fun t ht hW => ⟨⟨rfl, by rw [ht]; exact hH⟩, hS.F ht⟩) hS.2.2 d hlk
theorem x_zret (C : Cx p s m args c G own cc nL z) {mc ms : Nat} {v : Int32} {r : Option Value} {u' : HpT} {n' : Nat} (hr : meth.sig.returnType = some .boolean) (hlk : meth.locks = false) (h1 : kc ≤ mc) (h2 : ks ≤ ms) (d : decode cc pc = .ok (.ireturn, 1)) (hb : narrow .boolean (.int v) = .int v) (hv : some (Value.int v) = r) (hu : u = u') (hn : n = n') : Xw p l e R s m args below meth c G z nL (MQ below (Qm G z r u' n') args s mc ms (zA z)) pc lo [.int v] u n kc ks := by
  intro H locs ls hL hH hS
  subst hv; subst hu; subst hn
  refine W.widen h1 h2 ?_
  exact W.zret C.1 C.2.1 hr hb (fun t ht hW => ⟨⟨rfl, by rw [ht]; exact hH⟩, hS.F ht⟩) hS.2.2 d hlk
theorem x_vret (C : Cx p s m args c G own cc nL z) {mc ms : Nat} {r : Option Value} {u' : HpT} {n' : Nat} (hr : meth.sig.returnType = none) (hlk : meth.locks = false) (h1 : kc ≤ mc) (h2 : ks ≤ ms) (d : decode cc pc = .ok (.return_, 1)) (hv : none = r) (hu : u = u') (hn : n = n') : Xw p l e R s m args below meth c G z nL (MQ below (Qm G z r u' n') args s mc ms (zA z)) pc lo [] u n kc ks := by
  intro H locs ls hL hH hS
  subst hv; subst hu; subst hn
  refine W.widen h1 h2 ?_
  exact W.vret C.1 C.2.1 hr (fun t ht hW => ⟨⟨rfl, by rw [ht]; exact hH⟩, hS.F ht⟩) hS.2.2 d hlk
end XR
theorem Hd.grow {G : GT} {z n : Nat} {u : HpT} {q : va_E} {H H1 : Heap} (h : Hd G z u n H) (hz : H1.size = H.size + 1) (ho : ∀ x : Nat, x < H.size → H1[x]? = H[x]?) (hq : va_at G.1 vwCl (z + n, q) H1) : Hd G z (hup u n q) (n + 1) H1 := by
  refine ⟨by rw [hz, h.1]; omega, fun k e hk => ?_⟩
  by_cases hka : k = n
  · subst hka
    rw [hup_s] at hk
    cases hk
    exact hq
  · rw [hup_n hka] at hk
    have h1 := h.2 k e hk
    exact h1.kept (ho _ h1.lt)
theorem zA_push {z : Nat} {H0 H H1 : Heap} {locs : List Loc} (h : va_S (zA z) H0 H locs) (hz : H1.size = H.size + 1) (ho : ∀ x : Nat, x < H.size → H1[x]? = H[x]?) : va_S (zA z) H0 H1 locs :=
  ⟨Nat.le_trans h.1 (by omega), fun x h1 h2 => (ho x (Nat.lt_of_lt_of_le h1 h.1)).trans (h.2.1 x h1 h2), h.2.2⟩
section XR2
variable {p : Program} {l : Launch} {e : Env} {R : Room} {s : State} {m : MethodId} {args : Array Value} {below : List Frame} {meth : Method} {c : Code} {G : GT} {z nL : Nat} {Z : State → Prop} {pc : Nat} {lo : List (Nat × Value)} {st : List Value} {u : HpT} {n kc ks : Nat} {own : String} {cc : ByteArray}
theorem x_new (C : Cx p s m args c G own cc nL z) {C' : String} {T : u_T} {N ci index : Nat} (hin : ∀ w ∈ u_ws C' T N, w ∈ lw_good) (ty0 : Nat → FieldType) (hty : ∀ k, k < N → parseFieldDescriptor (T k).2.2.1 = some (ty0 k)) (hc : vwCl[ci]? = some (C', T, N)) (hwl : Cond.classLink own index C' ∈ lw_good) (hwi : Cond.instantiable C' N ∈ lw_good) (hwn : Cond.initialized C' ∈ lw_good)
    (fs : List Value) (hfs : ∀ j, j < N → defaultValue (ty0 j) = vp_V fs j) (hcells : kc + 1 ≤ R.cells) (hslots : ks + N ≤ R.slots) (d : decode cc pc = .ok (.new index, 3))
    (kk : Xw p l e R s m args below meth c G z nL Z (pc + 3) lo (.ref (z + n) :: st) (hup u n (.inr (ci, fs))) (n + 1) (kc + 1) (ks + N)) : Xw p l e R s m args below meth c G z nL Z pc lo st u n kc ks := by
  intro H locs ls hL hH hS
  obtain ⟨hexec, hb, -, hown, hts, ⟨hK, -⟩, hzs⟩ := C
  have hKn := hK.1 ci _ hc
  refine W.newcK hexec hb hown (hts _ hwl) (hts _ hwi) (hts _ hwn) rfl d hcells hslots hKn.2.1 hH.1 fun H1 kC hkC e1 z1 o1 => ?_
  have z1' : H1.size = H.size + 1 := by rw [z1, hH.1]
  have o1' : ∀ x : Nat, x < H.size → H1[x]? = H[x]? := fun x hx => o1 x (by rw [← hH.1]; exact hx)
  exact kk H1 locs ls hL (hH.grow z1' o1' ⟨_, hc, (u_born ty0 hts hin hKn hkC e1 hty).to hfs⟩) (zA_push hS z1' o1')
theorem x_newI (C : Cx p s m args c G own cc nL z) (hw : Cond.arrayClass .int ∈ lw_good) {i : Int32} (N : Nat) (hn : ¬ i < 0) (hN : i.toNatClampNeg = N) (hbytes : N * componentBytes .int ≤ 536870912) (hcells : kc + 1 ≤ R.cells) (hslots : ks + N ≤ R.slots) (d : decode cc pc = .ok (.newarray .int, 2))
    (kk : Xw p l e R s m args below meth c G z nL Z (pc + 2) lo (.ref (z + n) :: st) (hup u n (aI G N (fun _ => 0))) (n + 1) (kc + 1) (ks + N)) : Xw p l e R s m args below meth c G z nL Z pc lo (.int i :: st) u n kc ks := by
  intro H locs ls hL hH hS
  obtain ⟨hexec, hb, -, hown, hts, ⟨hK, -⟩, hzs⟩ := C
  refine va_newaK (atype := .int) hexec hb (hts _ hw) rfl d rfl hn hN hbytes hcells hslots hH.1 fun H1 cA e1 z1 o1 hAr hNm => ?_
  have hcA : G.2 0 = cA := Option.some.inj ((hK.2 0 (G.2 0, .int) rfl).2.symm.trans hNm)
  subst hcA
  have z1' : H1.size = H.size + 1 := by rw [z1, hH.1]
  have o1' : ∀ x : Nat, x < H.size → H1[x]? = H[x]? := fun x hx => o1 x (by rw [← hH.1]; exact hx)
  refine kk H1 locs ls hL (hH.grow z1' o1' ?_) (zA_push hS z1' o1')
  show H1[z + n]? = some (vp_cell _ _)
  rw [e1, vp_cell_i]
  rfl
theorem x_newZ (C : Cx p s m args c G own cc nL z) (hw : Cond.arrayClass .boolean ∈ lw_good) {i : Int32} (N : Nat) (hn : ¬ i < 0) (hN : i.toNatClampNeg = N) (hbytes : N * componentBytes .boolean ≤ 536870912) (hcells : kc + 1 ≤ R.cells) (hslots : ks + N ≤ R.slots) (d : decode cc pc = .ok (.newarray .boolean, 2))
    (kk : Xw p l e R s m args below meth c G z nL Z (pc + 2) lo (.ref (z + n) :: st) (hup u n (aZ G N (fun _ => 0))) (n + 1) (kc + 1) (ks + N)) : Xw p l e R s m args below meth c G z nL Z pc lo (.int i :: st) u n kc ks := by
  intro H locs ls hL hH hS
  obtain ⟨hexec, hb, -, hown, hts, ⟨hK, -⟩, hzs⟩ := C
  refine va_newaK (atype := .boolean) hexec hb (hts _ hw) rfl d rfl hn hN hbytes hcells hslots hH.1 fun H1 cA e1 z1 o1 hAr hNm => ?_
  have hcA : G.2 1 = cA := Option.some.inj ((hK.2 1 (G.2 1, .boolean) rfl).2.symm.trans hNm)
  subst hcA
  have z1' : H1.size = H.size + 1 := by rw [z1, hH.1]
  have o1' : ∀ x : Nat, x < H.size → H1[x]? = H[x]? := fun x hx => o1 x (by rw [← hH.1]; exact hx)
  refine kk H1 locs ls hL (hH.grow z1' o1' ?_) (zA_push hS z1' o1')
  show H1[z + n]? = some (vp_cell _ _)
  rw [e1, vp_cell_i]
  rfl
theorem x_newL (C : Cx p s m args c G own cc nL z) (hw : Cond.arrayClass .long ∈ lw_good) {i : Int32} (N : Nat) (hn : ¬ i < 0) (hN : i.toNatClampNeg = N) (hbytes : N * componentBytes .long ≤ 536870912) (hcells : kc + 1 ≤ R.cells) (hslots : ks + N ≤ R.slots) (d : decode cc pc = .ok (.newarray .long, 2))
    (kk : Xw p l e R s m args below meth c G z nL Z (pc + 2) lo (.ref (z + n) :: st) (hup u n (aL G N (fun _ => 0))) (n + 1) (kc + 1) (ks + N)) : Xw p l e R s m args below meth c G z nL Z pc lo (.int i :: st) u n kc ks := by
  intro H locs ls hL hH hS
  obtain ⟨hexec, hb, -, hown, hts, ⟨hK, -⟩, hzs⟩ := C
  refine va_newaK (atype := .long) hexec hb (hts _ hw) rfl d rfl hn hN hbytes hcells hslots hH.1 fun H1 cA e1 z1 o1 hAr hNm => ?_
  have hcA : G.2 2 = cA := Option.some.inj ((hK.2 2 (G.2 2, .long) rfl).2.symm.trans hNm)
  subst hcA
  have z1' : H1.size = H.size + 1 := by rw [z1, hH.1]
  have o1' : ∀ x : Nat, x < H.size → H1[x]? = H[x]? := fun x hx => o1 x (by rw [← hH.1]; exact hx)
  refine kk H1 locs ls hL (hH.grow z1' o1' ?_) (zA_push hS z1' o1')
  show H1[z + n]? = some (vp_cell _ _)
  rw [e1, vp_cell_l]
  rfl
theorem x_anew0 (C : Cx p s m args c G own cc nL z) {C' : String} {index : Nat} (t0 : Nat) {cA0 : ClassId} (ht : (gtys G)[t0]? = some (cA0, .object C')) (hao : va_AO C' s) (hwl : Cond.classLink own index C' ∈ lw_good) {i : Int32} (N : Nat) (hn : ¬ i < 0) (hN : i.toNatClampNeg = N) (hbytes : N * 4 ≤ 536870912) (hcells : kc + 1 ≤ R.cells) (hslots : ks + N ≤ R.slots) (d : decode cc pc = .ok (.anewarray index, 3))
    (kk : Xw p l e R s m args below meth c G z nL Z (pc + 3) lo (.ref (z + n) :: st) (hup u n (.inl (cA0, N, .inr (.inr (.inr (.inr (fun _ => none))))))) (n + 1) (kc + 1) (ks + N)) : Xw p l e R s m args below meth c G z nL Z pc lo (.int i :: st) u n kc ks := by
  intro H locs ls hL hH hS
  obtain ⟨hexec, hb, -, hown, hts, ⟨hK, -⟩, hzs⟩ := C
  subst hN
  refine W.anew hexec hb hown (hts _ hwl) (va_AO.use hao) rfl d rfl hn hbytes hcells hslots fun cA kA comp f1 f2 f3 f4 => ?_
  obtain ⟨kA', comp', g1, g2, g3, g4⟩ := (hK.2 t0 _ ht).2
  have hcA : cA0 = cA := Option.some.inj (g4.symm.trans f1)
  subst hcA
  generalize hH1 : H.push ({ cls := cA0, slots := Array.replicate i.toNatClampNeg .null, vm := .none } : Cell) = H1
  have z1 : H1.size = H.size + 1 := by rw [← hH1, Array.size_push]
  have e1 : H1[H.size]? = some (arrV cA0 i.toNatClampNeg (fun _ => .null)) := by rw [← hH1, Array.getElem?_push_size, ← arrV_new]
  have o1 : ∀ q : Nat, q < H.size → H1[q]? = H[q]? := fun q hq => by rw [← hH1, Array.getElem?_push, if_neg (Nat.ne_of_lt hq)]
  rw [hH.1]
  refine kk H1 locs ls hL (hH.grow z1 o1 ?_) (zA_push hS z1 o1)
  show H1[z + n]? = some (vp_cell _ _)
  rw [vp_cell_q, ← hH.1]
  exact e1
theorem x_aast (C : Cx p s m args c G own cc nL z) (t0 ci : Nat) {a b N : Nat} {cA : ClassId} {r : vw_C} {vs : List Value} {f : Nat → Option Nat} {i : Int32} (ht : (gtys G)[t0]? = some (cA, .object r.1)) (hu : u a = some (.inl (cA, N, .inr (.inr (.inr (.inr f)))))) (hb : u b = some (.inr (ci, vs))) (hc : vwCl[ci]? = some r) (hin : vp_in i N) (d : decode cc pc = .ok (.aastore, 1))
    (kk : Xw p l e R s m args below meth c G z nL Z (pc + 1) lo st (hup u a (.inl (cA, N, .inr (.inr (.inr (.inr (va_up f i.toNatClampNeg (some (z + b)))))))) ) n kc ks) : Xw p l e R s m args below meth c G z nL Z pc lo (.ref (z + b) :: .int i :: .ref (z + a) :: st) u n kc ks := by
  intro H locs ls hL hH hS
  obtain ⟨hexec, hbc, -, hown, hts, ⟨hK, -⟩, hzs⟩ := C
  have hlt : i.toNatClampNeg < N := Nat.not_le.mp fun q => hin (Or.inr q)
  have h0 : ¬ i < 0 := fun q => hin (Or.inl q)
  obtain ⟨r', hr', cellV, g1, g2, g3, -⟩ := hH.2 b _ hb
  have hcls := (hK.1 ci r hc).2
  obtain ⟨kA, comp, k1, k2, k3, -⟩ := (hK.2 t0 _ ht).2
  have hcomp : comp = G.1.1 ci := Option.some.inj (k3.symm.trans hcls.1)
  subst hcomp
  obtain ⟨kC, hkC, -⟩ := hcls.2
  refine W.aast hexec hbc (hH.2 a _ hu) (fun q h => by cases h) (fun h => by cases h) k1 k2 rfl hkC ⟨h0, by show _ < (arrV _ _ _).slots.size; rw [arrV_size]; exact hlt⟩ g1 (fun q h => by rw [g3] at h; cases h) (by rw [g2]; exact hkC) (by rw [g2]; exact va_assign hcls) rfl rfl d fun H1 e1 hz oq => ?_
  refine kk H1 _ ls hL (hH.upd hz oq ?_) (hS.put hz oq (by show z ≤ z + a; omega))
  show H1[z + a]? = some (vp_cell _ _)
  rw [e1]
  rw [vp_cell_q, vp_cell_q, arrV_store]
  congr 2
  funext q
  by_cases hq : q = i.toNatClampNeg
  · subst hq
    simp [updV, va_up, va_rf]
  · simp [updV, va_up, hq]
theorem x_objInit (C : Cx p s m args c G own cc nL z) {idx : Nat} (hw1 : Cond.methodLink own idx Lib.objectInit ∈ lw_good) (hw2 : Cond.instanceMethod Lib.objectInit ∈ lw_good) (hw3 : Cond.code Lib.objectInit ⟨#[0xb1]⟩ 1 none ∈ lw_good) {a : Nat} (hfr : 1 ≤ R.frames) (hlo : (st.map fun v => v.category).sum + 12 ≤ R.locals) (d : decode cc pc = .ok (.invokespecial idx, 3))
    (kk : Xw p l e R s m args below meth c G z nL Z (pc + 3) lo st u n kc ks) : Xw p l e R s m args below meth c G z nL Z pc lo (.ref a :: st) u n kc ks :=
  fun H locs ls hl hH hS => W.objInit C.1 C.2.1 C.2.2.2.1 (C.2.2.2.2.1 _ hw1) (C.2.2.2.2.1 _ hw2) (C.2.2.2.2.1 _ hw3) rfl (by rw [C.2.2.1]; exact hl.1) rfl d hfr (by show 2 * 0 + _ + 12 ≤ _; rw [Nat.mul_zero, Nat.zero_add]; exact hlo) (kk H locs ls hl hH hS)
theorem x_run {mc ms : Nat} {st0 rest : List Value} {r : Option Value} {u' : HpT} {n' : Nat} {a : Array Value} (hr : ∀ (H : Heap) (locs : List Loc) (ls : Array Slot), lv_has ls nL lo → Hd G z u n H → va_S (zA z) s.heap H locs → va_Run p l e R s m args below meth c H locs kc ks mc ms (F0 m pc ls st0) rest (Qm G z r u' n' a) (zA z))
    (kk : Xw p l e R s m args below meth c G z nL Z (pc + 3) lo (r.toList ++ rest) u' n' (kc + mc) (ks + ms)) : Xw p l e R s m args below meth c G z nL Z pc lo st0 u n kc ks := by
  intro H locs ls hL hH hS T hT X
  obtain ⟨v, st₀, t, T', L, h0, X', hl2, e1, e2, ⟨⟨hv, hb⟩, hz, hk⟩, sg⟩ := hr H locs ls hL hH hS T hT X
  cases hv
  rw [h0] at hz hk
  obtain ⟨t2, a1, b1⟩ := kk T'.heap (locs ++ L) ls hL (by rw [e1]; exact hb)
    ⟨Nat.le_trans hS.1 (by rw [e1]; exact hz), fun q h1 h2 => by rw [e1, hk q (Nat.lt_of_lt_of_le h1 hS.1) h2]; exact hS.2.1 q h1 h2, fun q hq => by
      rcases List.mem_append.mp hq with h | h
      · exact hS.2.2 q h
      · exact hl2 q h⟩ T' rfl X'
  exact ⟨t2, sg t2 a1, b1⟩
/-- what a callee's words are -/
def ClW (y : MethodName) (bc : ByteArray) (mL : Nat) (rt : Option FieldType) (k : Nat) : Prop := Cond.code y bc mL rt ∈ lw_good ∧ Cond.initialized y.cls ∈ lw_good ∧ (y.cls ≠ "java/lang/invoke/MethodHandle" ∧ y.cls ≠ "java/lang/invoke/VarHandle" ∧ (parseMethodDescriptor y.desc).map (fun d => d.parameters.length) = some k)
def ClV (y : MethodName) (bc : ByteArray) (mL : Nat) (rt : Option FieldType) (k : Nat) : Prop := ClW y bc mL rt k ∧ Cond.instanceMethod y ∈ lw_good ∧ Cond.selects y.cls y y ∈ lw_good
def ClS (y : MethodName) (bc : ByteArray) (mL : Nat) (rt : Option FieldType) (k : Nat) : Prop := ClW y bc mL rt k ∧ Cond.static y ∈ lw_good
def ClI (y : MethodName) (bc : ByteArray) (mL : Nat) (k : Nat) : Prop := ClW y bc mL none k ∧ y.name = "<init>" ∧ Cond.instanceMethod y ∈ lw_good
theorem pc_blind {G : GT} {z : Nat} {av : List Value} {u : HpT} {n : Nat} : FrameBlind (va_Pc av (fun U => Hd G z u n U.heap ∧ Kx G U)) := fun _ _ _ _ h => ⟨h.1, h.2.1, h.2.2.calling⟩
theorem x_callV (C : Cx p s m args c G own cc nL z) {y : MethodName} {bc : ByteArray} {mL k : Nat} {rt : Option FieldType} (hC : ClV y bc mL rt k) {index : Nat} (hw : Cond.methodLink own index y ∈ lw_good) {rm : Room} {b ci : Nat} {T : u_T} {N : Nat} {fs : List Value} {As rest st0 : List Value} {r : Option Value} {u' : HpT} {n' : Nat} (hcl : vwCl[ci]? = some (y.cls, T, N)) (hu : u b = some (.inr (ci, fs)))
    (hM : Mt G l z y bc mL rt rm (.ref (z + b) :: As) u n r u' n') (hst : st0 = As.reverse ++ .ref (z + b) :: rest) (hlen : As.length = k) (hcat : (rest.map fun v => v.category).sum ≤ 8) (hR : rm.frames + 1 ≤ R.frames ∧ 8 + (mL + 11) + rm.locals ≤ R.locals) (hf : kc + rm.cells ≤ R.cells ∧ ks + rm.slots ≤ R.slots) (d : decode cc pc = .ok (.invokevirtual index, 3))
    (kk : Xw p l e R s m args below meth c G z nL Z (pc + 3) lo (r.toList ++ rest) u' n' (kc + rm.cells) (ks + rm.slots)) : Xw p l e R s m args below meth c G z nL Z pc lo st0 u n kc ks := by
  subst hst
  refine x_run (mc := rm.cells) (ms := rm.slots) (r := r) (u' := u') (n' := n') (a := (Value.ref (z + b) :: As).toArray) (fun H locs ls hL hH hS => ?_) kk
  have hts := C.2.2.2.2.1
  refine va_runV (C := y.cls) (As := As) (rest := rest) ⟨C.1, C.2.1, C.2.2.1, C.2.2.2.1, hts⟩ hM ⟨callB_of (ws' := lw_good) k hts (goodIn_good hC.1.1) rfl rfl rfl (hts _ hC.1.2.1) (hts _ hw) hC.1.2.2 hR, hts _ hC.2.1, hts _ hC.2.2⟩ ⟨pc_blind, ?_, fun U hU hW => ⟨rfl, by rw [hU]; exact hH, C.2.2.2.2.2.1.warm hW⟩⟩ rfl hlen hL.1 rfl (lv_room hcat) d hf
  exact va_recv C.2.2.2.2.2.1.1 (hH.one hu) hcl (q0 := 0) rfl
theorem x_callS (C : Cx p s m args c G own cc nL z) {y : MethodName} {bc : ByteArray} {mL k : Nat} {rt : Option FieldType} (hC : ClS y bc mL rt k) {index : Nat} (hw : Cond.methodLink own index y ∈ lw_good) {rm : Room} {As rest st0 : List Value} {r : Option Value} {u' : HpT} {n' : Nat}
    (hM : Mt G l z y bc mL rt rm As u n r u' n') (hst : st0 = As.reverse ++ rest) (hlen : As.length = k) (hcat : (rest.map fun v => v.category).sum ≤ 8) (hR : rm.frames + 1 ≤ R.frames ∧ 8 + (mL + 11) + rm.locals ≤ R.locals) (hf : kc + rm.cells ≤ R.cells ∧ ks + rm.slots ≤ R.slots) (d : decode cc pc = .ok (.invokestatic index, 3))
    (kk : Xw p l e R s m args below meth c G z nL Z (pc + 3) lo (r.toList ++ rest) u' n' (kc + rm.cells) (ks + rm.slots)) : Xw p l e R s m args below meth c G z nL Z pc lo st0 u n kc ks := by
  subst hst
  refine x_run (mc := rm.cells) (ms := rm.slots) (r := r) (u' := u') (n' := n') (a := As.toArray) (fun H locs ls hL hH hS => ?_) kk
  have hts := C.2.2.2.2.1
  exact va_runS (As := As) (rest := rest) ⟨C.1, C.2.1, C.2.2.1, C.2.2.2.1, hts⟩ hM ⟨callB_of (ws' := lw_good) k hts (goodIn_good hC.1.1) rfl rfl rfl (hts _ hC.1.2.1) (hts _ hw) hC.1.2.2 hR, hts _ hC.2⟩ ⟨pc_blind, fun U hU hW => ⟨rfl, by rw [hU]; exact hH, C.2.2.2.2.2.1.warm hW⟩⟩ rfl hlen hL.1 rfl (lv_room hcat) d hf
theorem x_callSN (C : Cx p s m args c G own cc nL z) {y : MethodName} {bc : ByteArray} {mL k : Nat} {rt : Option FieldType} (hC : ClS y bc mL rt k) {index : Nat} {host : String} (hw : Cond.methodLinkNest own index y host ∈ lw_tbl) {rm : Room} {As rest st0 : List Value} {r : Option Value} {u' : HpT} {n' : Nat}
    (hM : Mt G l z y bc mL rt rm As u n r u' n') (hst : st0 = As.reverse ++ rest) (hlen : As.length = k) (hcat : (rest.map fun v => v.category).sum ≤ 8) (hR : rm.frames + 1 ≤ R.frames ∧ 8 + (mL + 11) + rm.locals ≤ R.locals) (hf : kc + rm.cells ≤ R.cells ∧ ks + rm.slots ≤ R.slots) (d : decode cc pc = .ok (.invokestatic index, 3))
    (kk : Xw p l e R s m args below meth c G z nL Z (pc + 3) lo (r.toList ++ rest) u' n' (kc + rm.cells) (ks + rm.slots)) : Xw p l e R s m args below meth c G z nL Z pc lo st0 u n kc ks := by
  subst hst
  refine x_run (mc := rm.cells) (ms := rm.slots) (r := r) (u' := u') (n' := n') (a := As.toArray) (fun H locs ls hL hH hS => ?_) kk
  have hts := C.2.2.2.2.1
  exact va_runSN (As := As) (rest := rest) ⟨C.1, C.2.1, C.2.2.1, C.2.2.2.1, hts⟩ hM ⟨va_cnB (ws' := lw_good) k hts (goodIn_good hC.1.1) rfl rfl rfl (C.2.2.2.2.2.1.2.2.2 _ _ _ _ hw) (hts _ hC.1.2.1) hC.1.2.2 hR, hts _ hC.2, trivial⟩ ⟨pc_blind, fun U hU hW => ⟨rfl, by rw [hU]; exact hH, C.2.2.2.2.2.1.warm hW⟩⟩ rfl hlen hL.1 rfl (lv_room hcat) d hf
theorem x_callI (C : Cx p s m args c G own cc nL z) {y : MethodName} {bc : ByteArray} {mL k : Nat} (hC : ClI y bc mL k) {index : Nat} (hw : Cond.methodLink own index y ∈ lw_good) {rm : Room} {b : Nat} {As rest st0 : List Value} {r : Option Value} {u' : HpT} {n' : Nat}
    (hM : Mt G l z y bc mL none rm (.ref b :: As) u n r u' n') (hst : st0 = As.reverse ++ .ref b :: rest) (hlen : As.length = k) (hcat : (rest.map fun v => v.category).sum ≤ 8) (hR : rm.frames + 1 ≤ R.frames ∧ 8 + (mL + 11) + rm.locals ≤ R.locals) (hf : kc + rm.cells ≤ R.cells ∧ ks + rm.slots ≤ R.slots) (d : decode cc pc = .ok (.invokespecial index, 3))
    (kk : Xw p l e R s m args below meth c G z nL Z (pc + 3) lo (r.toList ++ rest) u' n' (kc + rm.cells) (ks + rm.slots)) : Xw p l e R s m args below meth c G z nL Z pc lo st0 u n kc ks := by
  subst hst
  refine x_run (mc := rm.cells) (ms := rm.slots) (r := r) (u' := u') (n' := n') (a := (Value.ref b :: As).toArray) (fun H locs ls hL hH hS => ?_) kk
  have hts := C.2.2.2.2.1
  exact va_runI (As := As) (rest := rest) ⟨C.1, C.2.1, C.2.2.1, C.2.2.2.1, hts⟩ hM ⟨callB_of (ws' := lw_good) k hts (goodIn_good hC.1.1) rfl rfl rfl (hts _ hC.1.2.1) (hts _ hw) hC.1.2.2 hR, hC.2.1, hts _ hC.2.2⟩ ⟨pc_blind, fun U hU hW => ⟨rfl, by rw [hU]; exact hH, C.2.2.2.2.2.1.warm hW⟩⟩ rfl hlen hL.1 rfl (lv_room hcat) d hf
theorem x_callIN (C : Cx p s m args c G own cc nL z) {y : MethodName} {bc : ByteArray} {mL k : Nat} (hC : ClI y bc mL k) {index : Nat} {host : String} (hw : Cond.methodLinkNest own index y host ∈ lw_tbl) {rm : Room} {b : Nat} {As rest st0 : List Value} {r : Option Value} {u' : HpT} {n' : Nat}
    (hM : Mt G l z y bc mL none rm (.ref b :: As) u n r u' n') (hst : st0 = As.reverse ++ .ref b :: rest) (hlen : As.length = k) (hcat : (rest.map fun v => v.category).sum ≤ 8) (hR : rm.frames + 1 ≤ R.frames ∧ 8 + (mL + 11) + rm.locals ≤ R.locals) (hf : kc + rm.cells ≤ R.cells ∧ ks + rm.slots ≤ R.slots) (d : decode cc pc = .ok (.invokespecial index, 3))
    (kk : Xw p l e R s m args below meth c G z nL Z (pc + 3) lo (r.toList ++ rest) u' n' (kc + rm.cells) (ks + rm.slots)) : Xw p l e R s m args below meth c G z nL Z pc lo st0 u n kc ks := by
  subst hst
  refine x_run (mc := rm.cells) (ms := rm.slots) (r := r) (u' := u') (n' := n') (a := (Value.ref b :: As).toArray) (fun H locs ls hL hH hS => ?_) kk
  have hts := C.2.2.2.2.1
  exact va_runIN (As := As) (rest := rest) ⟨C.1, C.2.1, C.2.2.1, C.2.2.2.1, hts⟩ hM ⟨va_cnB (ws' := lw_good) k hts (goodIn_good hC.1.1) rfl rfl rfl (C.2.2.2.2.2.1.2.2.2 _ _ _ _ hw) (hts _ hC.1.2.1) hC.1.2.2 hR, hC.2.1, hts _ hC.2.2⟩ ⟨pc_blind, fun U hU hW => ⟨rfl, by rw [hU]; exact hH, C.2.2.2.2.2.1.warm hW⟩⟩ rfl hlen hL.1 rfl (lv_room hcat) d hf
theorem x_max (C : Cx p s m args c G own cc nL z) {index : Nat} (hlk : Cond.methodLink own index Lib.Math.max.name ∈ lw_good) (hw2 : Cond.static Lib.Math.max.name ∈ lw_good) (hw3 : Cond.initialized "java/lang/Math" ∈ lw_good) (hw4 : Cond.code Lib.Math.max.name Lib.Math.max.code 2 (some .int) ∈ lw_good) (hfr : 1 ≤ R.frames) (hlo : (st.map fun v => v.category).sum + 13 ≤ R.locals) (hc1 : kc ≤ R.cells) (hs1 : ks ≤ R.slots) {x y : Int32} (d : decode cc pc = .ok (.invokestatic index, 3))
    (kk : Xw p l e R s m args below meth c G z nL Z (pc + 3) lo (.int (if x < y then y else x) :: st) u n kc ks) : Xw p l e R s m args below meth c G z nL Z pc lo (.int y :: .int x :: st) u n kc ks :=
  fun H locs ls hl hH hS => va_mmax C.1 C.2.1 (by rw [C.2.2.1]; exact hl.1.symm) C.2.2.2.1 (C.2.2.2.2.1 _ hlk) (C.2.2.2.2.1 _ hw2) (C.2.2.2.2.1 _ hw3) (C.2.2.2.2.1 _ hw4) hfr hlo hc1 hs1 d (kk H locs ls hl hH hS)
theorem x_min (C : Cx p s m args c G own cc nL z) {index : Nat} (hlk : Cond.methodLink own index Lib.Math.min.name ∈ lw_good) (hw2 : Cond.static Lib.Math.min.name ∈ lw_good) (hw3 : Cond.initialized "java/lang/Math" ∈ lw_good) (hw4 : Cond.code Lib.Math.min.name Lib.Math.min.code 2 (some .int) ∈ lw_good) (hfr : 1 ≤ R.frames) (hlo : (st.map fun v => v.category).sum + 13 ≤ R.locals) (hc1 : kc ≤ R.cells) (hs1 : ks ≤ R.slots) {x y : Int32} (d : decode cc pc = .ok (.invokestatic index, 3))
    (kk : Xw p l e R s m args below meth c G z nL Z (pc + 3) lo (.int (if y < x then y else x) :: st) u n kc ks) : Xw p l e R s m args below meth c G z nL Z pc lo (.int y :: .int x :: st) u n kc ks :=
  fun H locs ls hl hH hS => va_mmin C.1 C.2.1 (by rw [C.2.2.1]; exact hl.1.symm) C.2.2.2.1 (C.2.2.2.2.1 _ hlk) (C.2.2.2.2.1 _ hw2) (C.2.2.2.2.1 _ hw3) (C.2.2.2.2.1 _ hw4) hfr hlo hc1 hs1 d (kk H locs ls hl hH hS)
end XR2
