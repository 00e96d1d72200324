theorem hup_sk {u : HpT} {a b : Nat} {x y w : va_E} (h : a ≠ b) : hup (hup (hup u a x) b y) a w = hup (hup u b y) a w := by
  rw [hup_comm (u := u) h, hup_hup]
theorem i_eq_iff (a b : Int32) : a = b ↔ a.toInt = b.toInt := Int32.toInt_inj.symm
theorem vp_in_lit {i : Int32} {n : Nat} (h1 : ¬ i < 0) (h2 : ¬ n ≤ i.toNatClampNeg) : vp_in i n := fun h => h.elim h1 h2
section XR3
variable {p : Program} {l : Launch} {e : Env} {R : Room} {s : State} {m : MethodId} {args : Array Value} {below : List Frame} {meth : Method} {c : Code} {G : GT} {z nL : Nat} {Z : State → Prop} {pc : Nat} {lo : List (Nat × Value)} {st : List Value} {u : HpT} {n kc ks : Nat} {own : String} {cc : ByteArray}
theorem x_norm {st2 : List Value} {kc2 ks2 n2 : Nat} {u2 : HpT} (h1 : st = st2) (h2 : kc = kc2) (h3 : ks = ks2) (h4 : n = n2) (h5 : u = u2) (k : Xw p l e R s m args below meth c G z nL Z pc lo st2 u2 n2 kc2 ks2) : Xw p l e R s m args below meth c G z nL Z pc lo st u n kc ks := by
  subst h1; subst h2; subst h3; subst h4; subst h5
  exact k
theorem x_ialdk (C : Cx p s m args c G own cc nL z) (k : Nat) {a N : Nat} {f : Nat → Int32} {i : Int32} (hu : u a = some (aI G N f)) (hin : vp_in i N) (hk : i.toNatClampNeg = k) (d : decode cc pc = .ok (.iaload, 1))
    (kk : Xw p l e R s m args below meth c G z nL Z (pc + 1) lo (.int (f k) :: st) u n kc ks) : Xw p l e R s m args below meth c G z nL Z pc lo (.int i :: .ref (z + a) :: st) u n kc ks := by
  subst hk
  exact x_iald C hu hin d kk
theorem x_zaldk (C : Cx p s m args c G own cc nL z) (k : Nat) {a N : Nat} {f : Nat → Int32} {i : Int32} (hu : u a = some (aZ G N f)) (hin : vp_in i N) (hk : i.toNatClampNeg = k) (d : decode cc pc = .ok (.baload, 1))
    (kk : Xw p l e R s m args below meth c G z nL Z (pc + 1) lo (.int (f k) :: st) u n kc ks) : Xw p l e R s m args below meth c G z nL Z pc lo (.int i :: .ref (z + a) :: st) u n kc ks := by
  subst hk
  exact x_zald C hu hin d kk
theorem x_laldk (C : Cx p s m args c G own cc nL z) (k : Nat) {a N : Nat} {f : Nat → Int64} {i : Int32} (hu : u a = some (aL G N f)) (hin : vp_in i N) (hk : i.toNatClampNeg = k) (d : decode cc pc = .ok (.laload, 1))
    (kk : Xw p l e R s m args below meth c G z nL Z (pc + 1) lo (.long (f k) :: st) u n kc ks) : Xw p l e R s m args below meth c G z nL Z pc lo (.int i :: .ref (z + a) :: st) u n kc ks := by
  subst hk
  exact x_lald C hu hin d kk
theorem x_iastk (C : Cx p s m args c G own cc nL z) (k : Nat) {a N : Nat} {f : Nat → Int32} {i v : Int32} (hu : u a = some (aI G N f)) (hin : vp_in i N) (hk : i.toNatClampNeg = k) (d : decode cc pc = .ok (.iastore, 1))
    (kk : Xw p l e R s m args below meth c G z nL Z (pc + 1) lo st (hup u a (aI G N (upd f k v))) n kc ks) : Xw p l e R s m args below meth c G z nL Z pc lo (.int v :: .int i :: .ref (z + a) :: st) u n kc ks := by
  subst hk
  exact x_iast C hu hin d kk
theorem x_zastk (C : Cx p s m args c G own cc nL z) (k : Nat) {a N : Nat} {f : Nat → Int32} {i v : Int32} (hu : u a = some (aZ G N f)) (hin : vp_in i N) (hk : i.toNatClampNeg = k) (d : decode cc pc = .ok (.bastore, 1)) (hb : vp_nar .boolean v = v)
    (kk : Xw p l e R s m args below meth c G z nL Z (pc + 1) lo st (hup u a (aZ G N (upd f k v))) n kc ks) : Xw p l e R s m args below meth c G z nL Z pc lo (.int v :: .int i :: .ref (z + a) :: st) u n kc ks := by
  subst hk
  exact x_zast C hu hin d (by rw [hb]; exact kk)
theorem x_lastk (C : Cx p s m args c G own cc nL z) (k : Nat) {a N : Nat} {f : Nat → Int64} {i : Int32} {v : Int64} (hu : u a = some (aL G N f)) (hin : vp_in i N) (hk : i.toNatClampNeg = k) (d : decode cc pc = .ok (.lastore, 1))
    (kk : Xw p l e R s m args below meth c G z nL Z (pc + 1) lo st (hup u a (aL G N (vp_updL f k v))) n kc ks) : Xw p l e R s m args below meth c G z nL Z pc lo (.long v :: .int i :: .ref (z + a) :: st) u n kc ks := by
  subst hk
  exact x_last C hu hin d kk
theorem x_aastk (C : Cx p s m args c G own cc nL z) (t0 ci : Nat) {a b N : Nat} {cA : ClassId} {r : vw_C} {vs : List Value} {f : Nat → Option Nat} {i : Int32} (ht : (gtys G)[t0]? = some (cA, .object r.1)) (hu : u a = some (.inl (cA, N, .inr (.inr (.inr (.inr f)))))) (hb : u b = some (.inr (ci, vs))) (hc : vwCl[ci]? = some r) (hin : vp_in i N) {k : Nat} (hk : i.toNatClampNeg = k) (d : decode cc pc = .ok (.aastore, 1))
    (kk : Xw p l e R s m args below meth c G z nL Z (pc + 1) lo st (hup u a (.inl (cA, N, .inr (.inr (.inr (.inr (va_up f k (some (z + b)))))))) ) n kc ks) : Xw p l e R s m args below meth c G z nL Z pc lo (.ref (z + b) :: .int i :: .ref (z + a) :: st) u n kc ks := by
  subst hk
  exact x_aast C t0 ci ht hu hb hc hin d kk
theorem x_slen (C : Cx p s m args c G own cc nL z) {b L : Nat} {xs : Nat → Int32} (hX : va_X b L xs s s.heap) (hbl : b < s.heap.size) (hbz : b < z) {v : Int32} (hv : Int32.ofNat L = v) (d : decode cc pc = .ok (.arraylength, 1))
    (kk : Xw p l e R s m args below meth c G z nL Z (pc + 1) lo (.int v :: st) u n kc ks) : Xw p l e R s m args below meth c G z nL Z pc lo (.ref b :: st) u n kc ks := by
  subst hv
  exact fun H locs ls hl hH hS => va_slen C.1 C.2.1 hX hbl (by show ¬ z ≤ b; omega) hS d (kk H locs ls hl hH hS)
theorem x_sld (C : Cx p s m args c G own cc nL z) (k : Nat) {b L : Nat} {xs : Nat → Int32} (hX : va_X b L xs s s.heap) (hbl : b < s.heap.size) (hbz : b < z) {i v : Int32} (hin : vp_in i L) (hk : i.toNatClampNeg = k) (hv : xs k = v) (d : decode cc pc = .ok (.iaload, 1))
    (kk : Xw p l e R s m args below meth c G z nL Z (pc + 1) lo (.int v :: st) u n kc ks) : Xw p l e R s m args below meth c G z nL Z pc lo (.int i :: .ref b :: st) u n kc ks := by
  subst hk; subst hv
  exact fun H locs ls hl hH hS => va_sld C.1 C.2.1 hX hbl (by show ¬ z ≤ b; omega) hS hin d (kk H locs ls hl hH hS)
end XR3
theorem fbx_bmod {w : Int} (h1 : -2147483648 ≤ w) (h2 : w < 2147483648) : w.bmod (2 ^ 32) = w := by
  rw [Int.bmod_def]
  split <;> omega
theorem i_add {x y : Int32} (h1 : -2147483648 ≤ x.toInt + y.toInt) (h2 : x.toInt + y.toInt < 2147483648) : (x + y).toInt = x.toInt + y.toInt := by
  rw [Int32.toInt_add]
  exact fbx_bmod h1 h2
def dryF (q : Int32) : Nat → Int64 → Int64
  | 0, v => v
  | k + 1, v => dryF q k (v * q.toInt64 / 100)
set_option maxHeartbeats 1000000 in
theorem dryC {p : Program} {l : Launch} {e : Env} {R : Room} {s : State} {m : MethodId} {args : Array Value} {below : List Frame} {meth : Method} {c : Code} {G : GT} {z : Nat} {u : HpT} {n : Nat} {va vb : Int32} {a : Nat} (C : Cx p s m args c G RX9 cX9_dry 6 z) (hr : meth.sig.returnType = some .int) (hlk : meth.locks = false) (hb : va.toInt ≤ 60) :
    ∀ (k : Nat) (x5 : Int32) (v : Int64), x5.toInt + k = va.toInt → 0 ≤ x5.toInt → Xw p l e R s m args below meth c G z 6 (MQ below (Qm G z (some (.int (dryF vb k v).toInt32)) u n) args s R.cells R.slots (zA z)) 30 [(5, .int x5), (3, .long v), (0, .ref a), (1, .int va), (2, .int vb)] [] u n 0 0 := by
  intro k
  induction k with
  | zero =>
    intro x5 v h1 h2
    refine x_iload C 0 dX9_dry_30 rfl ?_
    refine x_iload_n C 3 dX9_dry_32 rfl rfl ?_
    refine x_icmp_ge_t C 51 dX9_dry_33 (by decide) (by rw [Int32.le_iff_toInt_le]; omega) ?_
    refine x_lload_n C 1 dX9_dry_51 rfl rfl ?_
    refine x_l2i C dX9_dry_52 ?_
    exact x_iret C hr hlk (Nat.zero_le _) (Nat.zero_le _) dX9_dry_53 rfl rfl rfl
  | succ k ih =>
    intro x5 v h1 h2
    have e1 : (1 : Int32).toInt = 1 := by decide
    have e2 : (x5 + 1).toInt = x5.toInt + 1 := by rw [i_add (by rw [e1]; omega) (by rw [e1]; omega), e1]
    refine x_iload C 0 dX9_dry_30 rfl ?_
    refine x_iload_n C 3 dX9_dry_32 rfl rfl ?_
    refine x_icmp_ge_f C 51 dX9_dry_33 (by decide) (by rw [Int32.le_iff_toInt_le]; omega) ?_
    refine x_lload_n C 1 dX9_dry_36 rfl rfl ?_
    refine x_iload_n C 4 dX9_dry_37 rfl rfl ?_
    refine x_i2l C dX9_dry_38 ?_
    refine x_lmul C dX9_dry_39 ?_
    refine x_ldc2 C kcX9_311 dX9_dry_40 ?_
    refine x_ldiv C dX9_dry_43 (by decide) ?_
    refine x_lstore_n C [(3, .long (v * vb.toInt64 / 100)), (5, .int x5), (0, .ref a), (1, .int va), (2, .int vb)] dX9_dry_44 rfl (by decide) rfl ?_
    refine x_iinc (v := x5 + 1) C 1 [(5, .int (x5 + 1)), (3, .long (v * vb.toInt64 / 100)), (0, .ref a), (1, .int va), (2, .int vb)] dX9_dry_45 rfl rfl (by decide) rfl ?_
    refine x_goto C 30 dX9_dry_48 (by decide) ?_
    exact ih (x5 + 1) (v * vb.toInt64 / 100) (by rw [e2]; omega) (by rw [e2]; omega)
set_option maxHeartbeats 1000000 in
theorem dryM {p : Program} {l : Launch} {e : Env} {R : Room} {s : State} {m : MethodId} {args : Array Value} {below : List Frame} {meth : Method} {c : Code} {G : GT} {z : Nat} {u : HpT} {n : Nat} {va vb : Int32} {a : Nat} (C : Cx p s m args c G RX10 cX10_dry 6 z) (hr : meth.sig.returnType = some .int) (hlk : meth.locks = false) (hb : va.toInt ≤ 60) :
    ∀ (k : Nat) (x5 : Int32) (v : Int64), x5.toInt + k = va.toInt → 0 ≤ x5.toInt → Xw p l e R s m args below meth c G z 6 (MQ below (Qm G z (some (.int (dryF vb k v).toInt32)) u n) args s R.cells R.slots (zA z)) 30 [(5, .int x5), (3, .long v), (0, .ref a), (1, .int va), (2, .int vb)] [] u n 0 0 := by
  intro k
  induction k with
  | zero =>
    intro x5 v h1 h2
    refine x_iload C 0 dX10_dry_30 rfl ?_
    refine x_iload_n C 3 dX10_dry_32 rfl rfl ?_
    refine x_icmp_ge_t C 51 dX10_dry_33 (by decide) (by rw [Int32.le_iff_toInt_le]; omega) ?_
    refine x_lload_n C 1 dX10_dry_51 rfl rfl ?_
    refine x_l2i C dX10_dry_52 ?_
    exact x_iret C hr hlk (Nat.zero_le _) (Nat.zero_le _) dX10_dry_53 rfl rfl rfl
  | succ k ih =>
    intro x5 v h1 h2
    have e1 : (1 : Int32).toInt = 1 := by decide
    have e2 : (x5 + 1).toInt = x5.toInt + 1 := by rw [i_add (by rw [e1]; omega) (by rw [e1]; omega), e1]
    refine x_iload C 0 dX10_dry_30 rfl ?_
    refine x_iload_n C 3 dX10_dry_32 rfl rfl ?_
    refine x_icmp_ge_f C 51 dX10_dry_33 (by decide) (by rw [Int32.le_iff_toInt_le]; omega) ?_
    refine x_lload_n C 1 dX10_dry_36 rfl rfl ?_
    refine x_iload_n C 4 dX10_dry_37 rfl rfl ?_
    refine x_i2l C dX10_dry_38 ?_
    refine x_lmul C dX10_dry_39 ?_
    refine x_ldc2 C kcX10_288 dX10_dry_40 ?_
    refine x_ldiv C dX10_dry_43 (by decide) ?_
    refine x_lstore_n C [(3, .long (v * vb.toInt64 / 100)), (5, .int x5), (0, .ref a), (1, .int va), (2, .int vb)] dX10_dry_44 rfl (by decide) rfl ?_
    refine x_iinc (v := x5 + 1) C 1 [(5, .int (x5 + 1)), (3, .long (v * vb.toInt64 / 100)), (0, .ref a), (1, .int va), (2, .int vb)] dX10_dry_45 rfl rfl (by decide) rfl ?_
    refine x_goto C 30 dX10_dry_48 (by decide) ?_
    exact ih (x5 + 1) (v * vb.toInt64 / 100) (by rw [e2]; omega) (by rw [e2]; omega)
