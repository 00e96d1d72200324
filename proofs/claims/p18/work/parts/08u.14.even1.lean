/-! minutes pass, both sides -/
theorem i_nat3 {t : Int32} (h0 : 0 ≤ t.toInt) : t = Int32.ofNat t.toNatClampNeg := i_nat2 h0
def bt (x : Int32) (t : Nat) : Int32 := hbI x (Int32.ofNat t)
theorem bt_01 (x : Int32) (t : Nat) : bt x t = 0 ∨ bt x t = 1 := hbI_01 _ _
def clrB (x t : Int32) : Int32 := x &&& (((1 : Int32) <<< (t &&& 31)) ^^^ (-1 : Int32))
def setB (x t : Int32) : Int32 := x ||| ((1 : Int32) <<< (t &&& 31))
set_option maxRecDepth 100000 in
theorem clr_tab : ∀ x : Fin 64, ∀ t : Fin 6, ∀ k : Fin 6, bt (clrB (Int32.ofNat x.1) (Int32.ofNat t.1)) k.1 = if k.1 = t.1 then 0 else bt (Int32.ofNat x.1) k.1 := by decide +kernel
set_option maxRecDepth 100000 in
theorem set_tab : ∀ x : Fin 64, ∀ t : Fin 6, ∀ k : Fin 6, bt (setB (Int32.ofNat x.1) (Int32.ofNat t.1)) k.1 = if k.1 = t.1 then 1 else bt (Int32.ofNat x.1) k.1 := by decide +kernel
theorem bt_clr {x t : Int32} {k : Nat} (h0 : 0 ≤ x.toInt) (h1 : x.toInt ≤ 63) (h2 : 0 ≤ t.toInt) (h3 : t.toInt ≤ 5) (hk : k ≤ 5) : bt (clrB x t) k = if k = t.toNatClampNeg then 0 else bt x k := by
  have e2 := i_clq h2
  have h := clr_tab ⟨x.toInt.toNat, by omega⟩ ⟨t.toNatClampNeg, by omega⟩ ⟨k, by omega⟩
  have h' : bt (clrB (Int32.ofNat x.toInt.toNat) (Int32.ofNat t.toNatClampNeg)) k = if k = t.toNatClampNeg then 0 else bt (Int32.ofNat x.toInt.toNat) k := h
  rw [← i_nat2 h0, ← i_nat3 h2] at h'
  exact h'
theorem bt_set {x t : Int32} {k : Nat} (h0 : 0 ≤ x.toInt) (h1 : x.toInt ≤ 63) (h2 : 0 ≤ t.toInt) (h3 : t.toInt ≤ 5) (hk : k ≤ 5) : bt (setB x t) k = if k = t.toNatClampNeg then 1 else bt x k := by
  have e2 := i_clq h2
  have h := set_tab ⟨x.toInt.toNat, by omega⟩ ⟨t.toNatClampNeg, by omega⟩ ⟨k, by omega⟩
  have h' : bt (setB (Int32.ofNat x.toInt.toNat) (Int32.ofNat t.toNatClampNeg)) k = if k = t.toNatClampNeg then 1 else bt (Int32.ofNat x.toInt.toNat) k := h
  rw [← i_nat2 h0, ← i_nat3 h2] at h'
  exact h'
theorem clr_rng {x t : Int32} {n : Nat} (h0 : 0 ≤ x.toInt) (h1 : x.toInt < (2 ^ n : Nat)) : 0 ≤ (clrB x t).toInt ∧ (clrB x t).toInt < (2 ^ n : Nat) := by
  have h := i_and_l (x := x) (y := ((1 : Int32) <<< (t &&& 31)) ^^^ (-1 : Int32)) h0
  unfold clrB
  omega
theorem set_rng {x t : Int32} {n : Nat} (hn : n ≤ 8) (h0 : 0 ≤ x.toInt) (h1 : x.toInt < (2 ^ n : Nat)) (h2 : 0 ≤ t.toInt) (h3 : t.toInt < n) : 0 ≤ (setB x t).toInt ∧ (setB x t).toInt < (2 ^ n : Nat) := by
  have h := i_shl h2 (by omega)
  have p : 2 ^ t.toInt.toNat < 2 ^ n := Nat.pow_lt_pow_right (by decide) (by omega)
  have p0 := Nat.two_pow_pos t.toInt.toNat
  exact i_or (by omega) h0 h1 (by omega) (by omega)
def PmT (L k : Int) (b0 b1 x v0 v1 y : Int32) : Prop := (b0 = 0 ∧ v0 = 0 ∧ v1 = b1 ∧ y = x) ∨ (b0 = 1 ∧ x.toInt + k ≤ L ∧ v0 = 1 ∧ v1 = b1 ∧ y.toInt = x.toInt + k) ∨ (b0 = 1 ∧ L < x.toInt + k ∧ v0 = 0 ∧ v1 = 1 ∧ y.toInt = L + 1)
def LimI (w : Mem) (b t : Nat) : Int := 60 - 5 * (w (b + 4) t).toInt
def PmP (b : Nat) (k : Int32) (w v : Mem) : Prop := v 3 0 = w 3 0 + k ∧ (∀ kk i : Nat, ¬ (kk = 3 ∧ (i = 0 ∨ i = 7 ∨ i = 9)) → ¬ kk = 4 → v kk i = w kk i) ∧ (0 ≤ (v 3 7).toInt ∧ (v 3 7).toInt < (2 ^ (w b 3).toInt.toNat : Nat)) ∧ (0 ≤ (v 3 9).toInt ∧ (v 3 9).toInt < (2 ^ (w b 3).toInt.toNat : Nat)) ∧ ∀ t : Nat, (t : Int) < (w b 3).toInt → PmT (LimI w b t) k.toInt (bt (w 3 7) t) (bt (w 3 9) t) (w 4 t) (bt (v 3 7) t) (bt (v 3 9) t) (v 4 t)
theorem pc_most {b : Nat} {t : Int32} {w : Mem} (hn : (w b 3).toInt ≤ 6) (ht : 0 ≤ t.toInt ∧ t.toInt < (w b 3).toInt) (hh : 0 ≤ (w (b + 4) t.toNatClampNeg).toInt ∧ (w (b + 4) t.toNatClampNeg).toInt ≤ 9) : Pc (fun r => r.toInt = LimI w b t.toNatClampNeg) (f_X1_mostWaiting b t w) := by
  unfold f_X1_mostWaiting LimI
  refine pc_bind (pc_hasT hn) (fun r _ hr => ?_)
  rcases hr with ⟨e, _⟩ | ⟨_, n⟩
  · rw [if_neg (show ¬ r = 0 by rw [e]; decide)]
    refine pc_rd (fun _ => pc_some ?_)
    have e1 : ((5 : Int32) * w (b + 4) t.toNatClampNeg).toInt = 5 * (w (b + 4) t.toNatClampNeg).toInt := i_mulkl tl_5 (by omega) (by omega)
    have e2 : ((60 : Int32) - (5 : Int32) * w (b + 4) t.toNatClampNeg).toInt = (60 : Int32).toInt - ((5 : Int32) * w (b + 4) t.toNatClampNeg).toInt := i_sub (by rw [tl_60]; omega) (by rw [tl_60]; omega)
    rw [e2, e1, tl_60]
  · exact absurd ht n
theorem pc_pass {b : Nat} (hb : BrO b) {k : Int32} {w : Mem} (hn : 0 ≤ (w b 3).toInt ∧ (w b 3).toInt ≤ 6) (hk : 0 ≤ k.toInt ∧ k.toInt ≤ 300) (hh : ∀ t : Nat, (t : Int) < (w b 3).toInt → 0 ≤ (w (b + 4) t).toInt ∧ (w (b + 4) t).toInt ≤ 9) (h7 : 0 ≤ (w 3 7).toInt ∧ (w 3 7).toInt < (2 ^ (w b 3).toInt.toNat : Nat)) (h9 : 0 ≤ (w 3 9).toInt ∧ (w 3 9).toInt < (2 ^ (w b 3).toInt.toNat : Nat)) (hw : ∀ t : Nat, (t : Int) < (w b 3).toInt → bt (w 3 7) t = 1 → 0 ≤ (w 4 t).toInt ∧ (w 4 t).toInt ≤ LimI w b t) : Pc (PmP b k w) (f_X3_passMinutes b k w) := by
  have hbb : b = 112 ∨ b = 119 := hb
  have t0 := tl_0
  have t1 := tl_1
  have p6 : 2 ^ (w b 3).toInt.toNat ≤ 2 ^ 6 := Nat.pow_le_pow_right (by decide) (by omega)
  unfold f_X3_passMinutes
  simp only [bind_eta1]
  refine pc_pw ?_
  obtain ⟨w1, ew1⟩ : ∃ w1, w1 = wu w 3 0 (w 3 0 + k) := ⟨_, rfl⟩
  rw [← ew1]
  have W1 : ∀ kk i, ¬ (kk = 3 ∧ i = 0) → w1 kk i = w kk i := fun kk i h => by rw [ew1, wu_ne h]
  have W10 : w1 3 0 = w 3 0 + k := by rw [ew1, wu_at]
  refine pc_lp (fun (s : Int32 × Mem) => (0 ≤ s.1.toInt ∧ s.1.toInt ≤ (w b 3).toInt) ∧ s.2 3 0 = w 3 0 + k ∧ (∀ kk i : Nat, ¬ (kk = 3 ∧ (i = 0 ∨ i = 7 ∨ i = 9)) → ¬ kk = 4 → s.2 kk i = w kk i) ∧ (0 ≤ (s.2 3 7).toInt ∧ (s.2 3 7).toInt < (2 ^ (w b 3).toInt.toNat : Nat)) ∧ (0 ≤ (s.2 3 9).toInt ∧ (s.2 3 9).toInt < (2 ^ (w b 3).toInt.toNat : Nat)) ∧ ∀ t : Nat, (t : Int) < (w b 3).toInt → ((t : Int) < s.1.toInt → PmT (LimI w b t) k.toInt (bt (w 3 7) t) (bt (w 3 9) t) (w 4 t) (bt (s.2 3 7) t) (bt (s.2 3 9) t) (s.2 4 t)) ∧ (s.1.toInt ≤ t → bt (s.2 3 7) t = bt (w 3 7) t ∧ bt (s.2 3 9) t = bt (w 3 9) t ∧ s.2 4 t = w 4 t)) ?_ _ _ ?_
  · intro s hX
    obtain ⟨x1, x2, x3, x4, x5, x6⟩ := hX
    have eb3 : s.2 b 3 = w b 3 := x3 b 3 (by omega) (by omega)
    rw [eb3]
    refine pc_ite (fun c => ?_) (fun c => pc_some ?_)
    · rw [Int32.lt_iff_toInt_lt] at c
      have ea : (s.1 + 1).toInt = s.1.toInt + 1 := i_addk tl_1 (by omega) (by omega)
      obtain ⟨j, ej⟩ : ∃ j, s.1.toNatClampNeg = j := ⟨_, rfl⟩
      have hj := i_clq x1.1
      rw [ej] at hj
      have y6 := (x6 j (by omega)).2 (by omega)
      have hbj : hbI (s.2 3 7) s.1 = bt (w 3 7) j := by rw [← y6.1]; unfold bt; rw [← ej, ← i_nat3 x1.1]
      refine pc_bind (pc_holds x1.1 (by omega)) (fun r2 _ h2 => ?_)
      rw [hbj] at h2
      rw [h2]
      have step : ∀ v : Mem, v 3 0 = w 3 0 + k → (∀ kk i : Nat, ¬ (kk = 3 ∧ (i = 0 ∨ i = 7 ∨ i = 9)) → ¬ kk = 4 → v kk i = w kk i) → (0 ≤ (v 3 7).toInt ∧ (v 3 7).toInt < (2 ^ (w b 3).toInt.toNat : Nat)) → (0 ≤ (v 3 9).toInt ∧ (v 3 9).toInt < (2 ^ (w b 3).toInt.toNat : Nat)) → (∀ t : Nat, (t : Int) < (w b 3).toInt → ¬ t = j → bt (v 3 7) t = bt (s.2 3 7) t ∧ bt (v 3 9) t = bt (s.2 3 9) t ∧ v 4 t = s.2 4 t) → PmT (LimI w b j) k.toInt (bt (w 3 7) j) (bt (w 3 9) j) (w 4 j) (bt (v 3 7) j) (bt (v 3 9) j) (v 4 j) → Pc (lqP (fun (s : Int32 × Mem) => (0 ≤ s.1.toInt ∧ s.1.toInt ≤ (w b 3).toInt) ∧ s.2 3 0 = w 3 0 + k ∧ (∀ kk i : Nat, ¬ (kk = 3 ∧ (i = 0 ∨ i = 7 ∨ i = 9)) → ¬ kk = 4 → s.2 kk i = w kk i) ∧ (0 ≤ (s.2 3 7).toInt ∧ (s.2 3 7).toInt < (2 ^ (w b 3).toInt.toNat : Nat)) ∧ (0 ≤ (s.2 3 9).toInt ∧ (s.2 3 9).toInt < (2 ^ (w b 3).toInt.toNat : Nat)) ∧ ∀ t : Nat, (t : Int) < (w b 3).toInt → ((t : Int) < s.1.toInt → PmT (LimI w b t) k.toInt (bt (w 3 7) t) (bt (w 3 9) t) (w 4 t) (bt (s.2 3 7) t) (bt (s.2 3 9) t) (s.2 4 t)) ∧ (s.1.toInt ≤ t → bt (s.2 3 7) t = bt (w 3 7) t ∧ bt (s.2 3 9) t = bt (w 3 9) t ∧ s.2 4 t = w 4 t)) (PmP b k w)) (some (Sum.inl (s.1 + 1, v)) : Option (Sum (Int32 × Mem) Mem)) := by
        intro v v0 vf v7 v9 vo vj
        refine pc_some ⟨by show 0 ≤ (s.1 + 1).toInt ∧ (s.1 + 1).toInt ≤ _; omega, v0, vf, v7, v9, fun t ht => ⟨fun h => ?_, fun h => ?_⟩⟩
        · have h' : (t : Int) < (s.1 + 1).toInt := h
          by_cases e : t = j
          · rw [e]; exact vj
          · obtain ⟨o1, o2, o3⟩ := vo t ht e
            show PmT _ _ _ _ _ (bt (v 3 7) t) (bt (v 3 9) t) (v 4 t)
            rw [o1, o2, o3]
            exact (x6 t ht).1 (by omega)
        · have h' : (s.1 + 1).toInt ≤ (t : Int) := h
          obtain ⟨o1, o2, o3⟩ := vo t ht (by omega)
          show bt (v 3 7) t = _ ∧ bt (v 3 9) t = _ ∧ v 4 t = _
          rw [o1, o2, o3]
          exact (x6 t ht).2 (by omega)
      rcases bt_01 (w 3 7) j with e | e
      · rw [if_pos e, sb]
        exact step s.2 x2 x3 x4 x5 (fun t ht hn => ⟨rfl, rfl, rfl⟩) (Or.inl ⟨e, by rw [y6.1, e], y6.2.1, y6.2.2⟩)
      · rw [if_neg (show ¬ bt (w 3 7) j = 0 by rw [e]; decide)]
        have hwj := hw j (by omega) e
        have hhj := hh j (by omega)
        have eL : LimI s.2 b j = LimI w b j := by unfold LimI; rw [x3 (b + 4) j (by omega) (by omega)]
        have hL : LimI w b j = 60 - 5 * (w (b + 4) j).toInt := rfl
        refine pc_bind (Q := fun v => ((w 4 j).toInt + k.toInt ≤ LimI w b j ∧ ∃ x, x.toInt = (w 4 j).toInt + k.toInt ∧ v = wu s.2 4 j x) ∨ (LimI w b j < (w 4 j).toInt + k.toInt ∧ ∃ x, x.toInt = LimI w b j + 1 ∧ v = wu (wu (wu s.2 4 j x) 3 7 (clrB (s.2 3 7) s.1)) 3 9 (setB (s.2 3 9) s.1))) ?_ (fun v _ hv => ?_)
        · refine pc_bind (pc_most (by rw [eb3]; exact hn.2) (by rw [eb3]; exact ⟨x1.1, c⟩) (by rw [ej, x3 (b + 4) j (by omega) (by omega)]; exact hhj)) (fun r4 _ h4 => ?_)
          rw [ej, eL] at h4
          refine pc_rd (fun _ => pc_wr (fun _ => pc_rd (fun _ => ?_)))
          rw [ej, y6.2.2, wu_at]
          have f1 : (r4 + 1).toInt = r4.toInt + 1 := i_addk tl_1 (by omega) (by omega)
          have f2 : (w 4 j + k).toInt = (w 4 j).toInt + k.toInt := i_add (by omega) (by omega)
          by_cases cc : (w 4 j).toInt + k.toInt ≤ LimI w b j
          · rw [if_neg (show ¬ r4 + 1 < w 4 j + k by rw [Int32.lt_iff_toInt_lt]; omega), if_pos (show w 4 j + k < r4 + 1 by rw [Int32.lt_iff_toInt_lt]; omega)]
            exact pc_some (Or.inl ⟨cc, _, f2, rfl⟩)
          · have fx : (if r4 + 1 < w 4 j + k then r4 + 1 else w 4 j + k).toInt = LimI w b j + 1 := by
              by_cases cd : r4 + 1 < w 4 j + k
              · rw [if_pos cd]; omega
              · rw [if_neg cd]
                rw [Int32.lt_iff_toInt_lt] at cd
                omega
            obtain ⟨x, ex⟩ : ∃ x, x = (if r4 + 1 < w 4 j + k then r4 + 1 else w 4 j + k) := ⟨_, rfl⟩
            rw [← ex] at fx
            rw [← ex, if_neg (show ¬ x < r4 + 1 by rw [Int32.lt_iff_toInt_lt]; omega)]
            refine pc_pw (pc_pw (pc_some (Or.inr ⟨by omega, x, fx, ?_⟩)))
            rw [wu_ne (show ¬ (3 = 3 ∧ 9 = 7) by omega), wu_ne (show ¬ (3 = 4 ∧ 9 = j) by omega), wu_ne (show ¬ (3 = 4 ∧ 7 = j) by omega)]
            rfl
        · rcases hv with ⟨cc, x, hx, hv⟩ | ⟨cc, x, hx, hv⟩
          · have V : ∀ kk i, ¬ (kk = 4 ∧ i = j) → v kk i = s.2 kk i := fun kk i h => by rw [hv, wu_ne h]
            have v7 : v 3 7 = s.2 3 7 := V 3 7 (by omega)
            have v9 : v 3 9 = s.2 3 9 := V 3 9 (by omega)
            refine step v (by rw [V 3 0 (by omega)]; exact x2) (fun kk i q1 q2 => by rw [V kk i (by omega)]; exact x3 kk i q1 q2) (by rw [v7]; exact x4) (by rw [v9]; exact x5) (fun t ht hne => ⟨by rw [v7], by rw [v9], V 4 t (by omega)⟩) ?_
            refine Or.inr (Or.inl ⟨e, cc, by rw [v7, y6.1, e], by rw [v9, y6.2.1], ?_⟩)
            rw [hv, wu_at, hx]
          · have V : ∀ kk i, ¬ (kk = 4 ∧ i = j) → ¬ (kk = 3 ∧ i = 7) → ¬ (kk = 3 ∧ i = 9) → v kk i = s.2 kk i := fun kk i h h' h'' => by rw [hv, wu_ne h'', wu_ne h', wu_ne h]
            have v7 : v 3 7 = clrB (s.2 3 7) s.1 := by rw [hv, wu_ne (by omega), wu_at]
            have v9 : v 3 9 = setB (s.2 3 9) s.1 := by rw [hv, wu_at]
            have bc : ∀ t : Nat, (t : Int) < (w b 3).toInt → bt (v 3 7) t = if t = j then 0 else bt (s.2 3 7) t := fun t ht => by rw [v7, bt_clr x4.1 (by omega) x1.1 (by omega) (by omega), ej]
            have bs : ∀ t : Nat, (t : Int) < (w b 3).toInt → bt (v 3 9) t = if t = j then 1 else bt (s.2 3 9) t := fun t ht => by rw [v9, bt_set x5.1 (by omega) x1.1 (by omega) (by omega), ej]
            refine step v (by rw [V 3 0 (by omega) (by omega) (by omega)]; exact x2) (fun kk i q1 q2 => by rw [V kk i (by omega) (by omega) (by omega)]; exact x3 kk i q1 q2) (by rw [v7]; exact clr_rng x4.1 x4.2) (by rw [v9]; exact set_rng (by omega) x5.1 x5.2 x1.1 (by omega)) (fun t ht hne => ⟨by rw [bc t ht, if_neg hne], by rw [bs t ht, if_neg hne], V 4 t (by omega) (by omega) (by omega)⟩) ?_
            refine Or.inr (Or.inr ⟨e, cc, by rw [bc j (by omega), if_pos rfl], by rw [bs j (by omega), if_pos rfl], ?_⟩)
            rw [hv, wu_ne (by omega), wu_ne (by omega), wu_at, hx]
    · rw [Int32.lt_iff_toInt_lt] at c
      exact ⟨x2, x3, x4, x5, fun t ht => (x6 t ht).1 (by omega)⟩
  · refine ⟨by show 0 ≤ (0 : Int32).toInt ∧ (0 : Int32).toInt ≤ _; omega, W10, fun kk i q1 q2 => W1 kk i (by omega), by show 0 ≤ (w1 3 7).toInt ∧ (w1 3 7).toInt < _; rw [W1 3 7 (by omega)]; exact h7, by show 0 ≤ (w1 3 9).toInt ∧ (w1 3 9).toInt < _; rw [W1 3 9 (by omega)]; exact h9, fun t ht => ⟨fun h => ?_, fun h => ?_⟩⟩
    · have h' : (t : Int) < (0 : Int32).toInt := h
      omega
    · show bt (w1 3 7) t = _ ∧ bt (w1 3 9) t = _ ∧ w1 4 t = _
      rw [W1 3 7 (by omega), W1 3 9 (by omega), W1 4 t (by omega)]
      exact ⟨rfl, rfl, rfl⟩
