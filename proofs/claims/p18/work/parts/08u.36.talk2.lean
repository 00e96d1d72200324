/-! the class: with which matters a row of a set can begin -/
theorem tb_lt {S M a : Nat} (h : S < 2 ^ M) (hb : S.testBit a = true) : a < M := by
  by_cases c : a < M
  · exact c
  · have h8 : 2 ^ M ≤ 2 ^ a := Nat.pow_le_pow_right (by decide) (by omega)
    have h9 := Nat.testBit_lt_two_pow (x := S) (i := a) (by omega)
    rw [h9] at hb
    cases hb
theorem one_tab : ∀ m : Fin 8, ∀ a : Fin 8, (2 ^ m.1).testBit a.1 = decide (a.1 = m.1) := by decide
theorem one_bit {m a : Nat} (hm : m < 8) (ha : a < 8) : (2 ^ m).testBit a = true ↔ a = m := by
  have h : (2 ^ m).testBit a = decide (a = m) := one_tab ⟨m, hm⟩ ⟨a, ha⟩
  rw [h, decide_eq_true_iff]
theorem set_val {x t : Int32} (h0 : 0 ≤ x.toInt) (h1 : x.toInt ≤ 255) (h2 : 0 ≤ t.toInt) (h3 : t.toInt ≤ 7) : (0 ≤ (x ||| (1 : Int32) <<< (t &&& 31)).toInt ∧ (x ||| (1 : Int32) <<< (t &&& 31)).toInt ≤ 255) ∧ ∀ a : Nat, a < 8 → ((x ||| (1 : Int32) <<< (t &&& 31)).toNatClampNeg.testBit a = true ↔ x.toNatClampNeg.testBit a = true ∨ a = t.toNatClampNeg) := by
  have c := i_clq h2
  have s := i_shl h2 (by omega)
  have s1 := i_shl1 (k := 7) (by decide) h2 (show t.toInt ≤ (7 : Nat) by omega)
  have o := or_val (x := x) (y := (1 : Int32) <<< (t &&& 31)) h0 h1 (by omega) (by omega)
  refine ⟨o.2, fun a ha => ?_⟩
  have c2 := i_clq (i := (1 : Int32) <<< (t &&& 31)) (by omega)
  have e : ((1 : Int32) <<< (t &&& 31)).toNatClampNeg = 2 ^ t.toNatClampNeg := by
    rw [show t.toInt.toNat = t.toNatClampNeg by omega] at s
    omega
  rw [o.1, e, Nat.testBit_or, Bool.or_eq_true, one_bit (by omega) ha]
def BgR (L : Nat → Nat) (g : Int32) (S : Nat) : Prop := (0 ≤ g.toInt ∧ g.toInt ≤ 255) ∧ ∀ a : Nat, a < 8 → (g.toNatClampNeg.testBit a = true ↔ Beg L S a)
theorem pc_begOf {b : Nat} {w : Mem} {L : Nat → Nat} {s : Int32} (hM : 0 ≤ (w b 2).toInt ∧ (w b 2).toInt ≤ 8) (hL : ∀ a : Nat, (a : Int) < (w b 2).toInt → (0 ≤ (w (b + 2) a).toInt ∧ (w (b + 2) a).toInt ≤ 255) ∧ L a = (w (b + 2) a).toNatClampNeg) (hs : 1 ≤ s.toInt ∧ s.toInt < (2 ^ (w b 2).toInt.toNat : Nat)) (hp : ∀ R : Nat, 1 ≤ R → R < s.toNatClampNeg → BgR L (w (b + 6) R) R) : Pc (fun r => BgR L r s.toNatClampNeg) (f_X1_beginnersOf b s w) := by
  have t0 := tl_0
  have p8 : 2 ^ (w b 2).toInt.toNat ≤ 2 ^ 8 := Nat.pow_le_pow_right (by decide) (by omega)
  obtain ⟨S, eS⟩ : ∃ S, s.toNatClampNeg = S := ⟨_, rfl⟩
  have hS := i_clq (i := s) (by omega)
  rw [eS] at hS hp ⊢
  unfold f_X1_beginnersOf
  simp only [bind_eta1]
  refine pc_lp (fun (q : Int32 × Int32) => (0 ≤ q.2.toInt ∧ q.2.toInt ≤ (w b 2).toInt) ∧ (0 ≤ q.1.toInt ∧ q.1.toInt ≤ 255) ∧ ∀ a : Nat, a < 8 → (q.1.toNatClampNeg.testBit a = true ↔ ((a : Int) < q.2.toInt ∧ Beg L S a))) ?_ _ _ ?_
  · intro q hX
    obtain ⟨x1, x2, x3⟩ := hX
    refine pc_ite (fun c => ?_) (fun c => pc_some ?_)
    · rw [Int32.lt_iff_toInt_lt] at c
      have ea : (q.2 + 1).toInt = q.2.toInt + 1 := i_addk tl_1 (by omega) (by omega)
      obtain ⟨m, em⟩ : ∃ m, q.2.toNatClampNeg = m := ⟨_, rfl⟩
      have hm := i_clq x1.1
      rw [em] at hm
      refine pc_lt (pc_bind (pc_holds x1.1 (by omega)) (fun r2 _ h2 => ?_))
      have hbt := hb_tb (x := s) (m := q.2) (by omega) (by omega) x1.1 (by omega)
      rw [eS, em] at hbt
      rw [hbt] at h2
      refine pc_bind (Q := fun v3 => (0 ≤ v3.toInt ∧ v3.toInt ≤ 255) ∧ ∀ a : Nat, a < 8 → (v3.toNatClampNeg.testBit a = true ↔ ((a : Int) < q.2.toInt + 1 ∧ Beg L S a))) ?_ (fun v3 _ h3 => pc_some ?_)
      · have hA : ¬ Beg L S m → (0 ≤ q.1.toInt ∧ q.1.toInt ≤ 255) ∧ ∀ a : Nat, a < 8 → (q.1.toNatClampNeg.testBit a = true ↔ ((a : Int) < q.2.toInt + 1 ∧ Beg L S a)) := by
          intro hn
          refine ⟨x2, fun a ha => ⟨fun h => ?_, fun h => ?_⟩⟩
          · have h' := (x3 a ha).mp h
            exact ⟨by omega, h'.2⟩
          · by_cases e : a = m
            · rw [e] at h; exact absurd h.2 hn
            · exact (x3 a ha).mpr ⟨by omega, h.2⟩
        have hB : Beg L S m → (0 ≤ (q.1 ||| (1 : Int32) <<< (q.2 &&& 31)).toInt ∧ (q.1 ||| (1 : Int32) <<< (q.2 &&& 31)).toInt ≤ 255) ∧ ∀ a : Nat, a < 8 → ((q.1 ||| (1 : Int32) <<< (q.2 &&& 31)).toNatClampNeg.testBit a = true ↔ ((a : Int) < q.2.toInt + 1 ∧ Beg L S a)) := by
          intro hy
          have sv := set_val (t := q.2) x2.1 x2.2 x1.1 (by omega)
          refine ⟨sv.1, fun a ha => ?_⟩
          rw [sv.2 a ha, x3 a ha, em]
          constructor
          · rintro (h | h)
            · exact ⟨by omega, h.2⟩
            · rw [h]; exact ⟨by omega, hy⟩
          · intro h
            by_cases e : a = m
            · exact Or.inr e
            · exact Or.inl ⟨by omega, h.2⟩
        by_cases hb : S.testBit m = true
        · rw [if_pos hb] at h2
          rw [if_neg (show ¬ r2 = 0 by rw [h2]; decide)]
          have cv := cl_val (S := s) (a := q.2) (by omega) (by omega) x1.1 (by omega) (by rw [eS, em]; exact hb)
          rw [eS, em] at cv
          obtain ⟨T, eT⟩ : ∃ T, clrB s q.2 = T := ⟨_, rfl⟩
          have eT' : (s &&& (((1 : Int32) <<< (q.2 &&& 31)) ^^^ (-1 : Int32))) = T := eT
          rw [eT']
          rw [eT] at cv
          have hz := cN_0 cv.2.1
          have hpos := Nat.two_pow_pos m
          refine pc_ite (fun z => ?_) (fun z => ?_)
          · exact pc_lt (pc_some (hB (beg_step.mpr ⟨by omega, hb, Or.inl (by rw [← cv.1]; exact hz.mp z)⟩)))
          · have z' : ¬ T.toNatClampNeg = 0 := fun h => z (hz.mpr h)
            rw [cv.1] at z'
            obtain ⟨⟨l1, l2⟩, l3⟩ := hL m (by omega)
            have hg := hp (S - 2 ^ m) (by omega) (by omega)
            refine pc_rd (fun _ => pc_rd (fun _ => ?_))
            rw [em, cv.1]
            have am := and_meet (x := w (b + 2) m) (y := w (b + 6) (S - 2 ^ m)) l1 l2 hg.1.1
            refine pc_ite (fun k => ?_) (fun k => ?_)
            · refine pc_some (hA (fun hy => ?_))
              rcases (beg_step.mp hy).2.2 with h0 | ⟨d, d1, d2⟩
              · exact z' h0
              · exact (am.mpr ⟨d, by rw [← l3]; exact d1, (hg.2 d (beg_step.mp d2).1).mpr d2⟩) k
            · obtain ⟨d, d1, d2⟩ := am.mp k
              have hd8 : d < 8 := tb_8 (by have := i_clq l1; omega) d1
              exact pc_lt (pc_some (hB (beg_step.mpr ⟨by omega, hb, Or.inr ⟨d, by rw [l3]; exact d1, (hg.2 d hd8).mp d2⟩⟩)))
        · rw [if_neg hb] at h2
          rw [if_pos h2]
          exact pc_some (hA (fun hy => hb (beg_step.mp hy).2.1))
      · refine ⟨by show 0 ≤ (q.2 + 1).toInt ∧ (q.2 + 1).toInt ≤ _; omega, h3.1, fun a ha => ?_⟩
        show v3.toNatClampNeg.testBit a = true ↔ ((a : Int) < (q.2 + 1).toInt ∧ Beg L S a)
        rw [ea]
        exact h3.2 a ha
    · rw [Int32.lt_iff_toInt_lt] at c
      refine ⟨x2, fun a ha => ?_⟩
      rw [x3 a ha]
      constructor
      · exact fun h => h.2
      · intro h
        have h1 := tb_lt (S := S) (M := (w b 2).toInt.toNat) (a := a) (by omega) (beg_step.mp h).2.1
        exact ⟨by omega, h⟩
  · refine ⟨by show 0 ≤ (0 : Int32).toInt ∧ (0 : Int32).toInt ≤ _; omega, by show 0 ≤ (0 : Int32).toInt ∧ (0 : Int32).toInt ≤ 255; omega, fun a ha => ?_⟩
    show (0 : Int32).toNatClampNeg.testBit a = true ↔ ((a : Int) < (0 : Int32).toInt ∧ Beg L S a)
    rw [cl_0, Nat.zero_testBit]
    constructor
    · intro h; cases h
    · intro h; omega
def LdN (b : Nat) (w : Mem) (a : Nat) : Nat := (w (b + 2) a).toNatClampNeg
def BgP (b : Nat) (w : Mem) : Prop := ∀ R : Nat, 1 ≤ R → R < 2 ^ (w b 2).toInt.toNat → BgR (LdN b w) (w (b + 6) R) R
theorem pc_settle2 {b : Nat} (hb : BrO b) {w : Mem} (h2 : 0 ≤ (w b 2).toInt ∧ (w b 2).toInt ≤ 8) (h3 : 0 ≤ (w b 3).toInt ∧ (w b 3).toInt ≤ 6) : Pc (BgP b) (f_X1_settle b w) := by
  have hbb : b = 112 ∨ b = 119 := hb
  unfold f_X1_settle
  simp only [bind_eta1]
  have hA := all_rng h2.1 h2.2
  have vA := all_val h2.1 h2.2
  have t0 := tl_0
  have t1 := tl_1
  have pz := Nat.two_pow_pos (w b 2).toInt.toNat
  have p8 : 2 ^ (w b 2).toInt.toNat ≤ 2 ^ 8 := Nat.pow_le_pow_right (by decide) (by omega)
  refine pc_bind (Q := fun r => r = AllI (w b 2)) (by unfold f_X9_setOfFirst; exact pc_some rfl) (fun r1 _ hr1 => ?_)
  rw [hr1]
  refine pc_bind (and_loop (by omega) hb 2 (by omega) h2.1 (by omega) _) (fun v4 _ h4 => ?_)
  have e3 : v4 b 3 = w b 3 := h4.1 b 3 (by omega)
  refine pc_bind (and_loop (by omega) hb 5 (by omega) (by rw [e3]; exact h3.1) (by rw [e3]; omega) _) (fun v7 _ h7 => ?_)
  rw [e3] at h7
  have v72 : v7 b 2 = w b 2 := by rw [h7.1 b 2 (by omega), h4.1 b 2 (by omega)]
  obtain ⟨L, eL⟩ : ∃ L : Nat → Nat, L = fun a => (v7 (b + 2) a).toNatClampNeg := ⟨_, rfl⟩
  have lr : ∀ a : Nat, (a : Int) < (w b 2).toInt → 0 ≤ (v7 (b + 2) a).toInt ∧ (v7 (b + 2) a).toInt ≤ 255 := by
    intro a ha
    rw [h7.1 (b + 2) a (by omega), h4.2 a ha]
    have := i_and_r (x := w (b + 2) a) (y := AllI (w b 2)) hA.1
    omega
  refine pc_lp (fun (s : Int32 × Mem) => (1 ≤ s.1.toInt ∧ s.1.toInt ≤ (AllI (w b 2)).toInt + 1) ∧ (∀ k i, ¬ k = b + 6 → s.2 k i = v7 k i) ∧ ∀ R : Nat, 1 ≤ R → (R : Int) < s.1.toInt → BgR L (s.2 (b + 6) R) R) ?_ _ _ ?_
  · intro s hX
    obtain ⟨x1, x2, x3⟩ := hX
    refine pc_ite (fun c => pc_some ?_) (fun c => ?_)
    · rw [Int32.lt_iff_toInt_lt] at c
      intro R hR hR2
      have hL2 : LdN b s.2 = L := by
        rw [eL]
        funext a
        unfold LdN
        rw [x2 (b + 2) a (by omega)]
      rw [x2 b 2 (by omega), v72] at hR2
      rw [hL2]
      exact x3 R hR (by omega)
    · rw [Int32.lt_iff_toInt_lt] at c
      have ea : (s.1 + 1).toInt = s.1.toInt + 1 := i_addk tl_1 (by omega) (by omega)
      have es2 : s.2 b 2 = w b 2 := by rw [x2 b 2 (by omega), v72]
      have hc := i_clq (i := s.1) (by omega)
      refine pc_bind (pc_begOf (L := L) (by rw [es2]; exact h2) (fun a ha => ?_) ⟨x1.1, by rw [es2]; omega⟩ (fun R hR hR2 => x3 R hR (by omega))) (fun r8 _ h8 => pc_wr (fun _ => pc_some ?_))
      · rw [es2] at ha
        rw [x2 (b + 2) a (by omega)]
        exact ⟨lr a ha, by rw [eL]⟩
      · refine ⟨by show 1 ≤ (s.1 + 1).toInt ∧ (s.1 + 1).toInt ≤ _; omega, fun k i hk => ?_, fun R hR hR2 => ?_⟩
        · show wu s.2 (b + 6) s.1.toNatClampNeg r8 k i = v7 k i
          rw [wu_ne (by omega)]
          exact x2 k i hk
        · have hR3 : (R : Int) < (s.1 + 1).toInt := hR2
          show BgR L (wu s.2 (b + 6) s.1.toNatClampNeg r8 (b + 6) R) R
          by_cases e : R = s.1.toNatClampNeg
          · rw [e, wu_at]
            exact h8
          · rw [wu_ne (by omega)]
            exact x3 R hR (by omega)
  · refine ⟨by show 1 ≤ (1 : Int32).toInt ∧ (1 : Int32).toInt ≤ _; omega, fun k i _ => rfl, fun R hR hR2 => ?_⟩
    have hR3 : (R : Int) < (1 : Int32).toInt := hR2
    omega
theorem bgp_of {b : Nat} {w u : Mem} (h : BgP b w) (h2 : u b 2 = w b 2) (hl : ∀ i, u (b + 2) i = w (b + 2) i) (h6 : ∀ i, u (b + 6) i = w (b + 6) i) : BgP b u := by
  intro R hR hR2
  have hL2 : LdN b u = LdN b w := by
    funext a
    unfold LdN
    rw [hl]
  rw [h2] at hR2
  rw [hL2, h6]
  exact h R hR hR2
