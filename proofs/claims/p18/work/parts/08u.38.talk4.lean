/-! the reference: rows of a set by the last -/
theorem ix8 {T d : Int32} (h0 : 0 ≤ T.toInt) (h1 : T.toInt ≤ 255) (h2 : 0 ≤ d.toInt) (h3 : d.toInt ≤ 7) : ((8 : Int32) * T + d).toNatClampNeg = 8 * T.toNatClampNeg + d.toNatClampNeg := by
  have e1 : ((8 : Int32) * T).toInt = 8 * T.toInt := i_mulkl tl_8 (by omega) (by omega)
  have e2 : ((8 : Int32) * T + d).toInt = ((8 : Int32) * T).toInt + d.toInt := i_add (by omega) (by omega)
  have c1 := i_clq h0
  have c2 := i_clq h2
  have c3 := i_clq (i := (8 : Int32) * T + d) (by omega)
  omega
def BuR (L : Nat → Nat) (K : Nat) (z : Int32) (S j : Nat) : Prop := (0 ≤ z.toInt ∧ z.toInt ≤ 255) ∧ ∀ a : Nat, a < 8 → (z.toNatClampNeg.testBit a = true ↔ (S &&& K = S ∧ Beu L S a j))
theorem bur_0 {L : Nat → Nat} {K S j : Nat} {z : Int32} (hz : z = 0) (h : ∀ a, ¬ (S &&& K = S ∧ Beu L S a j)) : BuR L K z S j := by
  have t0 := tl_0
  refine ⟨by rw [hz, t0]; omega, fun a _ => ?_⟩
  rw [hz, cl_0, Nat.zero_testBit]
  constructor
  · intro q; cases q
  · intro q; exact absurd q (h a)
theorem pc_from {m : Mem} {L : Nat → Nat} {K : Nat} {T l v6 : Int32} (hM : 0 ≤ (m 134 17).toInt ∧ (m 134 17).toInt ≤ 8) (hL : ∀ a : Nat, (a : Int) < (m 134 17).toInt → (0 ≤ (m 142 a).toInt ∧ (m 142 a).toInt ≤ 255) ∧ L a = (m 142 a).toNatClampNeg) (hT : 0 ≤ T.toInt ∧ T.toInt < (2 ^ (m 134 17).toInt.toNat : Nat)) (hl : 0 ≤ l.toInt ∧ l.toInt < (m 134 17).toInt) (hsub : T.toNatClampNeg &&& K = T.toNatClampNeg) (hv : v6 = if T.toNatClampNeg = 0 then (1 : Int32) <<< (l &&& 31) else 0) (hc : ∀ d : Nat, d < 8 → ¬ T.toNatClampNeg = 0 → BuR L K (m 148 (8 * T.toNatClampNeg + d)) T.toNatClampNeg d) (n : Nat) : Pc (fun (r : Int32) => (0 ≤ r.toInt ∧ r.toInt ≤ 255) ∧ ∀ a : Nat, a < 8 → (r.toNatClampNeg.testBit a = true ↔ ((T.toNatClampNeg = 0 ∧ a = l.toNatClampNeg) ∨ ∃ d, (L d).testBit l.toNatClampNeg = true ∧ Beu L T.toNatClampNeg a d))) (lp (S := (Int32 × Int32)) (T := Int32) (fun s83 => (if s83.2 < (m 134 17) then (f_X10_has T s83.2).bind fun r7 => ((if r7 = 0 then some ((0 : Int32)) else rd 8 (m 142) s83.2 fun x9 => (f_X10_has x9 l).bind fun r10 => (if r10 = 0 then some ((0 : Int32)) else rd 2048 (m 148) (((8 : Int32) * T) + s83.2) fun x11 => some (x11))) : Option Int32).bind fun v8 => some (Sum.inl ((s83.1 ||| v8), (s83.2 + (1 : Int32)))) else some (Sum.inr s83.1))) n (v6, (0 : Int32))) := by
  have t0 := tl_0
  have p8 : 2 ^ (m 134 17).toInt.toNat ≤ 2 ^ 8 := Nat.pow_le_pow_right (by decide) (by omega)
  obtain ⟨R, eR⟩ : ∃ R, T.toNatClampNeg = R := ⟨_, rfl⟩
  obtain ⟨j, ej⟩ : ∃ j, l.toNatClampNeg = j := ⟨_, rfl⟩
  have hR := i_clq hT.1
  have hj := i_clq hl.1
  rw [eR] at hR hsub hv hc ⊢
  rw [ej] at hj ⊢
  have hR8 : R < 256 := by omega
  refine pc_lp (fun (q : Int32 × Int32) => (0 ≤ q.2.toInt ∧ q.2.toInt ≤ (m 134 17).toInt) ∧ (0 ≤ q.1.toInt ∧ q.1.toInt ≤ 255) ∧ ∀ a : Nat, a < 8 → (q.1.toNatClampNeg.testBit a = true ↔ ((R = 0 ∧ a = j) ∨ ∃ d : Nat, (d : Int) < q.2.toInt ∧ (L d).testBit j = true ∧ Beu L R a d))) ?_ _ _ ?_
  · intro q hX
    obtain ⟨x1, x2, x3⟩ := hX
    refine pc_ite (fun c => ?_) (fun c => pc_some ?_)
    · rw [Int32.lt_iff_toInt_lt] at c
      have ea : (q.2 + 1).toInt = q.2.toInt + 1 := i_addk tl_1 (by omega) (by omega)
      obtain ⟨d, ed⟩ : ∃ d, q.2.toNatClampNeg = d := ⟨_, rfl⟩
      have hd := i_clq x1.1
      rw [ed] at hd
      have hbt := hb_tb (x := T) (m := q.2) hT.1 (by omega) x1.1 (by omega)
      rw [eR, ed] at hbt
      obtain ⟨⟨l1, l2⟩, l3⟩ := hL d (by omega)
      have hbt2 := hb_tb (x := m 142 d) (m := l) l1 l2 hl.1 (by omega)
      rw [ej, ← l3] at hbt2
      refine pc_bind pc_has (fun r7 _ h7 => ?_)
      rw [hbt] at h7
      refine pc_bind (Q := fun v8 => (0 ≤ v8.toInt ∧ v8.toInt ≤ 255) ∧ ∀ a : Nat, a < 8 → (v8.toNatClampNeg.testBit a = true ↔ ((L d).testBit j = true ∧ Beu L R a d))) ?_ (fun v8 _ h8 => pc_some ?_)
      · have hZ : (∀ a, ¬ ((L d).testBit j = true ∧ Beu L R a d)) → (0 ≤ (0 : Int32).toInt ∧ (0 : Int32).toInt ≤ 255) ∧ ∀ a : Nat, a < 8 → ((0 : Int32).toNatClampNeg.testBit a = true ↔ ((L d).testBit j = true ∧ Beu L R a d)) := by
          intro hn
          refine ⟨by omega, fun a _ => ?_⟩
          rw [cl_0, Nat.zero_testBit]
          constructor
          · intro h; cases h
          · intro h; exact absurd h (hn a)
        by_cases hb : R.testBit d = true
        · rw [if_pos hb] at h7
          rw [if_neg (show ¬ r7 = 0 by rw [h7]; decide)]
          refine pc_rd (fun _ => pc_bind pc_has (fun r10 _ h10 => ?_))
          rw [ed, hbt2] at h10
          by_cases hb2 : (L d).testBit j = true
          · rw [if_pos hb2] at h10
            rw [if_neg (show ¬ r10 = 0 by rw [h10]; decide)]
            refine pc_rd (fun _ => pc_some ?_)
            rw [ix8 hT.1 (by omega) x1.1 (by omega), eR, ed]
            have hne : ¬ R = 0 := by
              intro e
              rw [e, Nat.zero_testBit] at hb
              cases hb
            obtain ⟨u1, u2⟩ := hc d (by omega) hne
            refine ⟨u1, fun a ha => ?_⟩
            rw [u2 a ha]
            constructor
            · exact fun h => ⟨hb2, h.2⟩
            · exact fun h => ⟨hsub, h.2⟩
          · rw [if_neg hb2] at h10
            rw [if_pos h10]
            exact pc_some (hZ (fun a h => hb2 h.1))
        · rw [if_neg hb] at h7
          rw [if_pos h7]
          exact pc_some (hZ (fun a h => hb (beu_step.mp h.2).2.1))
      · have o := or_val (x := q.1) (y := v8) x2.1 x2.2 h8.1.1 h8.1.2
        refine ⟨by show 0 ≤ (q.2 + 1).toInt ∧ (q.2 + 1).toInt ≤ _; omega, o.2, fun a ha => ?_⟩
        show (q.1 ||| v8).toNatClampNeg.testBit a = true ↔ ((R = 0 ∧ a = j) ∨ ∃ d : Nat, (d : Int) < (q.2 + 1).toInt ∧ (L d).testBit j = true ∧ Beu L R a d)
        rw [o.1, Nat.testBit_or, Bool.or_eq_true, x3 a ha, h8.2 a ha, ea]
        constructor
        · rintro ((h | ⟨e, h1, h2⟩) | h)
          · exact Or.inl h
          · exact Or.inr ⟨e, by omega, h2⟩
          · exact Or.inr ⟨d, by omega, h⟩
        · rintro (h | ⟨e, h1, h2⟩)
          · exact Or.inl (Or.inl h)
          · by_cases ee : e = d
            · rw [ee] at h2; exact Or.inr h2
            · exact Or.inl (Or.inr ⟨e, by omega, h2⟩)
    · rw [Int32.lt_iff_toInt_lt] at c
      refine ⟨x2, fun a ha => ?_⟩
      rw [x3 a ha]
      constructor
      · rintro (h | ⟨e, h1, h2⟩)
        · exact Or.inl h
        · exact Or.inr ⟨e, h2⟩
      · rintro (h | ⟨e, h2⟩)
        · exact Or.inl h
        · have h1 := tb_lt (S := R) (M := (m 134 17).toInt.toNat) (a := e) (by omega) (beu_step.mp h2.2).2.1
          exact Or.inr ⟨e, by omega, h2⟩
  · refine ⟨by show 0 ≤ (0 : Int32).toInt ∧ (0 : Int32).toInt ≤ _; omega, ?_, fun a ha => ?_⟩
    · show 0 ≤ v6.toInt ∧ v6.toInt ≤ 255
      have s1 := i_shl1 (k := 7) (by decide) hl.1 (show l.toInt ≤ (7 : Nat) by omega)
      rw [hv]
      by_cases c : R = 0
      · rw [if_pos c]; omega
      · rw [if_neg c]; omega
    · show v6.toNatClampNeg.testBit a = true ↔ ((R = 0 ∧ a = j) ∨ ∃ d : Nat, (d : Int) < (0 : Int32).toInt ∧ (L d).testBit j = true ∧ Beu L R a d)
      rw [hv]
      by_cases c : R = 0
      · rw [if_pos c]
        have s := i_shl hl.1 (by omega)
        have pj := Nat.two_pow_pos l.toInt.toNat
        have c2 := i_clq (i := (1 : Int32) <<< (l &&& 31)) (by omega)
        have e : ((1 : Int32) <<< (l &&& 31)).toNatClampNeg = 2 ^ j := by
          rw [show l.toInt.toNat = j by omega] at s
          omega
        rw [e, one_bit (by omega) ha]
        constructor
        · exact fun h => Or.inl ⟨c, h⟩
        · rintro (h | ⟨d, h1, _⟩)
          · exact h.2
          · omega
      · rw [if_neg c, cl_0, Nat.zero_testBit]
        constructor
        · intro h; cases h
        · rintro (h | ⟨d, h1, _⟩)
          · exact absurd h.1 c
          · omega
theorem pc_zero148 {w' : Mem} (n : Nat) : Pc (fun v => (∀ k i, ¬ k = 148 → v k i = w' k i) ∧ ∀ i, i < 2048 → v 148 i = 0) (lp (S := (Int32 × Mem)) (T := Mem) (fun s2 => (if s2.1 < (2048 : Int32) then wr 2048 148 s2.1 (0 : Int32) s2.2 fun w1 => some (Sum.inl ((s2.1 + (1 : Int32)), w1)) else some (Sum.inr s2.2))) n ((0 : Int32), w')) := by
  have t0 := tl_0
  have t2 := tl_2048
  refine pc_lp (fun (s : Int32 × Mem) => (0 ≤ s.1.toInt ∧ s.1.toInt ≤ 2048) ∧ (∀ k i, ¬ k = 148 → s.2 k i = w' k i) ∧ ∀ i : Nat, (i : Int) < s.1.toInt → s.2 148 i = 0) ?_ _ _ ?_
  · intro s hX
    obtain ⟨x1, x2, x3⟩ := hX
    refine pc_ite (fun c => pc_wr (fun _ => pc_some ?_)) (fun c => pc_some ⟨x2, fun i hi => ?_⟩)
    · rw [Int32.lt_iff_toInt_lt, t2] at c
      have ea : (s.1 + 1).toInt = s.1.toInt + 1 := i_addk tl_1 (by omega) (by omega)
      have hc := i_clq x1.1
      refine ⟨by show 0 ≤ (s.1 + 1).toInt ∧ (s.1 + 1).toInt ≤ 2048; omega, fun k i hk => ?_, fun i hi => ?_⟩
      · show wu s.2 148 s.1.toNatClampNeg 0 k i = w' k i
        rw [wu_ne (by omega)]
        exact x2 k i hk
      · have hi2 : (i : Int) < (s.1 + 1).toInt := hi
        show wu s.2 148 s.1.toNatClampNeg 0 148 i = 0
        by_cases e : i = s.1.toNatClampNeg
        · rw [e, wu_at]
        · rw [wu_ne (by omega)]
          exact x3 i (by omega)
    · rw [Int32.lt_iff_toInt_lt, t2] at c
      exact x3 i (by omega)
  · refine ⟨by show 0 ≤ (0 : Int32).toInt ∧ (0 : Int32).toInt ≤ 2048; omega, fun k i _ => rfl, fun i hi => ?_⟩
    have hi2 : (i : Int) < (0 : Int32).toInt := hi
    omega
