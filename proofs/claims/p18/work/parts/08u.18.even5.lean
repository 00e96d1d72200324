/-! all that both sides hold in common -/
def DrC (x y : Int32) : Prop := x = y ∧ 0 ≤ y.toInt
def ImC (b : Nat) (w w' : Mem) : Prop := (¬ w 126 2 = 0 → EvC 127 (fun k => w' 155 k) b w ∧ DrC (w 126 1) (w' 156 0)) ∧ (¬ w 130 2 = 0 → EvC 131 (fun k => w' 155 (25 + k)) b w ∧ DrC (w 130 1) (w' 156 1))
def SimE (w w' : Mem) : Prop := SimB w w' ∧ EvC 3 (w' 146) (brp (w 0 8)) w ∧ PaC (brp (w 0 8)) w w' ∧ ImC (brp (w 0 8)) w w' ∧ DrC (w 0 10) (w' 134 28)
theorem pac_of {b : Nat} {w w' u u' : Mem} (h : PaC b w w') (h6 : (w b 3).toInt ≤ 6) (h61 : u 6 1 = w 6 1) (h62 : u 6 2 = w 6 2) (hr : ∀ k i, 8 ≤ k → k ≤ 97 → u k i = w k i) (h25 : u' 134 25 = w' 134 25) (h26 : u' 134 26 = w' 134 26) (h147 : ∀ i, u' 147 i = w' 147 i) (hb2 : u b 2 = w b 2) (hb3 : u b 3 = w b 3) (hb4 : ∀ i, u (b + 4) i = w (b + 4) i) : PaC b u u' := by
  obtain ⟨⟨p1, p2⟩, p3, p4, p5⟩ := h
  refine ⟨⟨by rw [h61, h25, p1], by rw [h62, h26, p2]⟩, by rw [h61]; exact p3, by rw [h62]; exact p4, fun i hi ha => ?_⟩
  rw [h61, h62] at ha
  exact evc_mv (p5 i hi ha) h6 (fun j _ => hr _ j (by omega) (by omega)) (fun j _ => hr _ j (by omega) (by omega)) (fun j _ => hr _ j (by omega) (by omega)) (fun j _ => h147 _) hb2 hb3 (fun j _ => hb4 j)
theorem imc_of {b : Nat} {w w' u u' : Mem} (h : ImC b w w') (h6 : (w b 3).toInt ≤ 6) (hl : ∀ k i, 126 ≤ k → k ≤ 133 → u k i = w k i) (h155 : ∀ i, u' 155 i = w' 155 i) (h156 : ∀ i, u' 156 i = w' 156 i) (hb2 : u b 2 = w b 2) (hb3 : u b 3 = w b 3) (hb4 : ∀ i, u (b + 4) i = w (b + 4) i) : ImC b u u' := by
  obtain ⟨a, c⟩ := h
  refine ⟨fun hk => ?_, fun hk => ?_⟩
  · rw [hl 126 2 (by omega) (by omega)] at hk
    obtain ⟨e, f⟩ := a hk
    exact ⟨evc_mv e h6 (fun j _ => hl _ j (by omega) (by omega)) (fun j _ => hl _ j (by omega) (by omega)) (fun j _ => hl _ j (by omega) (by omega)) (fun j _ => h155 _) hb2 hb3 (fun j _ => hb4 j), by rw [hl 126 1 (by omega) (by omega), h156]; exact f⟩
  · rw [hl 130 2 (by omega) (by omega)] at hk
    obtain ⟨e, f⟩ := c hk
    exact ⟨evc_mv e h6 (fun j _ => hl _ j (by omega) (by omega)) (fun j _ => hl _ j (by omega) (by omega)) (fun j _ => hl _ j (by omega) (by omega)) (fun j _ => h155 _) hb2 hb3 (fun j _ => hb4 j), by rw [hl 130 1 (by omega) (by omega), h156]; exact f⟩
/-! a call that leaves all of it as it was -/
theorem sime_of {w w' u u' : Mem} (h : SimE w w') (hl : ∀ k i, (k = 0 ∧ 8 ≤ i) ∨ (k = 1 ∧ i = 1) ∨ (2 ≤ k ∧ k ≤ 97) ∨ (106 ≤ k ∧ k ≤ 117) ∨ (119 ≤ k ∧ k ≤ 124) ∨ (126 ≤ k ∧ k ≤ 133) → u k i = w k i) (hr : ∀ k i, (k = 134 ∧ (i = 0 ∨ i = 5 ∨ i = 34 ∨ i = 37 ∨ (15 ≤ i ∧ i ≤ 18) ∨ (25 ≤ i ∧ i ≤ 28))) ∨ k = 135 ∨ (141 ≤ k ∧ k ≤ 147) ∨ (150 ≤ k ∧ k ≤ 156) → u' k i = w' k i) : SimE u u' := by
  obtain ⟨a, e, p, m, d⟩ := h
  have hb : brp (w 0 8) = 112 ∨ brp (w 0 8) = 119 := brp_or _
  have h6 : (w (brp (w 0 8)) 3).toInt ≤ 6 := a.2.1.2.2.1.2.2
  have e8 : u 0 8 = w 0 8 := hl 0 8 (by omega)
  refine ⟨simb_of a (fun k i h => hl k i (by omega)) (fun k i h => hr k i (by omega)), ?_, ?_, ?_, ?_⟩
  · rw [e8]
    exact evc_mv e h6 (fun j _ => hl _ j (by omega)) (fun j _ => hl _ j (by omega)) (fun j _ => hl _ j (by omega)) (fun j _ => hr _ _ (by omega)) (hl _ _ (by omega)) (hl _ _ (by omega)) (fun j _ => hl _ j (by omega))
  · rw [e8]
    exact pac_of p h6 (hl _ _ (by omega)) (hl _ _ (by omega)) (fun k i k1 k2 => hl k i (by omega)) (hr _ _ (by omega)) (hr _ _ (by omega)) (fun i => hr _ _ (by omega)) (hl _ _ (by omega)) (hl _ _ (by omega)) (fun j => hl _ j (by omega))
  · rw [e8]
    exact imc_of m h6 (fun k i k1 k2 => hl k i (by omega)) (fun i => hr _ _ (by omega)) (fun i => hr _ _ (by omega)) (hl _ _ (by omega)) (hl _ _ (by omega)) (fun j => hl _ j (by omega))
  · rw [hl 0 10 (by omega), hr 134 28 (by omega)]
    exact d
/-! a deed: what was is remembered, then the evening alone is another -/
theorem sime_deed {w w' x x' u u' : Mem} (h : SimE w w') (hx : f_X6_remember w = some x) (hx' : f_X10_remember w' = some x') (hl : ∀ k i, (k = 0 ∧ 8 ≤ i ∧ ¬ i = 10) ∨ (k = 1 ∧ i = 1) ∨ k = 2 ∨ (6 ≤ k ∧ k ≤ 97) ∨ (106 ≤ k ∧ k ≤ 117) ∨ (119 ≤ k ∧ k ≤ 124) ∨ (126 ≤ k ∧ k ≤ 133) → u k i = x k i) (hr : ∀ k i, (k = 134 ∧ (i = 0 ∨ i = 5 ∨ i = 34 ∨ i = 37 ∨ (15 ≤ i ∧ i ≤ 18) ∨ (25 ≤ i ∧ i ≤ 26))) ∨ k = 135 ∨ (141 ≤ k ∧ k ≤ 145) ∨ k = 147 ∨ (150 ≤ k ∧ k ≤ 156) → u' k i = x' k i) (hE : EvC 3 (u' 146) (brp (w 0 8)) u) (hd : DrC (u 0 10) (u' 134 28)) : SimE u u' := by
  obtain ⟨a, e, p, m, d⟩ := h
  have hb : brp (w 0 8) = 112 ∨ brp (w 0 8) = 119 := brp_or _
  have h6 : (w (brp (w 0 8)) 3).toInt ≤ 6 := a.2.1.2.2.1.2.2
  have fl := fr_X6_remember w x hx
  have fr := fr_X10_remember w' x' hx'
  have hP := rc_rem (brp_ok _) e h6 p x x' hx hx'
  have e8 : u 0 8 = w 0 8 := by rw [hl 0 8 (by omega), fl 0 8 (by omega)]
  have hx6 : (x (brp (w 0 8)) 3).toInt ≤ 6 := by rw [fl _ _ (by omega)]; exact h6
  have L : ∀ k i, (106 ≤ k ∧ k ≤ 117) ∨ (119 ≤ k ∧ k ≤ 124) ∨ (126 ≤ k ∧ k ≤ 133) → u k i = w k i := fun k i h => by rw [hl k i (by omega), fl k i (by omega)]
  refine ⟨simb_of a (fun k i h => by rw [hl k i (by omega), fl k i (by omega)]) (fun k i h => by rw [hr k i (by omega), fr k i (by omega)]), by rw [e8]; exact hE, ?_, ?_, hd⟩
  · rw [e8]
    exact pac_of hP hx6 (hl _ _ (by omega)) (hl _ _ (by omega)) (fun k i k1 k2 => hl k i (by omega)) (hr _ _ (by omega)) (hr _ _ (by omega)) (fun i => hr _ _ (by omega)) (hl _ _ (by omega)) (hl _ _ (by omega)) (fun j => hl _ j (by omega))
  · rw [e8]
    exact imc_of m h6 (fun k i k1 k2 => L k i (by omega)) (fun i => by rw [hr _ _ (by omega), fr _ _ (by omega)]) (fun i => by rw [hr _ _ (by omega), fr _ _ (by omega)]) (L _ _ (by omega)) (L _ _ (by omega)) (fun j => L _ j (by omega))
/-! minutes pass over an evening -/
theorem evc_pass {b : Nat} {k : Int32} {w w' u u' : Mem} (hB : BrC b w w') (hE : EvC 3 (w' 146) b w) (hbb : b = 112 ∨ b = 119) (hk0 : 0 ≤ k.toInt) (hu : PmP b k w u) (hu' : RpP k w' u') : EvC 3 (u' 146) b u := by
  obtain ⟨a1, a2, a3, a4, a5⟩ := hE
  obtain ⟨u0, uf, u7, u9, ut⟩ := hu
  obtain ⟨v0, vf, vt⟩ := hu'
  have eb2 : u b 2 = w b 2 := uf b 2 (by omega) (by omega)
  have eb3 : u b 3 = w b 3 := uf b 3 (by omega) (by omega)
  have en : w b 3 = w' 134 18 := hB.1.2.2.2
  refine ⟨⟨by rw [u0, v0, a1.1], ?_⟩, ?_, ?_, ?_, fun t ht => ?_⟩
  · rw [uf 3 1 (by omega) (by omega), uf 3 2 (by omega) (by omega), uf 3 3 (by omega) (by omega), uf 3 4 (by omega) (by omega), uf 3 5 (by omega) (by omega), uf 3 6 (by omega) (by omega), vf.2 1 (by omega), vf.2 2 (by omega), vf.2 3 (by omega), vf.2 4 (by omega), vf.2 5 (by omega), vf.2 6 (by omega)]
    exact a1.2
  · rw [vf.2 1 (by omega), vf.2 2 (by omega), vf.2 3 (by omega), vf.2 4 (by omega), vf.2 5 (by omega), vf.2 6 (by omega), eb2, eb3]
    exact a2
  · rw [vf.2 4 (by omega), vf.2 5 (by omega), vf.2 6 (by omega)]
    exact a3
  · rw [eb3, uf 3 8 (by omega) (by omega)]
    exact ⟨u7, a4.2.1, u9⟩
  · rw [eb3] at ht
    obtain ⟨⟨w1, w2⟩, w3⟩ := a5 t ht
    have hU := ut t ht
    have hV := vt t (by rw [← en]; exact ht)
    obtain ⟨⟨_, E4, _⟩, _, hh, _⟩ := hB.2.2.2.2 t ht
    have eL : LimR w' t = LimI w b t := by unfold LimR LimI; rw [E4]
    have hL : LimI w b t = 60 - 5 * (w (b + 4) t).toInt := rfl
    rw [eL] at hV
    rw [uf (b + 4) t (by omega) (by omega), uf 3 8 (by omega) (by omega), uf 5 t (by omega) (by omega), vf.2 4 (by omega), vf.2 5 (by omega), vf.2 (13 + t) (by have := hB.2.2.1.2.2; omega)]
    have w1' : w 4 t = w' 146 (19 + t) := w1
    have w2' : w 5 t = w' 146 (13 + t) := w2
    rw [w1'] at hU
    rcases w3 with ⟨z1, ⟨z2, z3, z4⟩, z5, z6, z7, z8⟩ | ⟨z1, ⟨z2, z3, z4⟩, z5⟩ | ⟨z1, ⟨z2, z3, z4⟩, z5⟩ | ⟨z1, ⟨z2, z3, z4⟩, z5⟩
    · rcases hU with ⟨q1, _⟩ | ⟨q1, q2, q3, q4, q5⟩ | ⟨q1, q2, q3, q4, q5⟩
      · rw [z2] at q1; exact absurd q1 (by decide)
      · rcases hV with ⟨r1, _⟩ | ⟨r1, r2, r3, r4⟩ | ⟨r1, r2, r3, r4⟩
        · exact absurd z1 r1
        · exact ⟨⟨by show u 4 t = _; rw [i_eq_iff, q5, r4], w2'⟩, Or.inl ⟨r3, ⟨q3, z3, by rw [q4, z4]⟩, z5, z6, by omega, by omega⟩⟩
        · omega
      · rcases hV with ⟨r1, _⟩ | ⟨r1, r2, r3, r4⟩ | ⟨r1, r2, r3, r4⟩
        · exact absurd z1 r1
        · omega
        · exact ⟨⟨by show u 4 t = _; rw [i_eq_iff, q5, r4], w2'⟩, Or.inr (Or.inr (Or.inr ⟨r3, ⟨q3, z3, q4⟩, z5, by rw [z6, tl_0]; omega, by rw [z6, tl_0]; omega⟩))⟩
    · rcases hU with ⟨q1, q2, q3, q4⟩ | ⟨q1, _⟩ | ⟨q1, _⟩
      · rcases hV with ⟨r1, r2, r3⟩ | ⟨r1, _⟩ | ⟨r1, _⟩
        · exact ⟨⟨by show u 4 t = _; rw [q4, r3], w2'⟩, Or.inr (Or.inl ⟨by rw [r2, z1], ⟨q2, z3, by rw [q3, z4]⟩, z5⟩)⟩
        · rw [z1] at r1; exact absurd r1 (by decide)
        · rw [z1] at r1; exact absurd r1 (by decide)
      · rw [z2] at q1; exact absurd q1 (by decide)
      · rw [z2] at q1; exact absurd q1 (by decide)
    · rcases hU with ⟨q1, q2, q3, q4⟩ | ⟨q1, _⟩ | ⟨q1, _⟩
      · rcases hV with ⟨r1, r2, r3⟩ | ⟨r1, _⟩ | ⟨r1, _⟩
        · exact ⟨⟨by show u 4 t = _; rw [q4, r3], w2'⟩, Or.inr (Or.inr (Or.inl ⟨by rw [r2, z1], ⟨q2, z3, by rw [q3, z4]⟩, z5⟩))⟩
        · rw [z1] at r1; exact absurd r1 (by decide)
        · rw [z1] at r1; exact absurd r1 (by decide)
      · rw [z2] at q1; exact absurd q1 (by decide)
      · rw [z2] at q1; exact absurd q1 (by decide)
    · rcases hU with ⟨q1, q2, q3, q4⟩ | ⟨q1, _⟩ | ⟨q1, _⟩
      · rcases hV with ⟨r1, r2, r3⟩ | ⟨r1, _⟩ | ⟨r1, _⟩
        · exact ⟨⟨by show u 4 t = _; rw [q4, r3], w2'⟩, Or.inr (Or.inr (Or.inr ⟨by rw [r2, z1], ⟨q2, z3, by rw [q3, z4]⟩, z5⟩))⟩
        · rw [z1] at r1; exact absurd r1 (by decide)
        · rw [z1] at r1; exact absurd r1 (by decide)
      · rw [z2] at q1; exact absurd q1 (by decide)
      · rw [z2] at q1; exact absurd q1 (by decide)
theorem rc_passE {b : Nat} (hb : BrO b) {k : Int32} {w w' : Mem} (hB : BrC b w w') (hE : EvC 3 (w' 146) b w) (hk : 0 ≤ k.toInt ∧ k.toInt ≤ 300) : Rc (fun u u' => EvC 3 (u' 146) b u ∧ u 3 0 = u' 146 0 ∧ PmP b k w u ∧ RpP k w' u') (f_X3_passMinutes b k w) (f_X10_passes k w') := by
  intro u u' hu hu'
  have en : w b 3 = w' 134 18 := hB.1.2.2.2
  have b3 := hB.2.2.1
  have h1 := pc_pass hb b3.2 hk (fun t ht => (hB.2.2.2.2 t ht).2.2.1) hE.2.2.2.1.1 hE.2.2.2.1.2.2 (fun t ht h => by
    obtain ⟨⟨w1, _⟩, w3⟩ := hE.2.2.2.2 t ht
    have w1' : w 4 t = w' 146 (19 + t) := w1
    unfold LimI
    rw [w1']
    rcases w3 with ⟨z1, ⟨z2, z3, z4⟩, z5, z6, z7, z8⟩ | ⟨z1, ⟨z2, z3, z4⟩, z5⟩ | ⟨z1, ⟨z2, z3, z4⟩, z5⟩ | ⟨z1, ⟨z2, z3, z4⟩, z5⟩
    · exact ⟨z7, z8⟩
    · rw [z2] at h; exact absurd h (by decide)
    · rw [z2] at h; exact absurd h (by decide)
    · rw [z2] at h; exact absurd h (by decide)) u hu
  have h2 := pc_passes (k := k) (w' := w') (by rw [← en]; exact b3.2) hk (fun t ht => by
    rw [← en] at ht
    obtain ⟨⟨_, E4, _⟩, _, hh, _⟩ := hB.2.2.2.2 t ht
    rw [← E4]; exact hh) (fun t ht h => by
    rw [← en] at ht
    obtain ⟨⟨_, E4, _⟩, _, hh, _⟩ := hB.2.2.2.2 t ht
    obtain ⟨_, w3⟩ := hE.2.2.2.2 t ht
    unfold LimR
    rw [← E4]
    rcases w3 with ⟨z1, ⟨z2, z3, z4⟩, z5, z6, z7, z8⟩ | ⟨z1, _⟩ | ⟨z1, _⟩ | ⟨z1, _⟩
    · exact ⟨z7, z8⟩
    · rw [z1] at h; exact absurd h (by decide)
    · rw [z1] at h; exact absurd h (by decide)
    · rw [z1] at h; exact absurd h (by decide)) u' hu'
  exact ⟨evc_pass hB hE hb hk.1 h1 h2, by rw [h1.1, h2.1, hE.1.1], h1, h2⟩
