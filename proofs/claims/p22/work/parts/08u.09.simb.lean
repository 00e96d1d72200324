/-! what both sides hold in common: the text, the bridge, the fault, what stayed, the book, the images' marks -/
def BrC (b : Nat) (w w' : Mem) : Prop :=
  (w b 0 = w' 134 15 ∧ w b 1 = w' 134 16 ∧ w b 2 = w' 134 17 ∧ w b 3 = w' 134 18) ∧
  ((w b 0 = 0 ∧ w b 1 = 0 ∧ w b 2 = 0 ∧ w b 3 = 0) ∨ ((1 ≤ (w b 0).toInt ∧ (w b 0).toInt ≤ 60) ∧ (1 ≤ (w b 1).toInt ∧ (w b 1).toInt ≤ 9))) ∧
  ((0 ≤ (w b 2).toInt ∧ (w b 2).toInt ≤ 8) ∧ (0 ≤ (w b 3).toInt ∧ (w b 3).toInt ≤ 6)) ∧
  (∀ i : Nat, (i : Int) < (w b 2).toInt → (w (b + 1) i = w' 141 i ∧ w (b + 2) i = w' 142 i) ∧ (1 ≤ (w (b + 1) i).toInt ∧ (w (b + 1) i).toInt ≤ 60) ∧ w (b + 2) i &&& AllI (w b 2) = w (b + 2) i) ∧
  (∀ i : Nat, (i : Int) < (w b 3).toInt → (w (b + 3) i = w' 143 i ∧ w (b + 4) i = w' 144 i ∧ w (b + 5) i = w' 145 i) ∧ (0 ≤ (w (b + 3) i).toInt ∧ (w (b + 3) i).toInt ≤ 4) ∧ (0 ≤ (w (b + 4) i).toInt ∧ (w (b + 4) i).toInt ≤ 9) ∧ w (b + 5) i &&& AllI (w b 2) = w (b + 5) i)
def EnC (a b c : Nat) (f : Nat) (w w' : Mem) : Prop := w a 2 = w' 134 f ∧ 0 ≤ (w a 2).toInt ∧ (∀ i : Nat, (i : Int) < (w a 2).toInt → (w (a + 1) i = w' b i ∧ w (a + 2) i = w' c i) ∧ 0 ≤ (w (a + 1) i).toInt ∧ (w (a + 1) i).toInt < (w' 134 18).toInt)
def SimB (w w' : Mem) : Prop := TxR w w' ∧ BrC (brp (w 0 8)) w w' ∧ ¬ brp (w 0 8) = brp (w 0 9) ∧ w 0 11 = w' 134 5 ∧ (EnC 106 150 151 34 w w' ∧ EnC 109 152 153 37 w w') ∧ w 126 2 = w' 154 0 ∧ w 130 2 = w' 154 1
theorem brc_of {b : Nat} {w w' u u' : Mem} (h : BrC b w w') (hl : ∀ k i, b ≤ k → k ≤ b + 5 → u k i = w k i) (h15 : u' 134 15 = w' 134 15) (h16 : u' 134 16 = w' 134 16) (h17 : u' 134 17 = w' 134 17) (h18 : u' 134 18 = w' 134 18) (hr : ∀ k i, 141 ≤ k → k ≤ 145 → u' k i = w' k i) : BrC b u u' := by
  obtain ⟨a, c, d, e, f⟩ := h
  have l0 := hl b 0 (by omega) (by omega)
  have l1 := hl b 1 (by omega) (by omega)
  have l2 := hl b 2 (by omega) (by omega)
  have l3 := hl b 3 (by omega) (by omega)
  refine ⟨?_, ?_, ?_, fun i hi => ?_, fun i hi => ?_⟩
  · rw [l0, l1, l2, l3, h15, h16, h17, h18]; exact a
  · rw [l0, l1, l2, l3]; exact c
  · rw [l2, l3]; exact d
  · rw [l2] at hi
    rw [l2, hl (b + 1) i (by omega) (by omega), hl (b + 2) i (by omega) (by omega), hr 141 i (by omega) (by omega), hr 142 i (by omega) (by omega)]
    exact e i hi
  · rw [l3] at hi
    rw [l2, hl (b + 3) i (by omega) (by omega), hl (b + 4) i (by omega) (by omega), hl (b + 5) i (by omega) (by omega), hr 143 i (by omega) (by omega), hr 144 i (by omega) (by omega), hr 145 i (by omega) (by omega)]
    exact f i hi
theorem enc_of {a b c f : Nat} {w w' u u' : Mem} (h : EnC a b c f w w') (h1 : u a 2 = w a 2) (h2 : ∀ i, u (a + 1) i = w (a + 1) i) (h3 : ∀ i, u (a + 2) i = w (a + 2) i) (h4 : u' 134 f = w' 134 f) (h5 : ∀ i, u' b i = w' b i) (h6 : ∀ i, u' c i = w' c i) (h7 : u' 134 18 = w' 134 18) : EnC a b c f u u' := by
  obtain ⟨x, x2, y⟩ := h
  refine ⟨by rw [h1, h4, x], by rw [h1]; exact x2, fun i hi => ?_⟩
  rw [h1] at hi
  rw [h2, h3, h5, h6, h7]
  exact y i hi
/-! a call that leaves all of it as it was -/
theorem simb_of {w w' u u' : Mem} (h : SimB w w') (hl : ∀ k i, (k = 0 ∧ (i = 8 ∨ i = 9 ∨ i = 11)) ∨ (k = 1 ∧ i = 1) ∨ k = 2 ∨ (106 ≤ k ∧ k ≤ 111) ∨ (112 ≤ k ∧ k ≤ 117) ∨ (119 ≤ k ∧ k ≤ 124) ∨ ((k = 126 ∨ k = 130) ∧ i = 2) → u k i = w k i) (hr : ∀ k i, (k = 134 ∧ (i = 0 ∨ i = 5 ∨ i = 34 ∨ i = 37 ∨ (15 ≤ i ∧ i ≤ 18))) ∨ k = 135 ∨ (141 ≤ k ∧ k ≤ 145) ∨ (150 ≤ k ∧ k ≤ 154) → u' k i = w' k i) : SimB u u' := by
  obtain ⟨a, b, c, d, ⟨e1, e2⟩, f1, f2⟩ := h
  have l8 := hl 0 8 (by omega)
  have l9 := hl 0 9 (by omega)
  have hb : brp (w 0 8) = 112 ∨ brp (w 0 8) = 119 := brp_or _
  refine ⟨txr_of a (hl 1 1 (by omega)) (fun i => hl 2 i (by omega)) (hr 134 0 (by omega)) (fun i => hr 135 i (by omega)), ?_, ?_, ?_, ⟨?_, ?_⟩, ?_, ?_⟩
  · rw [l8]
    exact brc_of b (fun k i k1 k2 => hl k i (by omega)) (hr 134 15 (by omega)) (hr 134 16 (by omega)) (hr 134 17 (by omega)) (hr 134 18 (by omega)) (fun k i k1 k2 => hr k i (by omega))
  · rw [l8, l9]; exact c
  · rw [hl 0 11 (by omega), hr 134 5 (by omega)]; exact d
  · exact enc_of e1 (hl 106 2 (by omega)) (fun i => hl 107 i (by omega)) (fun i => hl 108 i (by omega)) (hr 134 34 (by omega)) (fun i => hr 150 i (by omega)) (fun i => hr 151 i (by omega)) (hr 134 18 (by omega))
  · exact enc_of e2 (hl 109 2 (by omega)) (fun i => hl 110 i (by omega)) (fun i => hl 111 i (by omega)) (hr 134 37 (by omega)) (fun i => hr 152 i (by omega)) (fun i => hr 153 i (by omega)) (hr 134 18 (by omega))
  · rw [hl 126 2 (by omega), hr 154 0 (by omega)]; exact f1
  · rw [hl 130 2 (by omega), hr 154 1 (by omega)]; exact f2
theorem and_and {x a : Int32} : (x &&& a) &&& a = x &&& a := by rw [Int32.and_assoc, Int32.and_self]
theorem rc_bridge {w w' : Mem} (h : SimB w w') (hc : ∀ r, f_X10_readsBridge w' = some r → (0 ≤ (r.2 134 8).toInt ∧ (r.2 134 8).toInt ≤ 8) ∧ (0 ≤ (r.2 134 9).toInt ∧ (r.2 134 9).toInt ≤ 6)) : Rc (fun q q2 => q.1 = q2.1 ∧ SimB q.2 q2.2) (f_X9_bridge w) (f_X10_bridge w') := by
  intro q q2 hq hq2
  obtain ⟨v, hv, hV⟩ := pc_cbridge q hq
  obtain ⟨r, hr, hR⟩ := pc_rbridge hc q2 hq2
  have hb : BrO (brp (w 0 9)) := brp_ok _
  have hbb : brp (w 0 9) = 112 ∨ brp (w 0 9) = 119 := hb
  have hb8 : brp (w 0 8) = 112 ∨ brp (w 0 8) = 119 := brp_or _
  have hsim := h
  obtain ⟨a, b, c, d, ⟨e1, e2⟩, f1, f2⟩ := h
  have fv := fr_X7_readInto _ hb w v hv
  have fr := fr_X10_readsBridge w' r hr
  have t0 := tl_0
  rcases rc_read hb a v r hv hr with ⟨r1, v0, hN, hD, hS⟩ | ⟨r1, hB⟩
  · have hS2 := pc_settle hb hD.2.2.1.1 hD.2.2.1.2 v hS
    have v13 : v 1 3 = 0 := by rw [hS2.1 1 3 (by omega) (by omega) (by omega)]; exact hN.1
    have v14 : v 1 4 = -1 := by rw [hS2.1 1 4 (by omega) (by omega) (by omega)]; exact hN.2
    rcases hV with ⟨n, _⟩ | ⟨_, g⟩
    · exact absurd v13 n
    rcases hR with ⟨n, _⟩ | ⟨_, k⟩
    · rw [r1] at n; exact absurd n (by decide)
    obtain ⟨g1, g8, g9, g11, gf, gc, ge1, ge2, gi1, gi2, _⟩ := g
    obtain ⟨k1, k0, k5, ⟨k15, k16, k17, k18⟩, km, kn, ⟨k25, k34, k37, kk0, kk1⟩, _, _⟩ := k
    have v08 : v 0 8 = w 0 8 := fv 0 8 (by omega)
    have v09 : v 0 9 = w 0 9 := fv 0 9 (by omega)
    rw [v09] at g1 g8
    rw [v08] at g9
    obtain ⟨bb, ebb⟩ : ∃ bb, bb = brp (w 0 9) := ⟨_, rfl⟩
    rw [← ebb] at g1 g8 hD hS2 hb hbb
    have c0 : q.2 bb 0 = v0 bb 0 := by rw [gc bb 0 (by omega) (by omega), hS2.1 bb 0 (by omega) (by omega) (by omega)]
    have c1 : q.2 bb 1 = v0 bb 1 := by rw [gc bb 1 (by omega) (by omega), hS2.1 bb 1 (by omega) (by omega) (by omega)]
    have c2 : q.2 bb 2 = v0 bb 2 := by rw [gc bb 2 (by omega) (by omega), hS2.1 bb 2 (by omega) (by omega) (by omega)]
    have c3 : q.2 bb 3 = v0 bb 3 := by rw [gc bb 3 (by omega) (by omega), hS2.1 bb 3 (by omega) (by omega) (by omega)]
    obtain ⟨D1, D2, D3, D4, D5⟩ := hD
    refine ⟨?_, ⟨?_, ⟨?_, ?_⟩, ?_⟩, ?_, ?_, ?_, ⟨⟨?_, ?_, ?_⟩, ⟨?_, ?_, ?_⟩⟩, ?_, ?_⟩
    · rw [g1, k1, hS2.1 bb 3 (by omega) (by omega) (by omega)]; exact D1.2.2.2
    · rw [g11, k0]
    · rw [g11, t0]; omega
    · rw [g11, t0]; omega
    · intro i hi
      rw [g11, t0] at hi; omega
    · rw [g8]
      refine ⟨⟨?_, ?_, ?_, ?_⟩, ?_, ?_, fun i hi => ?_, fun i hi => ?_⟩
      · rw [c0, k15]; exact D1.1
      · rw [c1, k16]; exact D1.2.1
      · rw [c2, k17]; exact D1.2.2.1
      · rw [c3, k18]; exact D1.2.2.2
      · rw [c0, c1, c2, c3]; exact D2
      · rw [c2, c3]; exact D3
      · rw [c2] at hi
        have hi2 : (i : Int) < (r.2 134 8).toInt := by rw [← D1.2.2.1]; exact hi
        obtain ⟨m1, m2⟩ := km i hi2
        obtain ⟨⟨n1, n2⟩, n3, n4⟩ := D4 i hi
        have o1 : q.2 (bb + 1) i = v0 (bb + 1) i := by rw [gc (bb + 1) i (by omega) (by omega), hS2.1 (bb + 1) i (by omega) (by omega) (by omega)]
        have o2 : q.2 (bb + 2) i = v0 (bb + 2) i &&& AllI (v0 bb 2) := by rw [gc (bb + 2) i (by omega) (by omega), hS2.2.1 i hi]
        refine ⟨⟨by rw [o1, m1, n1], by rw [o2, m2, n2, D1.2.2.1]⟩, by rw [o1]; exact n3, ?_⟩
        rw [o2, c2, and_and]
      · rw [c3] at hi
        have hi2 : (i : Int) < (r.2 134 9).toInt := by rw [← D1.2.2.2]; exact hi
        obtain ⟨m1, m2, m3⟩ := kn i hi2
        obtain ⟨⟨n1, n2, n5⟩, n3, n4, n6⟩ := D5 i hi
        have o1 : q.2 (bb + 3) i = v0 (bb + 3) i := by rw [gc (bb + 3) i (by omega) (by omega), hS2.1 (bb + 3) i (by omega) (by omega) (by omega)]
        have o2 : q.2 (bb + 4) i = v0 (bb + 4) i := by rw [gc (bb + 4) i (by omega) (by omega), hS2.1 (bb + 4) i (by omega) (by omega) (by omega)]
        have o3 : q.2 (bb + 5) i = v0 (bb + 5) i &&& AllI (v0 bb 2) := by rw [gc (bb + 5) i (by omega) (by omega), hS2.2.2 i hi]
        refine ⟨⟨by rw [o1, m1, n1], by rw [o2, m2, n2], by rw [o3, m3, n5, D1.2.2.1]⟩, by rw [o1]; exact n3, by rw [o2]; exact n4, ?_⟩
        rw [o3, c2, and_and]
    · rw [g8, g9, ebb]
      exact fun e => c e.symm
    · rw [gf, k5, v14]
    · rw [ge1, k34]
    · rw [ge1, t0]; omega
    · intro i hi
      rw [ge1, t0] at hi; omega
    · rw [ge2, k37]
    · rw [ge2, t0]; omega
    · intro i hi
      rw [ge2, t0] at hi; omega
    · rw [gi1, kk0]
    · rw [gi2, kk1]
  · rcases hV with ⟨_, g1, g2⟩ | ⟨n, _⟩
    · rcases hR with ⟨_, k1, k2⟩ | ⟨n, _⟩
      · refine ⟨by rw [g1, k1, hB.1], ?_⟩
        rw [g2, k2]
        have L : ∀ k i, ¬ (brp (w 0 9) ≤ k ∧ k ≤ brp (w 0 9) + 6) → ¬ (k = 1 ∧ 1 ≤ i ∧ i ≤ 4) → ¬ (k = 0 ∧ i = 11) → wu (wu v 1 1 0) 0 11 (v 1 4) k i = w k i := by
          intro k i h1 h2 h3
          rw [wu_ne h3, wu_ne (by omega), fv k i (by omega)]
        have R : ∀ k i, ¬ (k = 134 ∧ i ≤ 9) → ¬ (136 ≤ k ∧ k ≤ 140) → wu (wu r.2 134 0 0) 134 5 (r.2 134 2) k i = w' k i := by
          intro k i h1 h2
          rw [wu_ne (by omega), wu_ne (by omega), fr k i (by omega)]
        have L11 : wu (wu v 1 1 0) 0 11 (v 1 4) 1 1 = 0 := by rw [wu_ne (by omega), wu_at]
        have R0 : wu (wu r.2 134 0 0) 134 5 (r.2 134 2) 134 0 = 0 := by rw [wu_ne (by omega), wu_at]
        have L8 := L 0 8 (by omega) (by omega) (by omega)
        have L9 := L 0 9 (by omega) (by omega) (by omega)
        refine ⟨⟨?_, ⟨?_, ?_⟩, ?_⟩, ?_, ?_, ?_, ⟨?_, ?_⟩, ?_, ?_⟩
        · rw [L11, R0]
        · rw [L11, t0]; omega
        · rw [L11, t0]; omega
        · intro i hi
          rw [L11, t0] at hi; omega
        · rw [L8]
          exact brc_of b (fun k i k1 k2 => L k i (by omega) (by omega) (by omega)) (R 134 15 (by omega) (by omega)) (R 134 16 (by omega) (by omega)) (R 134 17 (by omega) (by omega)) (R 134 18 (by omega) (by omega)) (fun k i k1 k2 => R k i (by omega) (by omega))
        · rw [L8, L9]; exact c
        · rw [wu_at, wu_at]; exact hB.2.2
        · exact enc_of e1 (L 106 2 (by omega) (by omega) (by omega)) (fun i => L 107 i (by omega) (by omega) (by omega)) (fun i => L 108 i (by omega) (by omega) (by omega)) (R 134 34 (by omega) (by omega)) (fun i => R 150 i (by omega) (by omega)) (fun i => R 151 i (by omega) (by omega)) (R 134 18 (by omega) (by omega))
        · exact enc_of e2 (L 109 2 (by omega) (by omega) (by omega)) (fun i => L 110 i (by omega) (by omega) (by omega)) (fun i => L 111 i (by omega) (by omega) (by omega)) (R 134 37 (by omega) (by omega)) (fun i => R 152 i (by omega) (by omega)) (fun i => R 153 i (by omega) (by omega)) (R 134 18 (by omega) (by omega))
        · rw [L 126 2 (by omega) (by omega) (by omega), R 154 0 (by omega) (by omega)]; exact f1
        · rw [L 130 2 (by omega) (by omega) (by omega), R 154 1 (by omega) (by omega)]; exact f2
      · exact absurd r1 n
    · exact absurd n hB.2.1
