/-! clauses -/
theorem sb {α β : Type} (a : α) (f : α → Option β) : (some a).bind f = f a := rfl
def DfR (b : Nat) (w w' : Mem) : Prop :=
  (w b 0 = w' 134 6 ∧ w b 1 = w' 134 7 ∧ w b 2 = w' 134 8 ∧ w b 3 = w' 134 9) ∧
  ((w b 0 = 0 ∧ w b 1 = 0 ∧ w b 2 = 0 ∧ w b 3 = 0) ∨ ((1 ≤ (w b 0).toInt ∧ (w b 0).toInt ≤ 60) ∧ (1 ≤ (w b 1).toInt ∧ (w b 1).toInt ≤ 9))) ∧
  ((0 ≤ (w b 2).toInt ∧ (w b 2).toInt ≤ 8) ∧ (0 ≤ (w b 3).toInt ∧ (w b 3).toInt ≤ 6)) ∧
  (∀ i : Nat, (i : Int) < (w b 2).toInt → (w (b + 1) i = w' 136 i ∧ w (b + 2) i = w' 137 i) ∧ (1 ≤ (w (b + 1) i).toInt ∧ (w (b + 1) i).toInt ≤ 60) ∧ (0 ≤ (w (b + 2) i).toInt ∧ (w (b + 2) i).toInt ≤ 255)) ∧
  (∀ i : Nat, (i : Int) < (w b 3).toInt → (w (b + 3) i = w' 138 i ∧ w (b + 4) i = w' 139 i ∧ w (b + 5) i = w' 140 i) ∧ (0 ≤ (w (b + 3) i).toInt ∧ (w (b + 3) i).toInt ≤ 4) ∧ (0 ≤ (w (b + 4) i).toInt ∧ (w (b + 4) i).toInt ≤ 9) ∧ (0 ≤ (w (b + 5) i).toInt ∧ (w (b + 5) i).toInt ≤ 255))
theorem dfr_of {b : Nat} {w w' u u' : Mem} (h : DfR b w w') (hl : ∀ k i, b ≤ k → k ≤ b + 5 → u k i = w k i) (h6 : u' 134 6 = w' 134 6) (h7 : u' 134 7 = w' 134 7) (h8 : u' 134 8 = w' 134 8) (h9 : u' 134 9 = w' 134 9) (hr : ∀ k i, 136 ≤ k → k ≤ 140 → u' k i = w' k i) : DfR b u u' := by
  obtain ⟨a, c, d, e, f⟩ := h
  have l0 := hl b 0 (by omega) (by omega)
  have l1 := hl b 1 (by omega) (by omega)
  have l2 := hl b 2 (by omega) (by omega)
  have l3 := hl b 3 (by omega) (by omega)
  refine ⟨?_, ?_, ?_, fun i hi => ?_, fun i hi => ?_⟩
  · rw [l0, l1, l2, l3, h6, h7, h8, h9]; exact a
  · rw [l0, l1, l2, l3]; exact c
  · rw [l2, l3]; exact d
  · rw [l2] at hi
    rw [hl (b + 1) i (by omega) (by omega), hl (b + 2) i (by omega) (by omega), hr 136 i (by omega) (by omega), hr 137 i (by omega) (by omega)]
    exact e i hi
  · rw [l3] at hi
    rw [hl (b + 3) i (by omega) (by omega), hl (b + 4) i (by omega) (by omega), hl (b + 5) i (by omega) (by omega), hr 138 i (by omega) (by omega), hr 139 i (by omega) (by omega), hr 140 i (by omega) (by omega)]
    exact f i hi
theorem pc_tail0 {w : Mem} {K : Int32 × Mem → Option Mem} (h : ¬ w 1 3 = 0) : Pc (fun u => u 1 3 = w 1 3 ∧ u 1 4 = w 1 4) ((f_X7_readEnd w).bind fun q3 => if q3.1 = 0 then some q3.2 else K q3) := by
  refine pc_bind (pc_endB h) (fun q _ hq => ?_)
  rw [if_pos hq.1]
  exact pc_some hq.2
theorem pc_tail1 {w : Mem} {lo hi : Int32} {K : Int32 × Mem → Int32 × Mem → Option Mem} (h : ¬ w 1 3 = 0) : Pc (fun u => u 1 3 = w 1 3 ∧ u 1 4 = w 1 4) ((f_X7_readNumber lo hi w).bind fun q2 => (f_X7_readEnd q2.2).bind fun q3 => if q3.1 = 0 then some q3.2 else K q2 q3) :=
  pc_bind (pc_numB h) (fun q _ hq => pc_mono (pc_tail0 (by rw [hq.1]; exact h)) (fun u _ hu => ⟨by rw [hu.1, hq.1], by rw [hu.2, hq.2]⟩))
theorem pc_tail2 {w : Mem} {lo hi lo2 hi2 : Int32} {K : Int32 × Mem → Int32 × Mem → Int32 × Mem → Option Mem} (h : ¬ w 1 3 = 0) : Pc (fun u => u 1 3 = w 1 3 ∧ u 1 4 = w 1 4) ((f_X7_readNumber lo hi w).bind fun q1 => (f_X7_readNumber lo2 hi2 q1.2).bind fun q2 => (f_X7_readEnd q2.2).bind fun q3 => if q3.1 = 0 then some q3.2 else K q1 q2 q3) :=
  pc_bind (pc_numB h) (fun q _ hq => pc_mono (pc_tail1 (by rw [hq.1]; exact h)) (fun u _ hu => ⟨by rw [hu.1, hq.1], by rw [hu.2, hq.2]⟩))
def ClP (b : Nat) (p : Int) (u : Mem) (q : Int32 × Mem) : Prop := (q.1 = 1 ∧ GdR u q.2 p ∧ DfR b u q.2) ∨ (q.1 = 0 ∧ BdR u q.2)
theorem bdr_of {w w' u u' : Mem} (h : BdR w w') (h3 : u 1 3 = w 1 3) (h4 : u 1 4 = w 1 4) (h5 : u' 134 4 = w' 134 4) (h6 : u' 134 2 = w' 134 2) : BdR u u' := by
  obtain ⟨a, b, c⟩ := h
  exact ⟨by rw [h3, h5, a], by rw [h3]; exact b, by rw [h4, h6, c]⟩
theorem gdr_of {w w' u u' : Mem} {p : Int} (h : GdR w w' p) (h1 : u 1 1 = w 1 1) (h2 : ∀ i, u 2 i = w 2 i) (h3 : u' 134 0 = w' 134 0) (h4 : ∀ i, u' 135 i = w' 135 i) (h5 : u 1 2 = w 1 2) (h6 : u' 134 2 = w' 134 2) (h7 : NoF w → NoF u) : GdR u u' p := by
  obtain ⟨a, b, c⟩ := h
  exact ⟨atr_of a h1 h2 h3 h4 h5 h6, h7 b, by rw [h5]; exact c⟩
theorem ne_m1 {x : Int32} (h : 0 ≤ x.toInt) : ¬ x = -1 := by
  rw [i_eq_iff, tl_m1]
  omega
theorem rc_rate {b : Nat} (hb : BrO b) {w w' : Mem} {p : Int} (h : GdR w w' p) (hd : DfR b w w') : Rc (ClP b p) (f_X7_readRate b w) (f_X10_readsHead w') := by
  have hbb : b = 112 ∨ b = 119 := hb
  unfold f_X7_readRate f_X10_readsHead
  simp only [bind_eta1, bind_eta2]
  have t1 := tl_1
  have t9 := tl_9
  have t60 := tl_60
  refine rc_bind (rc_number h) (fun q1 r1 hq1 hr1 hN1 => ?_)
  have fl1 := fr_X7_readNumber _ _ _ q1 hq1
  have fr1 := fr_X10_readsNumber _ _ _ r1 hr1
  rcases hN1 with ⟨a1, b1, c1, hG1⟩ | ⟨a1, hB1⟩
  · rw [if_neg (show ¬ r1.1 = -1 by rw [← a1]; exact ne_m1 (by omega))]
    refine rc_bind (rc_number hG1) (fun q2 r2 hq2 hr2 hN2 => ?_)
    have fl2 := fr_X7_readNumber _ _ _ q2 hq2
    have fr2 := fr_X10_readsNumber _ _ _ r2 hr2
    refine rcr_pw (rcr_pw ?_)
    rcases hN2 with ⟨a2, b2, c2, hG2⟩ | ⟨a2, hB2⟩
    · rw [if_neg (show ¬ r2.1 = -1 by rw [← a2]; exact ne_m1 (by omega))]
      have hG3 : GdR q2.2 (wu (wu r2.2 134 6 r1.1) 134 7 r2.1) p := gdr_of hG2 rfl (fun _ => rfl) (by rw [wu_ne (by omega), wu_ne (by omega)]) (fun i => by rw [wu_ne (by omega), wu_ne (by omega)]) rfl (by rw [wu_ne (by omega), wu_ne (by omega)]) id
      refine rc_bind (rc_end hG3) (fun q3 r3 hq3 hr3 hE => ?_)
      have fl3 := fr_X7_readEnd _ q3 hq3
      have fr3 := fr_X10_readsSign _ _ r3 hr3
      rcases hE with ⟨e1, e2, hG4⟩ | ⟨e1, e2, hB4⟩
      · rw [if_neg (show ¬ q3.1 = 0 by rw [e1]; decide), if_neg (show ¬ r3.1 = 0 by rw [e2]; decide)]
        refine rcl_pw (rcl_pw (rc_some (Or.inl ⟨rfl, ?_, ?_⟩)))
        · exact gdr_of hG4 (by rw [wu_ne (by omega), wu_ne (by omega)]) (fun i => by rw [wu_ne (by omega), wu_ne (by omega)]) rfl (fun _ => rfl) (by rw [wu_ne (by omega), wu_ne (by omega)]) rfl (fun n => ⟨by rw [wu_ne (by omega), wu_ne (by omega)]; exact n.1, by rw [wu_ne (by omega), wu_ne (by omega)]; exact n.2⟩)
        · obtain ⟨d1, d2, d3, d4, d5⟩ := hd
          have L : ∀ k i, ¬ (k = b ∧ i = 0) → ¬ (k = b ∧ i = 1) → ¬ (k = 1 ∧ 2 ≤ i ∧ i ≤ 4) → wu (wu q3.2 b 0 q1.1) b 1 q2.1 k i = w k i := by
            intro k i h1 h2 h3
            rw [wu_ne h2, wu_ne h1, fl3 k i h3, fl2 k i h3, fl1 k i h3]
          have R : ∀ k i, ¬ (k = 134 ∧ 2 ≤ i ∧ i ≤ 7) → r3.2 k i = w' k i := by
            intro k i h1
            rw [fr3 k i (by omega), wu_ne (by omega), wu_ne (by omega), fr2 k i (by omega), fr1 k i (by omega)]
          have R6 : r3.2 134 6 = r1.1 := by rw [fr3 134 6 (by omega), wu_ne (by omega), wu_at]
          have R7 : r3.2 134 7 = r2.1 := by rw [fr3 134 7 (by omega), wu_at]
          have L0 : wu (wu q3.2 b 0 q1.1) b 1 q2.1 b 0 = q1.1 := by rw [wu_ne (by omega), wu_at]
          have L1 : wu (wu q3.2 b 0 q1.1) b 1 q2.1 b 1 = q2.1 := wu_at _ _ _ _
          have L2 := L b 2 (by omega) (by omega) (by omega)
          have L3 := L b 3 (by omega) (by omega) (by omega)
          refine ⟨⟨?_, ?_, ?_, ?_⟩, Or.inr ?_, ?_, fun i hi => ?_, fun i hi => ?_⟩
          · rw [L0, R6, a1]
          · rw [L1, R7, a2]
          · rw [L2, R 134 8 (by omega)]; exact d1.2.2.1
          · rw [L3, R 134 9 (by omega)]; exact d1.2.2.2
          · rw [L0, L1]; omega
          · rw [L2, L3]; exact d3
          · rw [L2] at hi
            rw [L (b + 1) i (by omega) (by omega) (by omega), L (b + 2) i (by omega) (by omega) (by omega), R 136 i (by omega), R 137 i (by omega)]
            exact d4 i hi
          · rw [L3] at hi
            rw [L (b + 3) i (by omega) (by omega) (by omega), L (b + 4) i (by omega) (by omega) (by omega), L (b + 5) i (by omega) (by omega) (by omega), R 138 i (by omega), R 139 i (by omega), R 140 i (by omega)]
            exact d5 i hi
      · rw [if_pos e1, if_pos e2]
        exact rc_some (Or.inr ⟨rfl, hB4⟩)
    · rw [if_pos a2]
      refine fun u q hu hq => ?_
      cases hq
      have hz := pc_tail0 hB2.2.1 u hu
      exact Or.inr ⟨rfl, bdr_of hB2 hz.1 hz.2 (by show wu (wu r2.2 134 6 r1.1) 134 7 r2.1 134 4 = _; rw [wu_ne (by omega), wu_ne (by omega)]) (by show wu (wu r2.2 134 6 r1.1) 134 7 r2.1 134 2 = _; rw [wu_ne (by omega), wu_ne (by omega)])⟩
  · rw [if_pos a1, sb]
    refine rcr_pw (rcr_pw ?_)
    rw [if_pos rfl]
    refine fun u q hu hq => ?_
    cases hq
    have hz := pc_tail1 hB1.2.1 u hu
    exact Or.inr ⟨rfl, bdr_of hB1 hz.1 hz.2 (by show wu (wu r1.2 134 6 r1.1) 134 7 (-1) 134 4 = _; rw [wu_ne (by omega), wu_ne (by omega)]) (by show wu (wu r1.2 134 6 r1.1) 134 7 (-1) 134 2 = _; rw [wu_ne (by omega), wu_ne (by omega)])⟩
