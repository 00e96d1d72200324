/-! numbers -/
def NoF (w : Mem) : Prop := w 1 3 = 0 ∧ w 1 4 = -1
def GdR (w w' : Mem) (p : Int) : Prop := AtR w w' ∧ NoF w ∧ p ≤ (w 1 2).toInt
def BdR (w w' : Mem) : Prop := w 1 3 = w' 134 4 ∧ ¬ w 1 3 = 0 ∧ w 1 4 = w' 134 2
theorem pc_note0 {a b : Int32} {w : Mem} (h : w 1 3 = 0) : Pc (fun q => q 1 3 = a ∧ q 1 4 = b) (f_X7_note a b w) := by
  unfold f_X7_note
  rw [if_pos h]
  refine pc_pw (pc_pw (pc_some ⟨?_, ?_⟩))
  · rw [wu_ne (by omega), wu_at]
  · rw [wu_at]
theorem pc_note1 {a b : Int32} {w : Mem} (h : ¬ w 1 3 = 0) : Pc (fun q => q = w) (f_X7_note a b w) := by
  unfold f_X7_note
  rw [if_neg h]
  exact pc_some rfl
theorem pc_fails {a b : Int32} {w : Mem} : Pc (fun q => q.1 = -1 ∧ q.2 134 4 = a ∧ q.2 134 2 = b) (f_X10_fails a b w) := by
  unfold f_X10_fails
  refine pc_pw (pc_pw (pc_some ⟨rfl, ?_, ?_⟩))
  · show wu (wu w 134 4 a) 134 2 b 134 4 = a
    rw [wu_ne (by omega), wu_at]
  · show wu (wu w 134 4 a) 134 2 b 134 2 = b
    rw [wu_at]
theorem rc_bad {w w' : Mem} {a b : Int32} (h0 : w 1 3 = 0) (ha : ¬ a = 0) : Rc (fun u q => BdR u q.2 ∧ q.1 = -1) (f_X7_note a b w) (f_X10_fails a b w') := by
  intro u q hu hq
  obtain ⟨u1, u2⟩ := pc_note0 h0 u hu
  obtain ⟨q1, q2, q3⟩ := pc_fails q hq
  exact ⟨⟨by rw [u1, q2], by rw [u1]; exact ha, by rw [u2, q3]⟩, q1⟩
def NmX (u u' : Mem) (s s2 : Int32 × Mem) : Prop := AtR s.2 s2.2 ∧ NoF s.2 ∧ (u 1 2).toInt ≤ (s.2 1 2).toInt ∧ s2.2 134 3 = u 1 2 ∧ (s.2 1 1 = u 1 1 ∧ ∀ i, s.2 2 i = u 2 i) ∧ (((s.2 1 2).toInt = (u 1 2).toInt ∧ s.1 = s2.1 ∧ s.1.toInt = 0) ∨ ((s.2 1 2).toInt = (u 1 2).toInt + 1 ∧ s.1 = s2.1 ∧ 0 ≤ s.1.toInt ∧ s.1.toInt ≤ 9) ∨ ((s.2 1 2).toInt = (u 1 2).toInt + 2 ∧ s.1 = s2.1 ∧ 0 ≤ s.1.toInt ∧ s.1.toInt ≤ 99) ∨ ((s.2 1 2).toInt = (u 1 2).toInt + 3 ∧ s.1 = s2.1 ∧ 0 ≤ s.1.toInt ∧ s.1.toInt ≤ 999) ∨ (u 1 2).toInt + 4 ≤ (s.2 1 2).toInt)
theorem nm_val {v r : Int32} (h0 : 0 ≤ v.toInt) (h1 : v.toInt ≤ 99) (h2 : 48 ≤ r.toInt) (h3 : r.toInt ≤ 57) : (v * 10 + (r - 48)).toInt = 10 * v.toInt + r.toInt - 48 ∧ v * 10 + (r - 48) = 10 * v + r - 48 := by
  have e1 : (v * 10).toInt = 10 * v.toInt := i_mulkr tl_10 (by omega) (by omega)
  have e2 : (r - 48).toInt = r.toInt - (48 : Int32).toInt := i_sub (by rw [tl_48]; omega) (by rw [tl_48]; omega)
  rw [tl_48] at e2
  have e3 : (v * 10 + (r - 48)).toInt = (v * 10).toInt + (r - 48).toInt := i_add (by omega) (by omega)
  have e4 : (10 * v).toInt = 10 * v.toInt := i_mulkl tl_10 (by omega) (by omega)
  have e5 : (10 * v + r).toInt = (10 * v).toInt + r.toInt := i_add (by omega) (by omega)
  have e6 : (10 * v + r - 48).toInt = (10 * v + r).toInt - (48 : Int32).toInt := i_sub (by rw [tl_48]; omega) (by rw [tl_48]; omega)
  rw [tl_48] at e6
  refine ⟨by omega, ?_⟩
  rw [i_eq_iff]
  omega
theorem nm_step {s s2 : Mem} (hA : AtR s s2) (hf : NoF s) (c : (s 1 2).toInt < (s 1 1).toInt) : AtR (wu s 1 2 (s 1 2 + 1)) (wu s2 134 2 (s2 134 2 + 1)) ∧ (wu s 1 2 (s 1 2 + 1) 1 2).toInt = (s 1 2).toInt + 1 ∧ NoF (wu s 1 2 (s 1 2 + 1)) ∧ wu s2 134 2 (s2 134 2 + 1) 134 3 = s2 134 3 ∧ wu s 1 2 (s 1 2 + 1) 1 1 = s 1 1 ∧ ∀ i, wu s 1 2 (s 1 2 + 1) 2 i = s 2 i := by
  obtain ⟨a, b⟩ := atr_step hA c
  exact ⟨a, b, ⟨by rw [wu_ne (by omega), hf.1], by rw [wu_ne (by omega), hf.2]⟩, wu_ne (by omega), wu_ne (by omega), fun i => wu_ne (by omega)⟩
theorem pc_skipF {w : Mem} : Pc (fun u => u 1 1 = w 1 1 ∧ u 1 3 = w 1 3 ∧ u 1 4 = w 1 4 ∧ ∀ i, u 2 i = w 2 i) (f_X7_skipBlanks w) := by
  intro u hu
  have f := fr_X7_skipBlanks w u hu
  exact ⟨f 1 1 (by omega), f 1 3 (by omega), f 1 4 (by omega), fun i => f 2 i (by omega)⟩
def NmP (lo hi : Int32) (p : Int) (q q2 : Int32 × Mem) : Prop := (q.1 = q2.1 ∧ lo.toInt ≤ q.1.toInt ∧ q.1.toInt ≤ hi.toInt ∧ GdR q.2 q2.2 p) ∨ (q2.1 = -1 ∧ BdR q.2 q2.2)
theorem nm_exit {u : Mem} {s : Mem} {r q : Int32} (hl : LtR u q) (hfig : 48 ≤ q.toInt ∧ q.toInt ≤ 57) (hm : (u 1 2).toInt ≤ (s 1 2).toInt) (h1 : s 1 1 = u 1 1) (h2 : ∀ i, s 2 i = u 2 i) (hr : LtR s r) (hnf : ¬ (48 ≤ r.toInt ∧ r.toInt ≤ 57)) : (u 1 2).toInt < (s 1 2).toInt := by
  by_cases e : (s 1 2).toInt = (u 1 2).toInt
  · exfalso
    have e2 : s 1 2 = u 1 2 := by rw [i_eq_iff]; exact e
    rcases hl with ⟨a2, b2⟩ | ⟨a2, b2, c2⟩
    · rw [a2, tl_m1] at hfig
      omega
    · rcases hr with ⟨a, b⟩ | ⟨a, b, c⟩
      · rw [h1] at b
        omega
      · rw [e2, h2] at b
        rw [b, ← b2] at hnf
        exact hnf hfig
  · omega
theorem nm_body {u u' : Mem} {q : Int32} (hl : LtR u q) (hfig : 48 ≤ q.toInt ∧ q.toInt ≤ 57) (h0u : 0 ≤ (u 1 2).toInt) (s s2 : Int32 × Mem) (hX : NmX u u' s s2) : Rc (lqR (NmX u u') (fun v v2 => NmX u u' v v2 ∧ (u 1 2).toInt < (v.2 1 2).toInt)) (if (s.2 1 2) < (s.2 1 1) then (f_X7_nextLetter s.2).bind fun r2 => (f_X7_isFigure r2).bind fun r3 => (if r3 = 0 then some (Sum.inr (s.1, s.2)) else ((if ((s.2 1 2) - (u 1 2)) < (3 : Int32) then (f_X7_nextLetter s.2).bind fun r6 => lt (((s.1 * (10 : Int32)) + (r6 - (48 : Int32)))) fun t7 => some (t7) else some (s.1)) : Option Int32).bind fun v4 => pw 1 2 ((s.2 1 2) + (1 : Int32)) s.2 fun w5 => some (Sum.inl (v4, w5))) else some (Sum.inr (s.1, s.2)) : Option (Sum (Int32 × Mem) (Int32 × Mem))) ((f_X10_letterAt (s2.2 134 2) s2.2).bind fun r4 => (f_X10_in r4 (48 : Int32) (57 : Int32)).bind fun r5 => (if r5 = 0 then some (Sum.inr (s2.1, s2.2)) else ((if (999 : Int32) < s2.1 then some (s2.1) else (f_X10_letterAt (s2.2 134 2) s2.2).bind fun r8 => some (((((10 : Int32) * s2.1) + r8) - (48 : Int32)))) : Option Int32).bind fun v6 => pw 134 2 ((s2.2 134 2) + (1 : Int32)) s2.2 fun w7 => some (Sum.inl (v6, w7))) : Option (Sum (Int32 × Mem) (Int32 × Mem))) := by
  have hX0 := hX
  obtain ⟨xA, xf, xm, x3, ⟨x1, xt⟩, xv⟩ := hX
  have t3 := tl_3
  have t999 := tl_999
  refine rcl_ite (fun c => ?_) (fun c => ?_)
  · rw [Int32.lt_iff_toInt_lt] at c
    refine rc_bind (rc_letter xA) (fun r r2 _ _ hr => ?_)
    obtain ⟨rfl, hr⟩ := hr
    refine rcl_bind pc_fig (fun r3 _ h3 => ?_)
    refine rcr_bind pc_in (fun r5 _ h5 => ?_)
    rw [tl_48, tl_57] at h5
    by_cases hd : 48 ≤ r.toInt ∧ r.toInt ≤ 57
    · rw [if_pos hd] at h3 h5
      rw [if_neg (show ¬ r3 = 0 by rw [h3]; decide), if_neg (show ¬ r5 = 0 by rw [h5]; decide)]
      obtain ⟨y1, y2, y3, y4, y5, y6⟩ := nm_step xA xf c
      have es : (s.2 1 2 - u 1 2).toInt = (s.2 1 2).toInt - (u 1 2).toInt := i_sub (by have := xA.1.2.1; have := xA.2.2; have := Int32.toInt_le (u 1 2); omega) (by have := xA.1.2.1; have := xA.2.2; omega)
      refine rcl_bind (Q := fun v => (s.2 1 2).toInt < (u 1 2).toInt + 3 → v = s.1 * 10 + (r - 48)) ?_ (fun v4 _ h4 => ?_)
      · refine pc_ite (fun c3 => ?_) (fun c3 => pc_some (fun c4 => ?_))
        · refine pc_bind (pc_letterL xA) (fun r6 _ h6 => pc_lt (pc_some (fun _ => ?_)))
          rw [ltr_eq h6 hr]
        · rw [Int32.lt_iff_toInt_lt] at c3
          omega
      refine rcr_bind (Q := fun v => s2.1.toInt ≤ 999 → v = 10 * s2.1 + r - 48) ?_ (fun v6 _ h6 => ?_)
      · refine pc_ite (fun c3 => pc_some (fun c4 => ?_)) (fun c3 => ?_)
        · rw [Int32.lt_iff_toInt_lt] at c3
          omega
        · refine pc_bind (pc_letterR xA) (fun r6 _ h6 => pc_some (fun _ => ?_))
          rw [ltr_eq h6 hr]
      refine rcl_pw (rcr_pw (rc_some ?_))
      refine (⟨y1, y3, by show (u 1 2).toInt ≤ (wu s.2 1 2 (s.2 1 2 + 1) 1 2).toInt; omega, by show wu s2.2 134 2 (s2.2 134 2 + 1) 134 3 = u 1 2; rw [y4, x3], ⟨by show wu s.2 1 2 (s.2 1 2 + 1) 1 1 = u 1 1; rw [y5, x1], fun i => by show wu s.2 1 2 (s.2 1 2 + 1) 2 i = u 2 i; rw [y6, xt]⟩, ?_⟩ : NmX u u' (v4, wu s.2 1 2 (s.2 1 2 + 1)) (v6, wu s2.2 134 2 (s2.2 134 2 + 1)))
      show ((wu s.2 1 2 (s.2 1 2 + 1) 1 2).toInt = (u 1 2).toInt ∧ v4 = v6 ∧ v4.toInt = 0) ∨ ((wu s.2 1 2 (s.2 1 2 + 1) 1 2).toInt = (u 1 2).toInt + 1 ∧ v4 = v6 ∧ 0 ≤ v4.toInt ∧ v4.toInt ≤ 9) ∨ ((wu s.2 1 2 (s.2 1 2 + 1) 1 2).toInt = (u 1 2).toInt + 2 ∧ v4 = v6 ∧ 0 ≤ v4.toInt ∧ v4.toInt ≤ 99) ∨ ((wu s.2 1 2 (s.2 1 2 + 1) 1 2).toInt = (u 1 2).toInt + 3 ∧ v4 = v6 ∧ 0 ≤ v4.toInt ∧ v4.toInt ≤ 999) ∨ (u 1 2).toInt + 4 ≤ (wu s.2 1 2 (s.2 1 2 + 1) 1 2).toInt
      rcases xv with ⟨a, b, d⟩ | ⟨a, b, d, f⟩ | ⟨a, b, d, f⟩ | ⟨a, b, d, f⟩ | a
      · obtain ⟨n1, n2⟩ := nm_val (v := s.1) (r := r) (by omega) (by omega) hd.1 hd.2
        have g4 := h4 (by omega)
        have g6 := h6 (by rw [← b]; omega)
        refine Or.inr (Or.inl ⟨by omega, ?_, ?_, ?_⟩)
        · rw [g4, g6, ← b, n2]
        · rw [g4]; omega
        · rw [g4]; omega
      · obtain ⟨n1, n2⟩ := nm_val (v := s.1) (r := r) (by omega) (by omega) hd.1 hd.2
        have g4 := h4 (by omega)
        have g6 := h6 (by rw [← b]; omega)
        refine Or.inr (Or.inr (Or.inl ⟨by omega, ?_, ?_, ?_⟩))
        · rw [g4, g6, ← b, n2]
        · rw [g4]; omega
        · rw [g4]; omega
      · obtain ⟨n1, n2⟩ := nm_val (v := s.1) (r := r) (by omega) (by omega) hd.1 hd.2
        have g4 := h4 (by omega)
        have g6 := h6 (by rw [← b]; omega)
        refine Or.inr (Or.inr (Or.inr (Or.inl ⟨by omega, ?_, ?_, ?_⟩)))
        · rw [g4, g6, ← b, n2]
        · rw [g4]; omega
        · rw [g4]; omega
      · exact Or.inr (Or.inr (Or.inr (Or.inr (by omega))))
      · exact Or.inr (Or.inr (Or.inr (Or.inr (by omega))))
    · rw [if_neg hd] at h3 h5
      rw [if_pos h3, if_pos h5]
      exact rc_some ⟨hX0, nm_exit hl hfig xm x1 xt hr hd⟩
  · rw [Int32.lt_iff_toInt_lt] at c
    refine rcr_bind (pc_letterR xA) (fun r _ hr => ?_)
    refine rcr_bind pc_in (fun r5 _ h5 => ?_)
    rw [tl_48, tl_57] at h5
    have hd : ¬ (48 ≤ r.toInt ∧ r.toInt ≤ 57) := by
      rcases hr with ⟨a, b⟩ | ⟨a, b, d⟩
      · rw [a, tl_m1]; omega
      · omega
    rw [if_neg hd] at h5
    rw [if_pos h5]
    exact rc_some ⟨hX0, nm_exit hl hfig xm x1 xt hr hd⟩
theorem bind_eta1 {α : Type} (o : Option α) : (o.bind fun q => some q) = o := by cases o <;> rfl
theorem bind_eta2 (o : Option (Int32 × Mem)) : (o.bind fun q => some (q.1, q.2)) = o := by cases o <;> rfl
theorem rc_numbad {w w' : Mem} {a b x lo hi : Int32} {p : Int} (h0 : w 1 3 = 0) (ha : ¬ a = 0) : Rc (NmP lo hi p) ((f_X7_note a b w).bind fun v => some (x, v)) (f_X10_fails a b w') := by
  refine rcl_bind (pc_note0 h0) (fun u _ hu => ?_)
  intro v v2 hv hv2
  cases hv
  have hq := pc_fails v2 hv2
  exact Or.inr ⟨hq.1, by show u 1 3 = v2.2 134 4; rw [hu.1, hq.2.1], by show ¬ u 1 3 = 0; rw [hu.1]; exact ha, by show u 1 4 = v2.2 134 2; rw [hu.2, hq.2.2]⟩
theorem rc_number {w w' : Mem} {lo hi : Int32} {p : Int} (h : GdR w w' p) : Rc (NmP lo hi p) (f_X7_readNumber lo hi w) (f_X10_readsNumber lo hi w') := by
  obtain ⟨hA, hf, hp⟩ := h
  unfold f_X7_readNumber f_X10_readsNumber
  simp only [bind_eta1, bind_eta2]
  refine rc_bind (rc_skip hA) (fun u q1 hu hq1 hQ => ?_)
  obtain ⟨hB, hm, hl, _⟩ := hQ
  have hfu : NoF u := ⟨by rw [(pc_skipF u hu).2.1, hf.1], by rw [(pc_skipF u hu).2.2.1, hf.2]⟩
  have t3 := tl_3
  refine rcr_bind pc_in (fun r2 _ hr2 => ?_)
  rw [tl_48, tl_57] at hr2
  by_cases hfig : 48 ≤ q1.1.toInt ∧ q1.1.toInt ≤ 57
  · rw [if_pos hfig] at hr2
    rw [if_neg (show ¬ r2 = 0 by rw [hr2]; decide)]
    refine rcr_pw ?_
    refine rc_bind (Q := fun v v2 => NmX u q1.2 v v2 ∧ (u 1 2).toInt < (v.2 1 2).toInt) (rc_lp (NmX u q1.2) (nm_body hl hfig hB.2.2.1) _ _ _ _ ?_) (fun v v2 _ _ hv => ?_)
    · refine ⟨?_, hfu, Int.le_refl _, ?_, ⟨rfl, fun i => rfl⟩, Or.inl ⟨rfl, rfl, tl_0⟩⟩
      · exact (atr_of hB rfl (fun i => rfl) (wu_ne (by omega)) (fun i => wu_ne (by omega)) rfl (wu_ne (by omega)) : AtR u (wu q1.2 134 3 (q1.2 134 2)))
      · show wu q1.2 134 3 (q1.2 134 2) 134 3 = u 1 2
        rw [wu_at, hB.2.1]
    · obtain ⟨hX, hlt⟩ := hv
      obtain ⟨xA, xf, xm, x3, ⟨x1, xt⟩, xv⟩ := hX
      have es : (v.2 1 2 - u 1 2).toInt = (v.2 1 2).toInt - (u 1 2).toInt := i_sub (by have := xA.1.2.1; have := xA.2.2; have := hB.2.2; omega) (by have := xA.1.2.1; have := xA.2.2; have := hB.2.2; omega)
      rw [if_neg (show ¬ v.2 1 2 = u 1 2 by rw [i_eq_iff]; omega)]
      have ep : v2.2 134 2 - v2.2 134 3 = v.2 1 2 - u 1 2 := by rw [x3, ← xA.2.1]
      rw [ep, x3]
      by_cases c3 : (3 : Int32) < v.2 1 2 - u 1 2
      · rw [if_pos c3, if_pos c3]
        exact rc_numbad xf.1 (by decide)
      · rw [if_neg c3, if_neg c3]
        rw [Int32.lt_iff_toInt_lt, es, t3] at c3
        have ev : v.1 = v2.1 := by
          rcases xv with ⟨a, b, d⟩ | ⟨a, b, d, f⟩ | ⟨a, b, d, f⟩ | ⟨a, b, d, f⟩ | a
          · exact b
          · exact b
          · exact b
          · exact b
          · omega
        refine rcr_bind pc_in (fun r _ hr => ?_)
        rw [← ev] at hr
        by_cases c4 : v.1 < lo
        · rw [if_pos c4]
          rw [Int32.lt_iff_toInt_lt] at c4
          rw [if_pos (in_0 hr (by omega))]
          exact rc_numbad xf.1 (by decide)
        · rw [if_neg c4]
          rw [Int32.lt_iff_toInt_lt] at c4
          by_cases c5 : hi < v.1
          · rw [if_pos c5]
            rw [Int32.lt_iff_toInt_lt] at c5
            rw [if_pos (in_0 hr (by omega))]
            exact rc_numbad xf.1 (by decide)
          · rw [if_neg c5]
            rw [Int32.lt_iff_toInt_lt] at c5
            rw [if_neg (in_1 hr (by omega))]
            exact rc_some (Or.inl ⟨ev, by show lo.toInt ≤ v.1.toInt; omega, by show v.1.toInt ≤ hi.toInt; omega, xA, xf, by show p ≤ (v.2 1 2).toInt; omega⟩)
  · rw [if_neg hfig] at hr2
    rw [if_pos hr2]
    refine rcl_bind (Q := fun v => v.2 = u) (pc_lp (fun s => s.2 = u) ?_ _ _ rfl) (fun v _ hv => ?_)
    · intro s hs
      refine pc_ite (fun c => ?_) (fun c => pc_some hs)
      rw [hs]
      refine pc_bind (pc_letterL hB) (fun r _ hr => ?_)
      refine pc_bind pc_fig (fun r3 _ h3 => ?_)
      rw [ltr_eq hr hl, if_neg hfig] at h3
      rw [if_pos h3]
      exact pc_some rfl
    · rw [if_pos (show v.2 1 2 = u 1 2 by rw [hv]), ← hB.2.1]
      exact rc_numbad (by rw [hv]; exact hfu.1) (by decide)
theorem rc_end {w w' : Mem} {p : Int} (h : GdR w w' p) : Rc (fun q q2 => (q.1 = 1 ∧ q2.1 = 1 ∧ GdR q.2 q2.2 p) ∨ (q.1 = 0 ∧ q2.1 = 0 ∧ BdR q.2 q2.2)) (f_X7_readEnd w) (f_X10_readsSign 59 w') := by
  obtain ⟨hA, hf, hp⟩ := h
  unfold f_X7_readEnd f_X10_readsSign
  simp only [bind_eta1, bind_eta2]
  refine rc_bind (rc_skip hA) (fun u q1 hu hq1 hQ => ?_)
  obtain ⟨hB, hm, hl, _⟩ := hQ
  have hfu : NoF u := ⟨by rw [(pc_skipF u hu).2.1, hf.1], by rw [(pc_skipF u hu).2.2.1, hf.2]⟩
  refine rcl_bind (pc_letterL hB) (fun r _ hr => ?_)
  have er : r = q1.1 := ltr_eq hr hl
  by_cases e : q1.1 = 59
  · rw [if_pos (show r = 59 by rw [er]; exact e), if_pos e]
    have hlt : (u 1 2).toInt < (u 1 1).toInt := by
      rcases hl with ⟨a, b⟩ | ⟨a, b, c⟩
      · rw [a] at e; exact absurd e (by decide)
      · exact c
    obtain ⟨y1, y2⟩ := atr_step hB hlt
    refine rcl_bind (Q := fun v => v = u) (pc_some rfl) (fun v _ hv => ?_)
    rw [hv]
    refine rcl_pw (rcr_pw ?_)
    have h3 : NoF (wu u 1 2 (u 1 2 + 1)) := ⟨by rw [wu_ne (by omega)]; exact hfu.1, by rw [wu_ne (by omega)]; exact hfu.2⟩
    rw [if_pos h3.1]
    exact rc_some (Or.inl ⟨rfl, rfl, y1, h3, by show p ≤ (wu u 1 2 (u 1 2 + 1) 1 2).toInt; omega⟩)
  · rw [if_neg (show ¬ r = 59 by rw [er]; exact e), if_neg e]
    refine rcl_bind (pc_note0 hfu.1) (fun v _ hv => rcl_pw ?_)
    rw [if_neg (show ¬ wu v 1 2 (v 1 2 + 1) 1 3 = 0 by rw [wu_ne (by omega), hv.1]; decide)]
    refine rcr_bind pc_fails (fun q _ hq => rc_some (Or.inr ⟨rfl, rfl, ?_, ?_, ?_⟩))
    · show wu v 1 2 (v 1 2 + 1) 1 3 = q.2 134 4
      rw [wu_ne (by omega), hv.1, hq.2.1]
    · show ¬ wu v 1 2 (v 1 2 + 1) 1 3 = 0
      rw [wu_ne (by omega), hv.1]; decide
    · show wu v 1 2 (v 1 2 + 1) 1 4 = q.2 134 2
      rw [wu_ne (by omega), hv.2, hq.2.2, hB.2.1]
theorem pc_any {α : Type} (o : Option α) : Pc (fun _ => True) o := fun _ _ => trivial
theorem pc_numB {w : Mem} {lo hi : Int32} (h : ¬ w 1 3 = 0) : Pc (fun q => q.2 1 3 = w 1 3 ∧ q.2 1 4 = w 1 4) (f_X7_readNumber lo hi w) := by
  unfold f_X7_readNumber
  simp only [bind_eta1, bind_eta2]
  refine pc_bind pc_skipF (fun u _ hu => ?_)
  refine pc_bind (Q := fun v => v.2 1 3 = w 1 3 ∧ v.2 1 4 = w 1 4) (pc_lp (fun s => s.2 1 3 = w 1 3 ∧ s.2 1 4 = w 1 4) ?_ _ _ ⟨hu.2.1, hu.2.2.1⟩) (fun v _ hv => ?_)
  · intro s hs
    refine pc_ite (fun c => ?_) (fun c => pc_some hs)
    refine pc_bind (pc_any _) (fun r _ _ => pc_bind (pc_any _) (fun r3 _ _ => pc_ite (fun c2 => pc_some hs) (fun c2 => pc_bind (pc_any _) (fun v4 _ _ => pc_pw (pc_some ?_)))))
    exact ⟨by show wu s.2 1 2 (s.2 1 2 + 1) 1 3 = w 1 3; rw [wu_ne (by omega)]; exact hs.1, by show wu s.2 1 2 (s.2 1 2 + 1) 1 4 = w 1 4; rw [wu_ne (by omega)]; exact hs.2⟩
  · have hn : ¬ v.2 1 3 = 0 := by rw [hv.1]; exact h
    refine pc_bind (Q := fun q => q = v.2) ?_ (fun q _ hq => pc_some ?_)
    · refine pc_ite (fun _ => pc_note1 hn) (fun _ => pc_ite (fun _ => pc_note1 hn) (fun _ => pc_ite (fun _ => pc_note1 hn) (fun _ => pc_ite (fun _ => pc_note1 hn) (fun _ => pc_some rfl))))
    · show q 1 3 = _ ∧ q 1 4 = _
      rw [hq]
      exact hv
theorem pc_endB {w : Mem} (h : ¬ w 1 3 = 0) : Pc (fun q => q.1 = 0 ∧ q.2 1 3 = w 1 3 ∧ q.2 1 4 = w 1 4) (f_X7_readEnd w) := by
  unfold f_X7_readEnd
  simp only [bind_eta1, bind_eta2]
  refine pc_bind pc_skipF (fun u _ hu => ?_)
  have hn : ¬ u 1 3 = 0 := by rw [hu.2.1]; exact h
  refine pc_bind (pc_any _) (fun r _ _ => ?_)
  refine pc_bind (Q := fun v => v = u) (pc_ite (fun _ => pc_some rfl) (fun _ => pc_note1 hn)) (fun v _ hv => ?_)
  rw [hv]
  refine pc_pw ?_
  rw [if_neg (show ¬ wu u 1 2 (u 1 2 + 1) 1 3 = 0 by rw [wu_ne (by omega)]; exact hn)]
  exact pc_some ⟨rfl, by show wu u 1 2 (u 1 2 + 1) 1 3 = w 1 3; rw [wu_ne (by omega)]; exact hu.2.1, by show wu u 1 2 (u 1 2 + 1) 1 4 = w 1 4; rw [wu_ne (by omega)]; exact hu.2.2.1⟩
