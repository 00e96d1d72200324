/-! READING THE TEXT, both sides -/
def TxR (w w' : Mem) : Prop := w 1 1 = w' 134 0 ∧ (0 ≤ (w 1 1).toInt ∧ (w 1 1).toInt ≤ 240) ∧ ∀ i : Nat, (i : Int) < (w 1 1).toInt → w 2 i = w' 135 i ∧ 0 ≤ (w 2 i).toInt
def AtR (w w' : Mem) : Prop := TxR w w' ∧ w 1 2 = w' 134 2 ∧ 0 ≤ (w 1 2).toInt ∧ (w 1 2).toInt ≤ (w 1 1).toInt
def LtR (w : Mem) (r : Int32) : Prop := (r = -1 ∧ (w 1 2).toInt = (w 1 1).toInt) ∨ (0 ≤ r.toInt ∧ r = w 2 (w 1 2).toNatClampNeg ∧ (w 1 2).toInt < (w 1 1).toInt)
theorem txr_of {w w' u u' : Mem} (h : TxR w w') (h1 : u 1 1 = w 1 1) (h2 : ∀ i, u 2 i = w 2 i) (h3 : u' 134 0 = w' 134 0) (h4 : ∀ i, u' 135 i = w' 135 i) : TxR u u' := by
  obtain ⟨a, b, c⟩ := h
  refine ⟨by rw [h1, h3, a], by rw [h1]; exact b, fun i hi => ?_⟩
  rw [h2 i, h4 i]
  rw [h1] at hi
  exact c i hi
theorem atr_of {w w' u u' : Mem} (h : AtR w w') (h1 : u 1 1 = w 1 1) (h2 : ∀ i, u 2 i = w 2 i) (h3 : u' 134 0 = w' 134 0) (h4 : ∀ i, u' 135 i = w' 135 i) (h5 : u 1 2 = w 1 2) (h6 : u' 134 2 = w' 134 2) : AtR u u' := by
  obtain ⟨a, b, c, d⟩ := h
  exact ⟨txr_of a h1 h2 h3 h4, by rw [h5, h6, b], by rw [h5]; exact c, by rw [h5, h1]; exact d⟩
theorem atr_step {w w' : Mem} (h : AtR w w') (hl : (w 1 2).toInt < (w 1 1).toInt) : AtR (wu w 1 2 (w 1 2 + 1)) (wu w' 134 2 (w' 134 2 + 1)) ∧ (wu w 1 2 (w 1 2 + 1) 1 2).toInt = (w 1 2).toInt + 1 := by
  obtain ⟨a, b, c, d⟩ := h
  obtain ⟨a1, a2, a3⟩ := a
  have e : (w 1 2 + 1).toInt = (w 1 2).toInt + 1 := i_addk tl_1 (by omega) (by omega)
  refine ⟨⟨txr_of ⟨a1, a2, a3⟩ (wu_ne (by omega)) (fun i => wu_ne (by omega)) (wu_ne (by omega)) (fun i => wu_ne (by omega)), ?_, ?_, ?_⟩, ?_⟩
  · rw [wu_at, wu_at, b]
  · rw [wu_at]; omega
  · rw [wu_at, wu_ne (by omega)]; omega
  · rw [wu_at, e]
theorem pc_fig {a : Int32} : Pc (fun r => r = if 48 ≤ a.toInt ∧ a.toInt ≤ 57 then 1 else 0) (f_X7_isFigure a) := by
  unfold f_X7_isFigure
  have q1 := tl_48
  have q2 := tl_57
  refine pc_ite (fun h => ?_) (fun h => pc_ite (fun h2 => ?_) (fun h2 => ?_))
  · rw [Int32.lt_iff_toInt_lt] at h
    refine pc_some ?_
    rw [if_neg (by omega)]
  · rw [Int32.lt_iff_toInt_lt] at h2
    refine pc_some ?_
    rw [if_neg (by omega)]
  · rw [Int32.lt_iff_toInt_lt] at h h2
    refine pc_some ?_
    rw [if_pos (by omega)]
theorem pc_letterL {w w' : Mem} (h : AtR w w') : Pc (LtR w) (f_X7_nextLetter w) := by
  obtain ⟨⟨h1, h2, h3⟩, h4, h5, h6⟩ := h
  unfold f_X7_nextLetter
  have q0 := tl_0
  have q240 := tl_240
  refine pc_ite (fun c => ?_) (fun c => pc_ite (fun c2 => pc_ite (fun c3 => pc_rd (fun _ => pc_some ?_)) (fun c3 => ?_)) (fun c2 => pc_some ?_))
  · rw [Int32.lt_iff_toInt_lt] at c
    omega
  · rw [Int32.lt_iff_toInt_lt] at c2
    refine Or.inr ⟨?_, rfl, c2⟩
    have hi : (((w 1 2).toNatClampNeg : Nat) : Int) < (w 1 1).toInt := by rw [i_clq h5]; exact c2
    exact (h3 _ hi).2
  · rw [Int32.lt_iff_toInt_lt] at c2 c3
    omega
  · rw [Int32.lt_iff_toInt_lt] at c2
    exact Or.inl ⟨rfl, by omega⟩
theorem pc_letterR {w w' : Mem} (h : AtR w w') : Pc (LtR w) (f_X10_letterAt (w' 134 2) w') := by
  obtain ⟨⟨h1, h2, h3⟩, h4, h5, h6⟩ := h
  unfold f_X10_letterAt
  rw [← h4, ← h1]
  refine pc_ite (fun c2 => pc_rd (fun _ => pc_some ?_)) (fun c2 => pc_some ?_)
  · rw [Int32.lt_iff_toInt_lt] at c2
    have hi : (((w 1 2).toNatClampNeg : Nat) : Int) < (w 1 1).toInt := by rw [i_clq h5]; exact c2
    have h9 := h3 _ hi
    rw [← h9.1]
    exact Or.inr ⟨h9.2, rfl, c2⟩
  · rw [Int32.lt_iff_toInt_lt] at c2
    exact Or.inl ⟨rfl, by omega⟩
theorem ltr_eq {w : Mem} {r r2 : Int32} (h : LtR w r) (h2 : LtR w r2) : r = r2 := by
  rcases h with ⟨a, b⟩ | ⟨a, b, c⟩ <;> rcases h2 with ⟨d, e⟩ | ⟨d, e, f⟩
  · rw [a, d]
  · omega
  · omega
  · rw [b, e]
theorem rc_letter {w w' : Mem} (h : AtR w w') : Rc (fun r r2 => r = r2 ∧ LtR w r) (f_X7_nextLetter w) (f_X10_letterAt (w' 134 2) w') := fun r r2 h1 h2 => ⟨ltr_eq (pc_letterL h r h1) (pc_letterR h r2 h2), pc_letterL h r h1⟩
theorem rc_skip {w w' : Mem} (h : AtR w w') : Rc (fun u q => AtR u q.2 ∧ (w 1 2).toInt ≤ (u 1 2).toInt ∧ LtR u q.1 ∧ ¬ q.1 = 32) (f_X7_skipBlanks w) (f_X10_nextLetter w') := by
  unfold f_X7_skipBlanks f_X10_nextLetter
  refine rc_bind (Q := fun u v => AtR u v ∧ (w 1 2).toInt ≤ (u 1 2).toInt ∧ ∀ r, LtR u r → ¬ r = 32) (rc_lp (fun s s2 => AtR s s2 ∧ (w 1 2).toInt ≤ (s 1 2).toInt) ?_ _ _ _ _ ⟨h, Int.le_refl _⟩) (fun u v _ _ hQ => ?_)
  · intro s s2 hX
    obtain ⟨hA, hm⟩ := hX
    refine rcl_ite (fun c => ?_) (fun c => ?_)
    · rw [Int32.lt_iff_toInt_lt] at c
      refine rc_bind (rc_letter hA) (fun r r2 _ _ hr => ?_)
      obtain ⟨rfl, hr⟩ := hr
      by_cases e : r = 32
      · rw [if_pos e, if_pos e]
        refine rcl_pw (rcr_pw (rc_some ?_))
        obtain ⟨hs1, hs2⟩ := atr_step hA c
        exact ⟨hs1, by omega⟩
      · rw [if_neg e, if_neg e]
        exact rc_some ⟨hA, hm, fun r2 h2 => by rw [ltr_eq h2 hr]; exact e⟩
    · rw [Int32.lt_iff_toInt_lt] at c
      refine rcr_bind (pc_letterR hA) (fun r2 _ hr => ?_)
      have e : ¬ r2 = 32 := by
        rcases hr with ⟨a, b⟩ | ⟨a, b, d⟩
        · rw [a]; decide
        · omega
      rw [if_neg e]
      exact rc_some ⟨hA, hm, fun r3 h3 => by rw [ltr_eq h3 hr]; exact e⟩
  · obtain ⟨hA, hm, hn⟩ := hQ
    refine rcr_bind (pc_letterR hA) (fun r2 _ hr => rc_some ?_)
    exact ⟨hA, hm, hr, hn r2 hr⟩
