/-! a clause -/
theorem rc_zr {α : Type} {P : α → Int32 × Mem → Prop} {o : Option α} {F : Option (Int32 × Mem)} (h : Rc P o F) : Rc P o (F.bind fun q => zr q.1 (some (q.1, q.2))) := by
  intro v v2 hv hv2
  cases e : F with
  | none => rw [e] at hv2; cases hv2
  | some q =>
    rw [e, sb] at hv2
    unfold zr at hv2
    by_cases c : q.1 = 0 ∨ q.1 = 1
    · rw [if_pos c] at hv2
      cases hv2
      exact h v q hv e
    · rw [if_neg c] at hv2
      cases hv2
theorem pc_nextId {w w' : Mem} {r0 : Int32} (h : AtR w w') (hl : LtR w r0) (hn : ¬ r0 = 32) : Pc (fun q => q = (r0, w')) (f_X10_nextLetter w') := by
  unfold f_X10_nextLetter
  refine pc_bind (Q := fun v => v = w') (pc_lp (fun s => s = w') ?_ _ _ rfl) (fun v _ hv => ?_)
  · intro s hs
    rw [hs]
    refine pc_bind (pc_letterR h) (fun r _ hr => ?_)
    rw [if_neg (show ¬ r = 32 by rw [ltr_eq hr hl]; exact hn)]
    exact pc_some rfl
  · rw [hv]
    refine pc_bind (pc_letterR h) (fun r _ hr => pc_some ?_)
    rw [ltr_eq hr hl]
theorem pc_isThere {b : Nat} {w : Mem} : Pc (fun x => x = if 0 < (w b 0).toInt then 1 else 0) (f_X1_isThere b w) := by
  unfold f_X1_isThere
  refine pc_ite (fun c => ?_) (fun c => ?_)
  · rw [Int32.lt_iff_toInt_lt, tl_0] at c
    exact pc_some (by rw [if_pos c])
  · rw [Int32.lt_iff_toInt_lt, tl_0] at c
    exact pc_some (by rw [if_neg c])
section FOW
variable {b : Nat} {r : Int32} {w : Mem}
theorem fow_k0 (h : r = 107) (ht : ¬ 0 < (w b 0).toInt) : Pc (fun x => x = 0) (f_X7_faultOfWord b r w) := by
  unfold f_X7_faultOfWord
  rw [if_pos h]
  refine pc_bind pc_isThere (fun x _ hx => ?_)
  rw [if_neg ht] at hx
  rw [if_pos hx]
  exact pc_some rfl
theorem fow_k1 (h : r = 107) (ht : 0 < (w b 0).toInt) : Pc (fun x => x = 3) (f_X7_faultOfWord b r w) := by
  unfold f_X7_faultOfWord
  rw [if_pos h]
  refine pc_bind pc_isThere (fun x _ hx => ?_)
  rw [if_pos ht] at hx
  rw [if_neg (show ¬ x = 0 by rw [hx]; decide)]
  exact pc_some rfl
theorem fow_n (h : ¬ r = 107) (ht : ¬ 0 < (w b 0).toInt) : Pc (fun x => x = 1) (f_X7_faultOfWord b r w) := by
  unfold f_X7_faultOfWord
  rw [if_neg h]
  refine pc_bind pc_isThere (fun x _ hx => ?_)
  rw [if_neg ht] at hx
  rw [if_pos hx]
  exact pc_some rfl
theorem fow_m (h : ¬ r = 107) (ht : 0 < (w b 0).toInt) (hm : r = 109) : Pc (fun x => x = if (w b 2).toInt < 8 then 0 else 3) (f_X7_faultOfWord b r w) := by
  unfold f_X7_faultOfWord
  rw [if_neg h]
  refine pc_bind pc_isThere (fun x _ hx => ?_)
  rw [if_pos ht] at hx
  rw [if_neg (show ¬ x = 0 by rw [hx]; decide), if_pos hm]
  refine pc_ite (fun c => ?_) (fun c => ?_)
  · rw [Int32.lt_iff_toInt_lt, tl_8] at c
    exact pc_some (by rw [if_pos c])
  · rw [Int32.lt_iff_toInt_lt, tl_8] at c
    exact pc_some (by rw [if_neg c])
theorem fow_t (h : ¬ r = 107) (ht : 0 < (w b 0).toInt) (hm : ¬ r = 109) (hm2 : r = 116) : Pc (fun x => x = if (w b 3).toInt < 6 then 0 else 3) (f_X7_faultOfWord b r w) := by
  unfold f_X7_faultOfWord
  rw [if_neg h]
  refine pc_bind pc_isThere (fun x _ hx => ?_)
  rw [if_pos ht] at hx
  rw [if_neg (show ¬ x = 0 by rw [hx]; decide), if_neg hm, if_pos hm2]
  refine pc_ite (fun c => ?_) (fun c => ?_)
  · rw [Int32.lt_iff_toInt_lt, tl_6] at c
    exact pc_some (by rw [if_pos c])
  · rw [Int32.lt_iff_toInt_lt, tl_6] at c
    exact pc_some (by rw [if_neg c])
theorem fow_x (h : ¬ r = 107) (ht : 0 < (w b 0).toInt) (hm : ¬ r = 109) (hm2 : ¬ r = 116) : Pc (fun x => x = 1) (f_X7_faultOfWord b r w) := by
  unfold f_X7_faultOfWord
  rw [if_neg h]
  refine pc_bind pc_isThere (fun x _ hx => ?_)
  rw [if_pos ht] at hx
  rw [if_neg (show ¬ x = 0 by rw [hx]; decide), if_neg hm, if_neg hm2]
  exact pc_some rfl
end FOW
theorem rc_clbad {b : Nat} {w w' : Mem} {a x x' : Int32} {p : Int} (h0 : w 1 3 = 0) (ha : ¬ a = 0) (hx : x = x') : Rc (ClP b p) (f_X7_note a x w) ((f_X10_fails a x' w').bind fun q => some (0, q.2)) := by
  refine rcr_bind pc_fails (fun q _ hq => ?_)
  intro u v hu hv
  cases hv
  have hz := pc_note0 h0 u hu
  exact Or.inr ⟨rfl, by show u 1 3 = q.2 134 4; rw [hz.1, hq.2.1], by rw [hz.1]; exact ha, by show u 1 4 = q.2 134 2; rw [hz.2, hq.2.2, hx]⟩
theorem rc_clause {b : Nat} (hb : BrO b) {w w' : Mem} {p : Int} {r0 : Int32} (h : GdR w w' p) (hd : DfR b w w') (hl : LtR w r0) (hn : ¬ r0 = 32) (hlt : (w 1 2).toInt < (w 1 1).toInt) : Rc (ClP b ((w 1 2).toInt + 1)) (f_X7_readClause b w) (f_X10_readsClause w') := by
  have hbb : b = 112 ∨ b = 119 := hb
  obtain ⟨hA, hf, hp⟩ := h
  unfold f_X7_readClause f_X10_readsClause
  simp only [bind_eta1]
  refine rcr_bind (pc_nextId hA hl hn) (fun q1 _ hq1 => ?_)
  rw [hq1]
  refine rcr_pw ?_
  refine rcl_bind (pc_letterL hA) (fun r hr1 hr => ?_)
  have er : r = r0 := ltr_eq hr hl
  rw [er]
  obtain ⟨y1, y2⟩ := atr_step hA hlt
  obtain ⟨W, eW⟩ : ∃ W, W = wu w' 134 2 (w' 134 2 + 1) := ⟨_, rfl⟩
  show Rc _ _ _
  have eW' : wu (r0, w').2 134 2 ((r0, w').2 134 2 + 1) = W := eW.symm
  rw [eW']
  have hd0 := hd
  obtain ⟨d1, d2, d3, d4, d5⟩ := hd
  have W7 : W 134 7 = w b 1 := by rw [eW, wu_ne (by omega)]; exact d1.2.1.symm
  have W8 : W 134 8 = w b 2 := by rw [eW, wu_ne (by omega)]; exact d1.2.2.1.symm
  have W9 : W 134 9 = w b 3 := by rw [eW, wu_ne (by omega)]; exact d1.2.2.2.symm
  rw [W7, W8, W9]
  have hx : w 1 2 = (r0, w').2 134 2 := hA.2.1
  have G1 : GdR (wu w 1 2 (w 1 2 + 1)) W ((w 1 2).toInt + 1) := ⟨by rw [eW]; exact y1, ⟨by rw [wu_ne (by omega)]; exact hf.1, by rw [wu_ne (by omega)]; exact hf.2⟩, by rw [y2]; exact Int.le_refl _⟩
  have D1 : DfR b (wu w 1 2 (w 1 2 + 1)) W := by
    rw [eW]
    exact dfr_of hd0 (fun k i h1 h2 => wu_ne (by omega)) (wu_ne (by omega)) (wu_ne (by omega)) (wu_ne (by omega)) (wu_ne (by omega)) (fun k i h1 h2 => wu_ne (by omega))
  have C0 : wu w 1 2 (w 1 2 + 1) b 0 = w b 0 := wu_ne (by omega)
  have C2 : wu w 1 2 (w 1 2 + 1) b 2 = w b 2 := wu_ne (by omega)
  have C3 : wu w 1 2 (w 1 2 + 1) b 3 = w b 3 := wu_ne (by omega)
  have t8 := tl_8
  have t6 := tl_6
  have nk_m : ((107 : Int32) = 109) = False := eq_false (by decide)
  have nk_t : ((107 : Int32) = 116) = False := eq_false (by decide)
  have nm_k : ((109 : Int32) = 107) = False := eq_false (by decide)
  have nm_t : ((109 : Int32) = 116) = False := eq_false (by decide)
  have nt_k : ((116 : Int32) = 107) = False := eq_false (by decide)
  have nt_m : ((116 : Int32) = 109) = False := eq_false (by decide)
  have n30 : ((3 : Int32) = 0) = False := eq_false (by decide)
  have n10 : ((1 : Int32) = 0) = False := eq_false (by decide)
  have hx2 : w 1 2 = w' 134 2 := hA.2.1
  by_cases ht : 0 < (w b 0).toInt
  · have p0 : ¬ w b 1 = 0 := by
      rcases d2 with ⟨z0, _⟩ | z
      · rw [z0, tl_0] at ht; omega
      · rw [i_eq_iff, tl_0]; omega
    by_cases e1 : r0 = 107
    · refine rcl_bind (fow_k1 e1 ht) (fun x _ hx3 => ?_)
      simp only [e1, hx3, p0, sb, eq_self, if_true, if_false, ↓reduceIte, nk_m, nk_t, nm_k, nm_t, nt_k, nt_m, n30, n10]
      exact rc_clbad hf.1 (by decide) hx2
    · by_cases e2 : r0 = 109
      · refine rcl_bind (fow_m e1 ht e2) (fun x _ hx3 => ?_)
        by_cases c8 : (w b 2).toInt < 8
        · rw [if_pos c8] at hx3
          have n8 : ¬ w b 2 = 8 := by rw [i_eq_iff]; omega
          simp only [e2, hx3, p0, n8, sb, eq_self, if_true, if_false, ↓reduceIte, nk_m, nk_t, nm_k, nm_t, nt_k, nt_m, n30, n10]
          refine rcl_pw ?_
          exact rc_zr (rc_matter hb G1 D1 (by rw [C0]; omega) (by rw [C2]; exact c8))
        · rw [if_neg c8] at hx3
          have e8 : w b 2 = 8 := by rw [i_eq_iff]; omega
          simp only [e2, hx3, p0, e8, sb, eq_self, if_true, if_false, ↓reduceIte, nk_m, nk_t, nm_k, nm_t, nt_k, nt_m, n30, n10]
          exact rc_clbad hf.1 (by decide) hx2
      · by_cases e3 : r0 = 116
        · refine rcl_bind (fow_t e1 ht e2 e3) (fun x _ hx3 => ?_)
          by_cases c8 : (w b 3).toInt < 6
          · rw [if_pos c8] at hx3
            have n8 : ¬ w b 3 = 6 := by rw [i_eq_iff]; omega
            simp only [e3, hx3, p0, n8, sb, eq_self, if_true, if_false, ↓reduceIte, nk_m, nk_t, nm_k, nm_t, nt_k, nt_m, n30, n10]
            refine rcl_pw ?_
            exact rc_zr (rc_traveller hb G1 D1 (by rw [C0]; omega) (by rw [C3]; exact c8))
          · rw [if_neg c8] at hx3
            have e8 : w b 3 = 6 := by rw [i_eq_iff]; omega
            simp only [e3, hx3, p0, e8, sb, eq_self, if_true, if_false, ↓reduceIte, nk_m, nk_t, nm_k, nm_t, nt_k, nt_m, n30, n10]
            exact rc_clbad hf.1 (by decide) hx2
        · refine rcl_bind (fow_x e1 ht e2 e3) (fun x _ hx3 => ?_)
          simp only [e1, e2, e3, hx3, p0, sb, eq_self, if_true, if_false, ↓reduceIte, nk_m, nk_t, nm_k, nm_t, nt_k, nt_m, n30, n10]
          exact rc_clbad hf.1 (by decide) hx2
  · have p0 : w b 1 = 0 := by
      rcases d2 with ⟨_, z0, _⟩ | z
      · exact z0
      · omega
    by_cases e1 : r0 = 107
    · refine rcl_bind (fow_k0 e1 ht) (fun x _ hx3 => ?_)
      simp only [e1, hx3, p0, sb, eq_self, if_true, if_false, ↓reduceIte, nk_m, nk_t, nm_k, nm_t, nt_k, nt_m, n30, n10]
      refine rcl_pw ?_
      exact rc_zr (rc_rate hb G1 D1)
    · refine rcl_bind (fow_n e1 ht) (fun x _ hx3 => ?_)
      by_cases e2 : r0 = 109
      · simp only [e2, hx3, p0, sb, eq_self, if_true, if_false, ↓reduceIte, nk_m, nk_t, nm_k, nm_t, nt_k, nt_m, n30, n10]
        exact rc_clbad hf.1 (by decide) hx2
      · by_cases e3 : r0 = 116
        · simp only [e3, hx3, p0, sb, eq_self, if_true, if_false, ↓reduceIte, nk_m, nk_t, nm_k, nm_t, nt_k, nt_m, n30, n10]
          exact rc_clbad hf.1 (by decide) hx2
        · simp only [e1, e2, e3, hx3, p0, sb, eq_self, if_true, if_false, ↓reduceIte, nk_m, nk_t, nm_k, nm_t, nt_k, nt_m, n30, n10]
          exact rc_clbad hf.1 (by decide) hx2
