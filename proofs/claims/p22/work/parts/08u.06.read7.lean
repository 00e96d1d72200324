/-! the text -/
def LoX (b : Nat) (s s2 : Int32 × Mem) : Prop := (s2.1 = 1 ∧ ∃ u, f_X7_skipBlanks u = some s.2 ∧ GdR u s2.2 0 ∧ DfR b u s2.2 ∧ s.1.toInt ≤ (u 1 2).toInt ∧ 0 ≤ s.1.toInt) ∨ (s2.1 = 0 ∧ ∃ u, f_X7_skipBlanks u = some s.2 ∧ BdR u s2.2)
def LoP (b : Nat) (v : Mem) (v2 : Int32 × Mem) : Prop := (v2.1 = 1 ∧ NoF v ∧ DfR b v v2.2) ∨ (v2.1 = 0 ∧ BdR v v2.2)
theorem lo_body {b : Nat} (hb : BrO b) (s25 s27 : Int32 × Mem) (hX : LoX b s25 s27) : Rc (lqR (LoX b) (LoP b)) ((if s25.1 < (240 : Int32) then (if (s25.2 1 2) < (s25.2 1 1) then (if (s25.2 1 3) = 0 then (f_X7_readClause b s25.2).bind fun w6 => (f_X7_skipBlanks w6).bind fun w7 => some (Sum.inl ((s25.1 + (1 : Int32)), w7)) else some (Sum.inr s25.2)) else some (Sum.inr s25.2)) else some (Sum.inr s25.2)) : Option (Sum (Int32 × Mem) Mem)) ((if s27.1 = 0 then some (Sum.inr (s27.1, s27.2)) else (f_X10_nextLetter s27.2).bind fun q6 => (if q6.1 = (-1 : Int32) then some (Sum.inr (s27.1, q6.2)) else (f_X10_readsClause q6.2).bind fun q7 => some (Sum.inl (q7.1, q7.2)))) : Option (Sum (Int32 × Mem) (Int32 × Mem))) := by
  have hbb : b = 112 ∨ b = 119 := hb
  have t240 := tl_240
  rcases hX with ⟨h1, u, hu, hG, hD, hc, hc0⟩ | ⟨h1, u, hu, hB⟩
  · rw [if_neg (show ¬ s27.1 = 0 by rw [h1]; decide)]
    refine rcr_bind (fun q6 hq6 => rc_skip hG.1 s25.2 q6 hu hq6) (fun q6 hq6 hQ => ?_)
    obtain ⟨hA, hm, hl, hn⟩ := hQ
    have fs := fr_X7_skipBlanks u s25.2 hu
    have fn := fr_X10_nextLetter s27.2 q6 hq6
    have hN : NoF s25.2 := ⟨by rw [fs 1 3 (by omega)]; exact hG.2.1.1, by rw [fs 1 4 (by omega)]; exact hG.2.1.2⟩
    have hD2 : DfR b s25.2 q6.2 := dfr_of hD (fun k i h1 h2 => fs k i (by omega)) (fn 134 6 (by omega)) (fn 134 7 (by omega)) (fn 134 8 (by omega)) (fn 134 9 (by omega)) (fun k i h1 h2 => fn k i (by omega))
    have hl0 := hl
    rcases hl with ⟨a, e⟩ | ⟨a, _, e⟩
    · rw [if_pos a]
      have P : lqR (LoX b) (LoP b) (Sum.inr s25.2) (Sum.inr (s27.1, q6.2)) := Or.inl ⟨h1, hN, hD2⟩
      refine rcl_ite (fun _ => rcl_ite (fun c => ?_) (fun _ => rc_some P)) (fun _ => rc_some P)
      rw [Int32.lt_iff_toInt_lt] at c
      omega
    · have hlen := hA.1.2.1
      rw [if_neg (ne_m1 a), if_pos (show s25.1 < 240 by rw [Int32.lt_iff_toInt_lt]; omega), if_pos (show s25.2 1 2 < s25.2 1 1 by rw [Int32.lt_iff_toInt_lt]; exact e), if_pos hN.1]
      have hG2 : GdR s25.2 q6.2 0 := ⟨hA, hN, hA.2.2.1⟩
      refine rc_bind (rc_clause hb hG2 hD2 hl0 hn e) (fun w6 q7 hw6 hq7 hC => ?_)
      refine rcl_bind (Q := fun w7 => f_X7_skipBlanks w6 = some w7) (fun w7 h => h) (fun w7 _ hw7 => rc_some ?_)
      have ea : (s25.1 + 1).toInt = s25.1.toInt + 1 := i_addk tl_1 (by omega) (by omega)
      rcases hC with ⟨c1, cG, cD⟩ | ⟨c1, cB⟩
      · have cm := cG.2.2
        exact Or.inl ⟨c1, w6, hw7, ⟨cG.1, cG.2.1, by omega⟩, cD, by show (s25.1 + 1).toInt ≤ _; omega, by show 0 ≤ (s25.1 + 1).toInt; omega⟩
      · exact Or.inr ⟨c1, w6, hw7, cB⟩
  · rw [if_pos h1]
    have fs := fr_X7_skipBlanks u s25.2 hu
    have hB2 : BdR s25.2 s27.2 := bdr_of hB (fs 1 3 (by omega)) (fs 1 4 (by omega)) rfl rfl
    have P : lqR (LoX b) (LoP b) (Sum.inr s25.2) (Sum.inr (s27.1, s27.2)) := Or.inr ⟨h1, hB2⟩
    rw [if_neg hB2.2.1]
    exact rcl_ite (fun _ => rcl_ite (fun c => rc_some P) (fun _ => rc_some P)) (fun _ => rc_some P)
theorem rc_read {b : Nat} (hb : BrO b) {w w' : Mem} (h : TxR w w') : Rc (fun v v2 => (v2.1 = 1 ∧ ∃ v0, NoF v0 ∧ DfR b v0 v2.2 ∧ f_X1_settle b v0 = some v) ∨ (v2.1 = 0 ∧ BdR v v2.2)) (f_X7_readInto b w) (f_X10_readsBridge w') := by
  have hbb : b = 112 ∨ b = 119 := hb
  unfold f_X7_readInto f_X10_readsBridge
  simp only [bind_eta1]
  refine rcl_pw (rcl_pw (rcl_pw ?_))
  refine rcl_bind (Q := fun u => u = wu (wu (wu (wu (wu (wu (wu w 1 2 0) 1 3 0) 1 4 (-1)) b 0 0) b 1 0) b 2 0) b 3 0) (by unfold f_X1_clear; exact pc_pw (pc_pw (pc_pw (pc_pw (pc_some rfl))))) (fun u _ hu => ?_)
  refine rcr_pw (rcr_pw (rcr_pw (rcr_pw (rcr_pw ?_))))
  obtain ⟨u', eu'⟩ : ∃ u', u' = wu (wu (wu (wu (wu w' 134 2 0) 134 6 0) 134 7 0) 134 8 0) 134 9 0 := ⟨_, rfl⟩
  rw [← eu']
  have U : ∀ k i, ¬ (k = b ∧ i ≤ 3) → ¬ (k = 1 ∧ 2 ≤ i ∧ i ≤ 4) → u k i = w k i := by
    intro k i h1 h2
    rw [hu, wu_ne (by omega), wu_ne (by omega), wu_ne (by omega), wu_ne (by omega), wu_ne (by omega), wu_ne (by omega), wu_ne (by omega)]
  have U' : ∀ k i, ¬ (k = 134 ∧ i = 2) → ¬ (k = 134 ∧ 6 ≤ i ∧ i ≤ 9) → u' k i = w' k i := by
    intro k i h1 h2
    rw [eu', wu_ne (by omega), wu_ne (by omega), wu_ne (by omega), wu_ne (by omega), wu_ne (by omega)]
  have u12 : u 1 2 = 0 := by rw [hu, wu_ne (by omega), wu_ne (by omega), wu_ne (by omega), wu_ne (by omega), wu_ne (by omega), wu_ne (by omega), wu_at]
  have u13 : u 1 3 = 0 := by rw [hu, wu_ne (by omega), wu_ne (by omega), wu_ne (by omega), wu_ne (by omega), wu_ne (by omega), wu_at]
  have u14 : u 1 4 = -1 := by rw [hu, wu_ne (by omega), wu_ne (by omega), wu_ne (by omega), wu_ne (by omega), wu_at]
  have ub0 : u b 0 = 0 := by rw [hu, wu_ne (by omega), wu_ne (by omega), wu_ne (by omega), wu_at]
  have ub1 : u b 1 = 0 := by rw [hu, wu_ne (by omega), wu_ne (by omega), wu_at]
  have ub2 : u b 2 = 0 := by rw [hu, wu_ne (by omega), wu_at]
  have ub3 : u b 3 = 0 := by rw [hu, wu_at]
  have v2 : u' 134 2 = 0 := by rw [eu', wu_ne (by omega), wu_ne (by omega), wu_ne (by omega), wu_ne (by omega), wu_at]
  have v6 : u' 134 6 = 0 := by rw [eu', wu_ne (by omega), wu_ne (by omega), wu_ne (by omega), wu_at]
  have v7 : u' 134 7 = 0 := by rw [eu', wu_ne (by omega), wu_ne (by omega), wu_at]
  have v8 : u' 134 8 = 0 := by rw [eu', wu_ne (by omega), wu_at]
  have v9 : u' 134 9 = 0 := by rw [eu', wu_at]
  have t0 := tl_0
  have hT : TxR u u' := txr_of h (U 1 1 (by omega) (by omega)) (fun i => U 2 i (by omega) (by omega)) (U' 134 0 (by omega) (by omega)) (fun i => U' 135 i (by omega) (by omega))
  have hlen := hT.2.1
  have hG : GdR u u' 0 := ⟨⟨hT, by rw [u12, v2], by rw [u12, t0]; omega, by rw [u12, t0]; omega⟩, ⟨u13, u14⟩, by rw [u12, t0]; omega⟩
  have hD : DfR b u u' := by
    refine ⟨⟨by rw [ub0, v6], by rw [ub1, v7], by rw [ub2, v8], by rw [ub3, v9]⟩, Or.inl ⟨ub0, ub1, ub2, ub3⟩, ?_, fun i hi => ?_, fun i hi => ?_⟩
    · rw [ub2, ub3, t0]; omega
    · rw [ub2, t0] at hi; omega
    · rw [ub3, t0] at hi; omega
  refine rcl_bind (Q := fun w5 => f_X7_skipBlanks u = some w5) (fun w5 h5 => h5) (fun w5 _ hw5 => ?_)
  refine rc_bind (Q := LoP b) (rc_lp (LoX b) (lo_body hb) _ _ _ _ (Or.inl ⟨rfl, u, hw5, hG, hD, by show (0 : Int32).toInt ≤ _; rw [u12]; exact Int.le_refl _, by show 0 ≤ (0 : Int32).toInt; rw [t0]; omega⟩)) (fun v q _ _ hQ => ?_)
  refine rcr_zr (fun _ => ?_)
  rcases hQ with ⟨q1, hN, hD3⟩ | ⟨q1, hB⟩
  · rw [if_pos hN.1]
    intro x y hx hy
    cases hy
    exact Or.inl ⟨q1, v, hN, hD3, hx⟩
  · rw [if_neg hB.2.1]
    exact rc_some (Or.inr ⟨q1, hB⟩)
