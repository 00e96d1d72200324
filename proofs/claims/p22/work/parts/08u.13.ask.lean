/-! whom to ask -/
theorem rc_alike {b : Nat} {w w' : Mem} {t set k x y : Int32} (hB : BrC b w w') (ht : 0 ≤ t.toInt ∧ t.toInt < (w b 3).toInt) (hk : 0 ≤ k.toInt ∧ k.toInt < (w b 2).toInt) (hx : f_X1_stayOf b t k w = some x) (hs : hbI set k = 1) : Rc (fun u v => u = v ∧ 0 ≤ u.toInt) (f_X0_alike b t set x w) (lp (S := (Int32 × Int32)) (T := Int32) (fun s20 => (if s20.2 < (w' 134 17) then (f_X10_has set k).bind fun r1 => ((if r1 = 0 then some ((0 : Int32)) else (f_X10_has set s20.2).bind fun r3 => (if r3 = 0 then some ((0 : Int32)) else (f_X10_stayOf t k w').bind fun r4 => (f_X10_stayOf t s20.2 w').bind fun r5 => (if r4 = r5 then some ((1 : Int32)) else some ((0 : Int32))))) : Option Int32).bind fun v2 => some (Sum.inl ((s20.1 + v2), (s20.2 + (1 : Int32)))) else some (Sum.inr s20.1))) 5000000000 ((0 : Int32), (0 : Int32))) := by
  unfold f_X0_alike
  simp only [bind_eta1]
  have t0 := tl_0
  have b3 := hB.2.2.1
  have eM : w b 2 = w' 134 17 := hB.1.2.2.1
  rw [← eM]
  refine rc_lp (fun (s s2 : Int32 × Int32) => s = s2 ∧ (0 ≤ s.2.toInt ∧ s.2.toInt ≤ 8) ∧ 0 ≤ s.1.toInt ∧ s.1.toInt ≤ s.2.toInt) ?_ _ _ _ _ ⟨rfl, by show 0 ≤ (0 : Int32).toInt ∧ (0 : Int32).toInt ≤ 8; omega, by show 0 ≤ (0 : Int32).toInt ∧ (0 : Int32).toInt ≤ (0 : Int32).toInt; omega⟩
  intro s s2 hX
  obtain ⟨rfl, x1, x2⟩ := hX
  by_cases c : s.2 < w b 2
  · rw [if_pos c, if_pos c]
    rw [Int32.lt_iff_toInt_lt] at c
    have ea : (s.2 + 1).toInt = s.2.toInt + 1 := i_addk tl_1 (by omega) (by omega)
    have eb : (s.1 + 1).toInt = s.1.toInt + 1 := i_addk tl_1 (by omega) (by omega)
    have e0 : s.1 + 0 = s.1 := Int32.add_zero _
    refine rcr_bind pc_has (fun r1 _ h1 => ?_)
    rw [if_neg (show ¬ r1 = 0 by rw [h1, hs]; decide)]
    refine rcl_bind (pc_holds x1.1 (by omega)) (fun r2 _ h2 => ?_)
    rcases hbI_01 set s.2 with e | e
    · rw [if_pos (show r2 = 0 by rw [h2, e]), sb]
      refine rcr_bind (Q := fun v => v = 0) (pc_bind pc_has (fun r3 _ h3 => by rw [if_pos (show r3 = 0 by rw [h3, e])]; exact pc_some rfl)) (fun v _ hv => ?_)
      rw [hv, e0]
      exact rc_some ⟨rfl, by show 0 ≤ (s.2 + 1).toInt ∧ (s.2 + 1).toInt ≤ 8; omega, by show 0 ≤ s.1.toInt ∧ s.1.toInt ≤ (s.2 + 1).toInt; omega⟩
    · rw [if_neg (show ¬ r2 = 0 by rw [h2, e]; decide)]
      refine rcl_bind (Q := fun v => ∀ y, f_X10_stayOf t s.2 w' = some y → v = if y = x then s.1 + 1 else s.1) (pc_bind (Q := fun z => f_X1_stayOf b t s.2 w = some z) (fun z h => h) (fun z _ hz => pc_ite (fun cz => pc_some (fun y hy => ?_)) (fun cz => pc_some (fun y hy => ?_)))) (fun v _ hv => ?_)
      · rw [← rc_stayOf hB ht ⟨x1.1, c⟩ z y hz hy, if_pos cz]
      · rw [← rc_stayOf hB ht ⟨x1.1, c⟩ z y hz hy, if_neg cz]
      refine rcr_bind (Q := fun v2 => v = s.1 + v2 ∧ (v2 = 0 ∨ v2 = 1)) (pc_bind pc_has (fun r3 _ h3 => ?_)) (fun v2 _ hv2 => ?_)
      · rw [if_neg (show ¬ r3 = 0 by rw [h3, e]; decide)]
        refine pc_bind (Q := fun z => x = z) (fun z hz => rc_stayOf hB ht hk x z hx hz) (fun z _ hz => ?_)
        refine pc_bind (Q := fun y => f_X10_stayOf t s.2 w' = some y) (fun y h => h) (fun y _ hy => ?_)
        have h9 := hv y hy
        refine pc_ite (fun cz => pc_some ⟨?_, Or.inr rfl⟩) (fun cz => pc_some ⟨?_, Or.inl rfl⟩)
        · rw [h9, if_pos (by rw [hz, cz])]
        · rw [h9, if_neg (by rw [hz]; exact fun q => cz q.symm), e0]
      · obtain ⟨q1, q2⟩ := hv2
        rw [q1]
        refine rc_some ⟨rfl, by show 0 ≤ (s.2 + 1).toInt ∧ (s.2 + 1).toInt ≤ 8; omega, ?_⟩
        show 0 ≤ (s.1 + v2).toInt ∧ (s.1 + v2).toInt ≤ (s.2 + 1).toInt
        rcases q2 with q2 | q2
        · rw [q2, e0]; omega
        · rw [q2]; omega
  · rw [if_neg c, if_neg c]
    exact rc_some ⟨rfl, x2.1⟩
theorem pc_alike0 {w' : Mem} {t set k : Int32} (hs : hbI set k = 0) (n : Nat) : Pc (fun v => v = 0) (lp (S := (Int32 × Int32)) (T := Int32) (fun s20 => (if s20.2 < (w' 134 17) then (f_X10_has set k).bind fun r1 => ((if r1 = 0 then some ((0 : Int32)) else (f_X10_has set s20.2).bind fun r3 => (if r3 = 0 then some ((0 : Int32)) else (f_X10_stayOf t k w').bind fun r4 => (f_X10_stayOf t s20.2 w').bind fun r5 => (if r4 = r5 then some ((1 : Int32)) else some ((0 : Int32))))) : Option Int32).bind fun v2 => some (Sum.inl ((s20.1 + v2), (s20.2 + (1 : Int32)))) else some (Sum.inr s20.1))) n ((0 : Int32), (0 : Int32))) := by
  refine pc_lp (fun s => s.1 = 0) ?_ _ _ rfl
  intro s hX
  refine pc_ite (fun c => ?_) (fun c => pc_some hX)
  refine pc_bind pc_has (fun r1 _ h1 => ?_)
  rw [if_pos (show r1 = 0 by rw [h1, hs]), sb]
  refine pc_some ?_
  show s.1 + 0 = 0
  rw [hX]
  decide
theorem rc_part {b : Nat} {w w' : Mem} {t set : Int32} (hB : BrC b w w') (ht : 0 ≤ t.toInt ∧ t.toInt < (w b 3).toInt) : Rc (fun u v => u = v) (f_X0_greatestPart b t set w) (f_X10_alike set t w') := by
  unfold f_X0_greatestPart f_X10_alike
  simp only [bind_eta1]
  have t0 := tl_0
  have b3 := hB.2.2.1
  have eM : w b 2 = w' 134 17 := hB.1.2.2.1
  refine rc_lp (fun (s s2 : Int32 × Int32) => s = s2 ∧ (0 ≤ s.2.toInt ∧ s.2.toInt ≤ 8) ∧ 0 ≤ s.1.toInt) ?_ _ _ _ _ ⟨rfl, by show 0 ≤ (0 : Int32).toInt ∧ (0 : Int32).toInt ≤ 8; omega, by show 0 ≤ (0 : Int32).toInt; omega⟩
  intro s s2 hX
  obtain ⟨rfl, x1, x2⟩ := hX
  by_cases c : s.2 < w b 2
  · rw [if_pos c, if_pos (show s.2 < w' 134 17 by rw [← eM]; exact c)]
    rw [Int32.lt_iff_toInt_lt] at c
    have ea : (s.2 + 1).toInt = s.2.toInt + 1 := i_addk tl_1 (by omega) (by omega)
    refine rcl_bind (pc_holds x1.1 (by omega)) (fun r2 _ h2 => ?_)
    rcases hbI_01 set s.2 with e | e
    · rw [if_pos (show r2 = 0 by rw [h2, e]), sb]
      refine rcr_bind (pc_alike0 e _) (fun v6 _ h6 => ?_)
      rw [h6, if_neg (show ¬ s.1 < 0 by rw [Int32.lt_iff_toInt_lt]; omega), sb]
      exact rc_some ⟨rfl, by show 0 ≤ (s.2 + 1).toInt ∧ (s.2 + 1).toInt ≤ 8; omega, x2⟩
    · rw [if_neg (show ¬ r2 = 0 by rw [h2, e]; decide)]
      intro o o2 ho ho2
      refine (?_ : Rc (lqR (fun (s s2 : Int32 × Int32) => s = s2 ∧ (0 ≤ s.2.toInt ∧ s.2.toInt ≤ 8) ∧ 0 ≤ s.1.toInt) (fun (u v : Int32) => u = v)) _ _) o o2 ho ho2
      refine rcl_bind (Q := fun v => ∃ x, f_X1_stayOf b t s.2 w = some x ∧ ∃ r4, f_X0_alike b t set x w = some r4 ∧ v = if s.1 < r4 then r4 else s.1) (pc_bind (Q := fun x => f_X1_stayOf b t s.2 w = some x) (fun x h => h) (fun x _ hx => pc_bind (Q := fun r4 => f_X0_alike b t set x w = some r4) (fun r h => h) (fun r4 _ h4 => pc_lt (pc_some ⟨x, hx, r4, h4, rfl⟩)))) (fun v _ hv => ?_)
      obtain ⟨x, hx, r4, h4, hv⟩ := hv
      refine rcr_bind (Q := fun v6 => r4 = v6 ∧ 0 ≤ r4.toInt) (fun v6 h6 => rc_alike (y := x) hB ht ⟨x1.1, c⟩ hx e r4 v6 h4 h6) (fun v6 _ h6 => ?_)
      rw [← h6.1]
      by_cases c2 : s.1 < r4
      · rw [if_pos c2, sb]
        rw [if_pos c2] at hv
        rw [hv]
        exact rc_some ⟨rfl, by show 0 ≤ (s.2 + 1).toInt ∧ (s.2 + 1).toInt ≤ 8; omega, h6.2⟩
      · rw [if_neg c2, sb]
        rw [if_neg c2] at hv
        rw [hv]
        exact rc_some ⟨rfl, by show 0 ≤ (s.2 + 1).toInt ∧ (s.2 + 1).toInt ≤ 8; omega, x2⟩
  · rw [if_neg c, if_neg (show ¬ s.2 < w' 134 17 by rw [← eM]; exact c)]
    exact rc_some rfl
theorem eq_ask {w w' : Mem} (h : SimB w w') (hc : (w 106 2).toInt ≤ 6) : Rc (fun x y => x = y) (f_X9_ask w) (f_X10_ask w') := by
  have hB := h.2.1
  unfold f_X9_ask f_X10_ask
  simp only [bind_eta1]
  refine rc_bind (rc_fitting hB h.2.2.2.2.1.1 hc) (fun x y _ _ hxy => ?_)
  obtain ⟨rfl, g1, g2⟩ := hxy
  unfold f_X0_bestOf
  simp only [bind_eta1]
  rw [eq_bits g1 g2]
  refine rc_bind (rc_refl _) (fun r r2 _ _ hr => ?_)
  rw [← hr]
  have t0 := tl_0
  have b3 := hB.2.2.1
  have eN : w (brp (w 0 8)) 3 = w' 134 18 := hB.1.2.2.2
  rw [← eN]
  refine rc_lp (fun (s s2 : Int32 × Int32 × Int32) => s = s2 ∧ 0 ≤ s.2.2.toInt ∧ s.2.2.toInt ≤ 6) ?_ _ _ _ _ ⟨rfl, by show 0 ≤ (0 : Int32).toInt; omega, by show (0 : Int32).toInt ≤ 6; omega⟩
  intro s s2 hX
  obtain ⟨rfl, x1, x2⟩ := hX
  by_cases c : s.2.2 < w (brp (w 0 8)) 3
  · rw [if_pos c, if_pos c]
    rw [Int32.lt_iff_toInt_lt] at c
    have ea : (s.2.2 + 1).toInt = s.2.2.toInt + 1 := i_addk tl_1 (by omega) (by omega)
    refine rc_bind (rc_part hB ⟨x1, c⟩) (fun p p2 _ _ hp => ?_)
    rw [← hp]
    by_cases c2 : p < s.2.1
    · rw [if_pos c2, if_pos c2, if_pos c2, sb, sb, sb]
      exact rc_some ⟨rfl, by show 0 ≤ (s.2.2 + 1).toInt; omega, by show (s.2.2 + 1).toInt ≤ 6; omega⟩
    · rw [if_neg c2, if_neg c2, if_neg c2, sb, sb, sb]
      exact rc_some ⟨rfl, by show 0 ≤ (s.2.2 + 1).toInt; omega, by show (s.2.2 + 1).toInt ≤ 6; omega⟩
  · rw [if_neg c, if_neg c]
    exact rc_some rfl
