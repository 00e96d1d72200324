/-! minutes pass, the reference -/
def RpT (L j : Int) (s x s' x' : Int32) : Prop := (¬ s = 0 ∧ s' = s ∧ x' = x) ∨ (s = 0 ∧ x.toInt + j ≤ L ∧ s' = 0 ∧ x'.toInt = x.toInt + j) ∨ (s = 0 ∧ L < x.toInt + j ∧ s' = 3 ∧ x'.toInt = L + 1)
def LimR (w' : Mem) (t : Nat) : Int := 60 - 5 * (w' 144 t).toInt
theorem tl_7' : (7 : Int32).toInt = 7 := by decide
theorem tl_13 : (13 : Int32).toInt = 13 := by decide
theorem tl_19 : (19 : Int32).toInt = 19 := by decide
theorem ix {c : Int32} {d : Nat} (hc : c.toInt = d) (hd : d ≤ 100) {t : Int32} (h0 : 0 ≤ t.toInt) (h1 : t.toInt ≤ 1000) : (c + t).toNatClampNeg = d + t.toNatClampNeg := by
  have e : (c + t).toInt = c.toInt + t.toInt := i_add (by omega) (by omega)
  have e1 := i_clq h0
  have e2 := i_clq (i := c + t) (by omega)
  omega
def RfS (w' v : Mem) : Prop := (∀ kk i : Nat, ¬ kk = 146 → v kk i = w' kk i) ∧ ∀ i : Nat, (1 ≤ i ∧ i ≤ 6) ∨ (13 ≤ i ∧ i ≤ 18) → v 146 i = w' 146 i
theorem pc_limit {t : Int32} {w' : Mem} (ht : 0 ≤ t.toInt ∧ t.toInt ≤ 5) (hh : 0 ≤ (w' 144 t.toNatClampNeg).toInt ∧ (w' 144 t.toNatClampNeg).toInt ≤ 9) : Pc (fun r => r.toInt = LimR w' t.toNatClampNeg) (f_X10_limit t w') := by
  unfold f_X10_limit LimR
  refine pc_rd (fun _ => pc_some ?_)
  have e1 : ((5 : Int32) * w' 144 t.toNatClampNeg).toInt = 5 * (w' 144 t.toNatClampNeg).toInt := i_mulkl tl_5 (by omega) (by omega)
  have e2 : ((60 : Int32) - (5 : Int32) * w' 144 t.toNatClampNeg).toInt = (60 : Int32).toInt - ((5 : Int32) * w' 144 t.toNatClampNeg).toInt := i_sub (by rw [tl_60]; omega) (by rw [tl_60]; omega)
  rw [e2, e1, tl_60]
theorem pc_minute1 {w' : Mem} (hn : 0 ≤ (w' 134 18).toInt ∧ (w' 134 18).toInt ≤ 6) (hh : ∀ t : Nat, (t : Int) < (w' 134 18).toInt → 0 ≤ (w' 144 t).toInt ∧ (w' 144 t).toInt ≤ 9) (hw : ∀ t : Nat, (t : Int) < (w' 134 18).toInt → w' 146 (7 + t) = 0 → 0 ≤ (w' 146 (19 + t)).toInt ∧ (w' 146 (19 + t)).toInt ≤ LimR w' t) (n : Nat) : Pc (fun v => RfS w' v ∧ v 146 0 = w' 146 0 ∧ ∀ t : Nat, (t : Int) < (w' 134 18).toInt → RpT (LimR w' t) 1 (w' 146 (7 + t)) (w' 146 (19 + t)) (v 146 (7 + t)) (v 146 (19 + t))) (lp (S := (Int32 × Mem)) (T := Mem) (fun s9 => (if s9.1 < (s9.2 134 18) then rd 25 (s9.2 146) ((7 : Int32) + s9.1) fun x1 => ((if x1 = 0 then some ((1 : Int32)) else some ((0 : Int32))) : Option Int32).bind fun v2 => rd 25 (s9.2 146) ((19 : Int32) + s9.1) fun x3 => ((if v2 = 0 then some ((0 : Int32)) else some ((1 : Int32))) : Option Int32).bind fun v4 => wr 25 146 ((19 : Int32) + s9.1) (x3 + v4) s9.2 fun w5 => ((if v2 = 0 then rd 25 (w5 146) ((7 : Int32) + s9.1) fun x8 => some (x8) else rd 25 (w5 146) ((19 : Int32) + s9.1) fun x9 => (f_X10_limit s9.1 w5).bind fun r10 => (if r10 < x9 then some ((3 : Int32)) else rd 25 (w5 146) ((7 : Int32) + s9.1) fun x11 => some (x11))) : Option Int32).bind fun v6 => wr 25 146 ((7 : Int32) + s9.1) v6 w5 fun w7 => some (Sum.inl ((s9.1 + (1 : Int32)), w7)) else some (Sum.inr s9.2))) n ((0 : Int32), w')) := by
  have t0 := tl_0
  have t1 := tl_1
  refine pc_lp (fun (s : Int32 × Mem) => (0 ≤ s.1.toInt ∧ s.1.toInt ≤ (w' 134 18).toInt) ∧ RfS w' s.2 ∧ s.2 146 0 = w' 146 0 ∧ ∀ t : Nat, (t : Int) < (w' 134 18).toInt → ((t : Int) < s.1.toInt → RpT (LimR w' t) 1 (w' 146 (7 + t)) (w' 146 (19 + t)) (s.2 146 (7 + t)) (s.2 146 (19 + t))) ∧ (s.1.toInt ≤ t → s.2 146 (7 + t) = w' 146 (7 + t) ∧ s.2 146 (19 + t) = w' 146 (19 + t))) ?_ _ _ ?_
  · intro s hX
    obtain ⟨x1, x2, x3, x4⟩ := hX
    have e18 : s.2 134 18 = w' 134 18 := x2.1 134 18 (by omega)
    rw [e18]
    refine pc_ite (fun c => ?_) (fun c => pc_some ?_)
    · rw [Int32.lt_iff_toInt_lt] at c
      have ea : (s.1 + 1).toInt = s.1.toInt + 1 := i_addk tl_1 (by omega) (by omega)
      obtain ⟨j, ej⟩ : ∃ j, s.1.toNatClampNeg = j := ⟨_, rfl⟩
      have hj := i_clq x1.1
      rw [ej] at hj
      have i7 : ((7 : Int32) + s.1).toNatClampNeg = 7 + j := by rw [ix (d := 7) tl_7' (by omega) x1.1 (by omega), ej]
      have i19 : ((19 : Int32) + s.1).toNatClampNeg = 19 + j := by rw [ix (d := 19) tl_19 (by omega) x1.1 (by omega), ej]
      obtain ⟨y7, y19⟩ := (x4 j (by omega)).2 (by omega)
      have hhj := hh j (by omega)
      have step : ∀ (a p : Int32), RpT (LimR w' j) 1 (w' 146 (7 + j)) (w' 146 (19 + j)) p a → Pc (lqP (fun (s : Int32 × Mem) => (0 ≤ s.1.toInt ∧ s.1.toInt ≤ (w' 134 18).toInt) ∧ RfS w' s.2 ∧ s.2 146 0 = w' 146 0 ∧ ∀ t : Nat, (t : Int) < (w' 134 18).toInt → ((t : Int) < s.1.toInt → RpT (LimR w' t) 1 (w' 146 (7 + t)) (w' 146 (19 + t)) (s.2 146 (7 + t)) (s.2 146 (19 + t))) ∧ (s.1.toInt ≤ t → s.2 146 (7 + t) = w' 146 (7 + t) ∧ s.2 146 (19 + t) = w' 146 (19 + t))) (fun v => RfS w' v ∧ v 146 0 = w' 146 0 ∧ ∀ t : Nat, (t : Int) < (w' 134 18).toInt → RpT (LimR w' t) 1 (w' 146 (7 + t)) (w' 146 (19 + t)) (v 146 (7 + t)) (v 146 (19 + t)))) (some (Sum.inl (s.1 + 1, wu (wu s.2 146 (19 + j) a) 146 (7 + j) p)) : Option (Sum (Int32 × Mem) Mem)) := by
        intro a p hr
        have V : ∀ kk i, ¬ (kk = 146 ∧ i = 7 + j) → ¬ (kk = 146 ∧ i = 19 + j) → wu (wu s.2 146 (19 + j) a) 146 (7 + j) p kk i = s.2 kk i := fun kk i h h' => by rw [wu_ne h, wu_ne h']
        refine pc_some ⟨by show 0 ≤ (s.1 + 1).toInt ∧ (s.1 + 1).toInt ≤ _; omega, ⟨fun kk i h => ?_, fun i h => ?_⟩, ?_, fun t ht => ⟨fun h => ?_, fun h => ?_⟩⟩
        · show wu (wu s.2 146 (19 + j) a) 146 (7 + j) p kk i = _
          rw [V kk i (by omega) (by omega)]; exact x2.1 kk i h
        · show wu (wu s.2 146 (19 + j) a) 146 (7 + j) p 146 i = _
          rw [V 146 i (by omega) (by omega)]; exact x2.2 i h
        · show wu (wu s.2 146 (19 + j) a) 146 (7 + j) p 146 0 = _
          rw [V 146 0 (by omega) (by omega)]; exact x3
        · have h' : (t : Int) < (s.1 + 1).toInt := h
          show RpT _ _ _ _ (wu (wu s.2 146 (19 + j) a) 146 (7 + j) p 146 (7 + t)) (wu (wu s.2 146 (19 + j) a) 146 (7 + j) p 146 (19 + t))
          by_cases e : t = j
          · rw [e, wu_at, wu_ne (by omega), wu_at]; exact hr
          · rw [V 146 (7 + t) (by omega) (by omega), V 146 (19 + t) (by omega) (by omega)]
            exact (x4 t ht).1 (by omega)
        · have h' : (s.1 + 1).toInt ≤ (t : Int) := h
          show wu (wu s.2 146 (19 + j) a) 146 (7 + j) p 146 (7 + t) = _ ∧ wu (wu s.2 146 (19 + j) a) 146 (7 + j) p 146 (19 + t) = _
          rw [V 146 (7 + t) (by omega) (by omega), V 146 (19 + t) (by omega) (by omega)]
          exact (x4 t ht).2 (by omega)
      refine pc_rd (fun _ => ?_)
      rw [i7, y7]
      by_cases e : w' 146 (7 + j) = 0
      · have hwj := hw j (by omega) e
        rw [if_pos e, sb]
        refine pc_rd (fun _ => ?_)
        rw [i19, y19, if_neg (show ¬ (1 : Int32) = 0 by decide), sb]
        refine pc_wr (fun _ => ?_)
        rw [i19, if_neg (show ¬ (1 : Int32) = 0 by decide)]
        have hL : LimR w' j = 60 - 5 * (w' 144 j).toInt := rfl
        have f2 : (w' 146 (19 + j) + 1).toInt = (w' 146 (19 + j)).toInt + 1 := i_addk tl_1 (by omega) (by omega)
        refine pc_bind (Q := fun v6 => RpT (LimR w' j) 1 (w' 146 (7 + j)) (w' 146 (19 + j)) v6 (w' 146 (19 + j) + 1)) ?_ (fun v6 _ h6 => pc_wr (fun _ => ?_))
        · refine pc_rd (fun _ => ?_)
          rw [i19, wu_at]
          refine pc_bind (pc_limit ⟨x1.1, by omega⟩ (by rw [ej, wu_ne (by omega), x2.1 144 j (by omega)]; exact hhj)) (fun r _ hr => ?_)
          have hr2 : r.toInt = LimR w' j := by
            rw [hr, ej]
            unfold LimR
            rw [wu_ne (by omega), x2.1 144 j (by omega)]
          refine pc_ite (fun c2 => pc_some ?_) (fun c2 => pc_rd (fun _ => pc_some ?_))
          · rw [Int32.lt_iff_toInt_lt] at c2
            exact Or.inr (Or.inr ⟨e, by omega, rfl, by omega⟩)
          · rw [Int32.lt_iff_toInt_lt] at c2
            rw [i7, wu_ne (by omega), y7]
            exact Or.inr (Or.inl ⟨e, by omega, e, by omega⟩)
        · rw [i7]
          exact step _ _ h6
      · rw [if_neg e, sb]
        refine pc_rd (fun _ => ?_)
        rw [i19, y19, if_pos rfl, sb, Int32.add_zero]
        refine pc_wr (fun _ => ?_)
        rw [i19, if_pos rfl]
        refine pc_bind (Q := fun v6 => v6 = w' 146 (7 + j)) (pc_rd (fun _ => pc_some ?_)) (fun v6 _ h6 => pc_wr (fun _ => ?_))
        · rw [i7, wu_ne (by omega), y7]
        · rw [i7]
          exact step _ _ (Or.inl ⟨e, h6, rfl⟩)
    · rw [Int32.lt_iff_toInt_lt] at c
      exact ⟨x2, x3, fun t ht => (x4 t ht).1 (by omega)⟩
  · refine ⟨by show 0 ≤ (0 : Int32).toInt ∧ (0 : Int32).toInt ≤ _; omega, ⟨fun _ _ _ => rfl, fun _ _ => rfl⟩, rfl, fun t ht => ⟨fun h => ?_, fun h => ⟨rfl, rfl⟩⟩⟩
    have h' : (t : Int) < (0 : Int32).toInt := h
    omega
theorem rpt_add {L j : Int} {s x s1 x1 s2 x2 : Int32} (hj : 0 ≤ j) (h1 : RpT L j s x s1 x1) (h2 : RpT L 1 s1 x1 s2 x2) : RpT L (j + 1) s x s2 x2 := by
  rcases h1 with ⟨a, b, c⟩ | ⟨a, b, c, d⟩ | ⟨a, b, c, d⟩
  · rcases h2 with ⟨e, f, g⟩ | ⟨e, f, g, h⟩ | ⟨e, f, g, h⟩
    · exact Or.inl ⟨a, by rw [f, b], by rw [g, c]⟩
    · rw [b] at e; exact absurd e a
    · rw [b] at e; exact absurd e a
  · rcases h2 with ⟨e, f, g⟩ | ⟨e, f, g, h⟩ | ⟨e, f, g, h⟩
    · exact absurd c e
    · exact Or.inr (Or.inl ⟨a, by omega, g, by omega⟩)
    · exact Or.inr (Or.inr ⟨a, by omega, g, h⟩)
  · rcases h2 with ⟨e, f, g⟩ | ⟨e, f, g, h⟩ | ⟨e, f, g, h⟩
    · exact Or.inr (Or.inr ⟨a, by omega, by rw [f, c], by rw [g, d]⟩)
    · rw [c] at e; exact absurd e (by decide)
    · rw [c] at e; exact absurd e (by decide)
def RpP (k : Int32) (w' v : Mem) : Prop := v 146 0 = w' 146 0 + k ∧ RfS w' v ∧ ∀ t : Nat, (t : Int) < (w' 134 18).toInt → RpT (LimR w' t) k.toInt (w' 146 (7 + t)) (w' 146 (19 + t)) (v 146 (7 + t)) (v 146 (19 + t))
theorem pc_passes {k : Int32} {w' : Mem} (hn : 0 ≤ (w' 134 18).toInt ∧ (w' 134 18).toInt ≤ 6) (hk : 0 ≤ k.toInt ∧ k.toInt ≤ 300) (hh : ∀ t : Nat, (t : Int) < (w' 134 18).toInt → 0 ≤ (w' 144 t).toInt ∧ (w' 144 t).toInt ≤ 9) (hw : ∀ t : Nat, (t : Int) < (w' 134 18).toInt → w' 146 (7 + t) = 0 → 0 ≤ (w' 146 (19 + t)).toInt ∧ (w' 146 (19 + t)).toInt ≤ LimR w' t) : Pc (RpP k w') (f_X10_passes k w') := by
  unfold f_X10_passes
  simp only [bind_eta1]
  have t0 := tl_0
  refine pc_lp (fun (s : Int32 × Mem) => (0 ≤ s.1.toInt ∧ s.1.toInt ≤ k.toInt) ∧ s.2 146 0 = w' 146 0 + s.1 ∧ RfS w' s.2 ∧ ∀ t : Nat, (t : Int) < (w' 134 18).toInt → RpT (LimR w' t) s.1.toInt (w' 146 (7 + t)) (w' 146 (19 + t)) (s.2 146 (7 + t)) (s.2 146 (19 + t))) ?_ _ _ ?_
  · intro s hX
    obtain ⟨x1, x2, x3, x4⟩ := hX
    refine pc_ite (fun c => ?_) (fun c => pc_some ?_)
    · rw [Int32.lt_iff_toInt_lt] at c
      have ea : (s.1 + 1).toInt = s.1.toInt + 1 := i_addk tl_1 (by omega) (by omega)
      have e18 : s.2 134 18 = w' 134 18 := x3.1 134 18 (by omega)
      have eL : ∀ t : Nat, LimR s.2 t = LimR w' t := fun t => by unfold LimR; rw [x3.1 144 t (by omega)]
      refine pc_bind (pc_minute1 (w' := s.2) (by rw [e18]; exact hn) (fun t ht => by rw [e18] at ht; rw [x3.1 144 t (by omega)]; exact hh t ht) (fun t ht hz => ?_) _) (fun v _ hv => pc_rd (fun _ => pc_wr (fun _ => pc_some ?_)))
      · rw [e18] at ht
        rw [eL]
        rcases x4 t ht with ⟨a, b, d⟩ | ⟨a, b, d, f⟩ | ⟨a, b, d, f⟩
        · rw [b] at hz; exact absurd hz a
        · have := hw t ht a; omega
        · rw [d] at hz; exact absurd hz (by decide)
      · obtain ⟨v1, v2, v3⟩ := hv
        rw [cl_0]
        have V : ∀ kk i, ¬ (kk = 146 ∧ i = 0) → wu v 146 0 (v 146 0 + 1) kk i = v kk i := fun kk i h => wu_ne h
        refine ⟨by show 0 ≤ (s.1 + 1).toInt ∧ (s.1 + 1).toInt ≤ _; omega, ?_, ⟨fun kk i h => ?_, fun i h => ?_⟩, fun t ht => ?_⟩
        · show wu v 146 0 (v 146 0 + 1) 146 0 = w' 146 0 + (s.1 + 1)
          rw [wu_at, v2, x2, Int32.add_assoc]
        · show wu v 146 0 (v 146 0 + 1) kk i = _
          rw [V kk i (by omega), v1.1 kk i h, x3.1 kk i h]
        · show wu v 146 0 (v 146 0 + 1) 146 i = _
          rw [V 146 i (by omega), v1.2 i h, x3.2 i h]
        · show RpT _ (s.1 + 1).toInt _ _ (wu v 146 0 (v 146 0 + 1) 146 (7 + t)) (wu v 146 0 (v 146 0 + 1) 146 (19 + t))
          rw [V 146 (7 + t) (by omega), V 146 (19 + t) (by omega), ea]
          have h3 := v3 t (by rw [e18]; exact ht)
          rw [eL] at h3
          exact rpt_add x1.1 (x4 t ht) h3
    · rw [Int32.lt_iff_toInt_lt] at c
      have e : s.1 = k := by rw [i_eq_iff]; omega
      rw [e] at x2 x4
      exact ⟨x2, x3, x4⟩
  · refine ⟨by show 0 ≤ (0 : Int32).toInt ∧ (0 : Int32).toInt ≤ _; omega, by show w' 146 0 = w' 146 0 + 0; rw [Int32.add_zero], ⟨fun _ _ _ => rfl, fun _ _ => rfl⟩, fun t ht => ?_⟩
    show RpT _ (0 : Int32).toInt _ _ (w' 146 (7 + t)) (w' 146 (19 + t))
    rw [t0]
    by_cases e : w' 146 (7 + t) = 0
    · have := hw t ht e
      exact Or.inr (Or.inl ⟨e, by omega, e, by omega⟩)
    · exact Or.inl ⟨e, rfl, rfl⟩
