/-! undo -/
theorem pc_crow {N : Nat} {base : Int32} {src : Nat} {w' : Mem} (hs : ¬ src = 146) (hb : 0 ≤ base.toInt ∧ base.toInt ≤ 725) (g : Mem → Int32) (hg : ∀ v : Mem, (∀ k i, ¬ k = 146 → v k i = w' k i) → g v = base) (n : Nat) : Pc (fun v => (∀ k i, ¬ k = 146 → v k i = w' k i) ∧ (∀ i : Nat, i < 25 → v 146 i = w' src (base.toNatClampNeg + i))) (lp (S := (Int32 × Mem)) (T := Mem) (fun s52 => (if s52.1 < (25 : Int32) then rd N (s52.2 src) ((g s52.2) + s52.1) fun x4 => wr 25 146 s52.1 x4 s52.2 fun w5 => some (Sum.inl ((s52.1 + (1 : Int32)), w5)) else some (Sum.inr s52.2))) n ((0 : Int32), w')) := by
  have t0 := tl_0
  have t25 := tl_25
  refine pc_lp (fun (s : Int32 × Mem) => (0 ≤ s.1.toInt ∧ s.1.toInt ≤ 25) ∧ (∀ k i, ¬ k = 146 → s.2 k i = w' k i) ∧ (∀ i : Nat, (i : Int) < s.1.toInt → s.2 146 i = w' src (base.toNatClampNeg + i))) ?_ _ _ ⟨by show 0 ≤ (0 : Int32).toInt ∧ (0 : Int32).toInt ≤ 25; omega, fun _ _ _ => rfl, fun i hi => by have h' : (i : Int) < (0 : Int32).toInt := hi; omega⟩
  intro s hX
  obtain ⟨x1, x2, x3⟩ := hX
  refine pc_ite (fun c => ?_) (fun c => pc_some ?_)
  · rw [Int32.lt_iff_toInt_lt] at c
    have ea : (s.1 + 1).toInt = s.1.toInt + 1 := i_addk tl_1 (by omega) (by omega)
    obtain ⟨j, ej⟩ : ∃ j, s.1.toNatClampNeg = j := ⟨_, rfl⟩
    have hj := i_clq x1.1
    rw [ej] at hj
    have hbc := i_clq hb.1
    have e2 : (base + s.1).toInt = base.toInt + s.1.toInt := i_add (by omega) (by omega)
    have e3 := i_clq (i := base + s.1) (by omega)
    have e4 : (base + s.1).toNatClampNeg = base.toNatClampNeg + j := by omega
    rw [hg s.2 x2]
    refine pc_rd (fun _ => pc_wr (fun _ => pc_some ?_))
    rw [e4, ej, x2 src _ hs]
    refine ⟨by show 0 ≤ (s.1 + 1).toInt ∧ (s.1 + 1).toInt ≤ 25; omega, fun k i h => ?_, fun i hi => ?_⟩
    · dsimp only
      rw [wu_ne (by omega)]
      exact x2 k i h
    · have hi' : (i : Int) < (s.1 + 1).toInt := hi
      dsimp only
      by_cases e : i = j
      · rw [e, wu_at]
      · rw [wu_ne (by omega)]
        exact x3 i (by omega)
  · rw [Int32.lt_iff_toInt_lt] at c
    exact ⟨x2, fun i hi => x3 i (by omega)⟩
theorem rc_undo {w w' : Mem} {n : Int32} (h : SimE w w') : Rc (fun q q2 => q.1 = q2.1 ∧ SimE q.2 q2.2) (f_X9_undo n w) (f_X10_undo n w') := by
  have hsim := h
  obtain ⟨a, e, p, m, d⟩ := h
  have hb : brp (w 0 8) = 112 ∨ brp (w 0 8) = 119 := brp_or _
  have h6 : (w (brp (w 0 8)) 3).toInt ≤ 6 := a.2.1.2.2.1.2.2
  obtain ⟨⟨p1, p2⟩, p3, p4, p5⟩ := p
  have t0 := tl_0
  have t1 := tl_1
  have t30 := tl_30
  unfold f_X9_undo f_X10_undo
  refine rcr_bind pc_in (fun r _ hr => ?_)
  refine rcl_ite (fun c => ?_) (fun c => rcl_ite (fun c2 => ?_) (fun c2 => ?_))
  · rw [Int32.lt_iff_toInt_lt] at c
    rw [if_pos (in_0 hr (by omega))]
    exact rc_some ⟨rfl, hsim⟩
  · rw [Int32.lt_iff_toInt_lt] at c2
    rw [if_pos (in_0 hr (by omega))]
    exact rc_some ⟨rfl, hsim⟩
  · have c0 := c
    rw [Int32.lt_iff_toInt_lt] at c c2
    rw [if_neg (in_1 hr (by omega)), ← p1]
    by_cases c3 : w 6 1 < n
    · rw [if_pos c3, if_pos c3]
      exact rc_some ⟨rfl, hsim⟩
    · rw [if_neg c3, if_neg c3]
      unfold f_X6_takeBack
      simp only [bind_eta1]
      rw [if_neg c0, if_neg c3]
      rw [Int32.lt_iff_toInt_lt] at c3
      obtain ⟨nx, enx⟩ : ∃ nx, nx = (w 6 2 + 30 - n) - (w 6 2 + 30 - n) / 30 * 30 := ⟨_, rfl⟩
      have f0 : (w 6 2 + 30).toInt = (w 6 2).toInt + 30 := i_addk tl_30 (by omega) (by omega)
      have f1 : (w 6 2 + 30 - n).toInt = (w 6 2 + 30).toInt - n.toInt := i_sub (by omega) (by omega)
      have f2 : nx.toInt = (w 6 2 + 30 - n).toInt % (30 : Nat) := by rw [enx]; exact i_remk (k := 30) tl_30 (by decide) (by omega)
      have f3 : nx.toInt = ((w 6 2).toInt + 30 - n.toInt) % 30 := by rw [f2, f1, f0]; rfl
      have f4 : (w 6 1 - n).toInt = (w 6 1).toInt - n.toInt := i_sub (by omega) (by omega)
      obtain ⟨k, ek⟩ : ∃ k, nx.toNatClampNeg = k := ⟨_, rfl⟩
      have hk := i_clq (i := nx) (by omega)
      rw [ek] at hk
      rw [← p2, ← enx]
      refine rcl_bind (Q := fun u => ((∀ i, i < 10 → u 3 i = w (8 + 3 * k) i) ∧ (∀ i, i < 6 → u 4 i = w (8 + 3 * k + 1) i) ∧ (∀ i, i < 6 → u 5 i = w (8 + 3 * k + 2) i)) ∧ u 6 1 = w 6 1 - n ∧ u 6 2 = nx ∧ ∀ k i, ¬ (3 ≤ k ∧ k ≤ 5) → ¬ (k = 6 ∧ (i = 1 ∨ i = 2)) → u k i = w k i) ?_ (fun u _ hu => ?_)
      · refine pc_pw (pc_pw ?_)
        obtain ⟨y, ey⟩ : ∃ y, y = wu (wu w 6 2 nx) 6 1 (w 6 1 - n) := ⟨_, rfl⟩
        rw [wu_ne (show ¬ (6 = 6 ∧ 1 = 2) by omega), ← ey]
        have Y : ∀ k i, ¬ (k = 6 ∧ (i = 1 ∨ i = 2)) → y k i = w k i := fun k i h => by rw [ey, wu_ne (by omega), wu_ne (by omega)]
        have y2 : y 6 2 = nx := by rw [ey, wu_ne (by omega), wu_at]
        have y1 : y 6 1 = w 6 1 - n := by rw [ey, wu_at]
        rw [y2]
        refine pc_rg (fun _ => ?_)
        rw [ek]
        refine pc_mono (pc_copyEv (o := 8 + 3 * k) (p := 3) (Or.inr (Or.inr (Or.inr ⟨k, by omega, rfl⟩))) (Or.inl rfl) (by omega)) (fun u _ hu => ?_)
        obtain ⟨u1, u2, u3, u4⟩ := hu
        refine ⟨⟨fun i hi => by rw [u1 i hi, Y _ _ (by omega)], fun i hi => (u2 i hi).trans (Y _ _ (by omega)), fun i hi => (u3 i hi).trans (Y _ _ (by omega))⟩, by rw [u4 6 1 (by omega), y1], by rw [u4 6 2 (by omega), y2], fun k i h1 h2 => by rw [u4 k i (by omega), Y k i h2]⟩
      · refine rcr_pw (rcr_pw ?_)
        obtain ⟨y', ey'⟩ : ∃ y', y' = wu (wu w' 134 26 nx) 134 25 (w' 134 25 - n) := ⟨_, rfl⟩
        rw [wu_ne (show ¬ (134 = 134 ∧ 25 = 26) by omega), ← ey']
        have Y' : ∀ k i, ¬ (k = 134 ∧ (i = 25 ∨ i = 26)) → y' k i = w' k i := fun k i h => by rw [ey', wu_ne (by omega), wu_ne (by omega)]
        have y26 : y' 134 26 = nx := by rw [ey', wu_ne (by omega), wu_at]
        have y25 : y' 134 25 = w' 134 25 - n := by rw [ey', wu_at]
        have g1 : ((25 : Int32) * nx).toInt = 25 * nx.toInt := i_mulkl tl_25 (by omega) (by omega)
        have g2 := i_clq (i := (25 : Int32) * nx) (by omega)
        have g3 : ((25 : Int32) * nx).toNatClampNeg = 25 * k := by omega
        refine rcr_bind (pc_crow (w' := y') (src := 147) (base := (25 : Int32) * nx) (by omega) (by omega) (fun v => (25 : Int32) * v 134 26) (fun v hv => by show (25 : Int32) * v 134 26 = _; rw [hv 134 26 (by omega), y26]) _) (fun u' _ hu' => rcr_rd (fun _ => rc_some ?_))
        obtain ⟨v1, v2⟩ := hu'
        rw [g3] at v2
        rw [cl_0]
        obtain ⟨⟨u1, u2, u3⟩, u61, u62, u4⟩ := hu
        have U' : ∀ k i, ¬ k = 146 → ¬ (k = 134 ∧ (i = 25 ∨ i = 26)) → u' k i = w' k i := fun k i h1 h2 => by rw [v1 k i h1, Y' k i h2]
        have B : ∀ k i, brp (w 0 8) ≤ k → k ≤ brp (w 0 8) + 5 → u k i = w k i := fun k i k1 k2 => u4 k i (by omega) (by omega)
        have hage : ((w 6 2).toInt - 1 - k) % 30 < (w 6 1).toInt := by omega
        have hE3 : EvC 3 (u' 146) (brp (w 0 8)) u := evc_mv (p5 k (by omega) hage) h6 u1 u2 u3 (fun i hi => by rw [v2 i hi, Y' 147 _ (by omega)]) (B _ 2 (by omega) (by omega)) (B _ 3 (by omega) (by omega)) (fun i _ => B _ i (by omega) (by omega))
        have e8 : u 0 8 = w 0 8 := u4 0 8 (by omega) (by omega)
        refine ⟨hE3.1.1, (?_ : SimE u u')⟩
        refine ⟨simb_of a (fun k i h => u4 k i (by omega) (by omega)) (fun k i h => U' k i (by omega) (by omega)), by rw [e8]; exact hE3, ?_, ?_, ?_⟩
        · rw [e8]
          refine ⟨⟨?_, ?_⟩, ?_, ?_, fun i hi ha => ?_⟩
          · rw [u61, v1 134 25 (by omega), y25, p1]
          · rw [u62, v1 134 26 (by omega), y26]
          · rw [u61, f4]; omega
          · rw [u62]; omega
          · rw [u61, u62, f4] at ha
            have ha2 : ((w 6 2).toInt - 1 - i) % 30 < (w 6 1).toInt := by omega
            exact evc_mv (p5 i hi ha2) h6 (fun j _ => u4 _ j (by omega) (by omega)) (fun j _ => u4 _ j (by omega) (by omega)) (fun j _ => u4 _ j (by omega) (by omega)) (fun j _ => U' 147 _ (by omega) (by omega)) (B _ 2 (by omega) (by omega)) (B _ 3 (by omega) (by omega)) (fun j _ => B _ j (by omega) (by omega))
        · rw [e8]
          exact imc_of m h6 (fun k i k1 k2 => u4 k i (by omega) (by omega)) (fun i => U' _ _ (by omega) (by omega)) (fun i => U' _ _ (by omega) (by omega)) (B _ 2 (by omega) (by omega)) (B _ 3 (by omega) (by omega)) (fun j => B _ j (by omega) (by omega))
        · rw [u4 0 10 (by omega) (by omega), U' 134 28 (by omega) (by omega)]
          exact d
