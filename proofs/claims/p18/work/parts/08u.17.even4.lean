/-! the past on both sides -/
def PaC (b : Nat) (w w' : Mem) : Prop := (w 6 1 = w' 134 25 ∧ w 6 2 = w' 134 26) ∧ (0 ≤ (w 6 1).toInt ∧ (w 6 1).toInt ≤ 30) ∧ (0 ≤ (w 6 2).toInt ∧ (w 6 2).toInt ≤ 29) ∧ ∀ i : Nat, i < 30 → ((w 6 2).toInt - 1 - i) % 30 < (w 6 1).toInt → EvC (8 + 3 * i) (fun k => w' 147 (25 * i + k)) b w
theorem pc_rrem {w' : Mem} (h26 : 0 ≤ (w' 134 26).toInt ∧ (w' 134 26).toInt ≤ 29) (h25 : 0 ≤ (w' 134 25).toInt ∧ (w' 134 25).toInt ≤ 30) : Pc (fun u => (∀ i : Nat, i < 25 → u 147 (25 * (w' 134 26).toNatClampNeg + i) = w' 146 i) ∧ (∀ i : Nat, ¬ (25 * (w' 134 26).toNatClampNeg ≤ i ∧ i < 25 * (w' 134 26).toNatClampNeg + 25) → u 147 i = w' 147 i) ∧ (u 134 26).toInt = ((w' 134 26).toInt + 1) % 30 ∧ (u 134 25).toInt = (if (w' 134 25).toInt < 30 then (w' 134 25).toInt + 1 else 30)) (f_X10_remember w') := by
  unfold f_X10_remember
  have t0 := tl_0
  have t25 := tl_25
  have t30 := tl_30
  obtain ⟨m, em⟩ : ∃ m, (w' 134 26).toNatClampNeg = m := ⟨_, rfl⟩
  have hm := i_clq h26.1
  rw [em] at hm
  rw [em]
  refine pc_bind (Q := fun v => (∀ k i, ¬ k = 147 → v k i = w' k i) ∧ (∀ i : Nat, i < 25 → v 147 (25 * m + i) = w' 146 i) ∧ (∀ i : Nat, ¬ (25 * m ≤ i ∧ i < 25 * m + 25) → v 147 i = w' 147 i)) (pc_lp (fun (s : Int32 × Mem) => (0 ≤ s.1.toInt ∧ s.1.toInt ≤ 25) ∧ (∀ k i, ¬ k = 147 → s.2 k i = w' k i) ∧ (∀ i : Nat, (i : Int) < s.1.toInt → s.2 147 (25 * m + i) = w' 146 i) ∧ (∀ i : Nat, ¬ (25 * m ≤ i ∧ i < 25 * m + 25) → s.2 147 i = w' 147 i)) ?_ _ _ ⟨by show 0 ≤ (0 : Int32).toInt ∧ (0 : Int32).toInt ≤ 25; omega, fun _ _ _ => rfl, fun i hi => by have h' : (i : Int) < (0 : Int32).toInt := hi; omega, fun _ _ => rfl⟩) (fun v _ hv => ?_)
  · intro s hX
    obtain ⟨x1, x2, x3, x4⟩ := hX
    refine pc_ite (fun c => ?_) (fun c => pc_some ?_)
    · rw [Int32.lt_iff_toInt_lt] at c
      have ea : (s.1 + 1).toInt = s.1.toInt + 1 := i_addk tl_1 (by omega) (by omega)
      obtain ⟨j, ej⟩ : ∃ j, s.1.toNatClampNeg = j := ⟨_, rfl⟩
      have hj := i_clq x1.1
      rw [ej] at hj
      have e26 : s.2 134 26 = w' 134 26 := x2 134 26 (by omega)
      have e1 : ((25 : Int32) * w' 134 26).toInt = 25 * (w' 134 26).toInt := i_mulkl tl_25 (by omega) (by omega)
      have e2 : ((25 : Int32) * w' 134 26 + s.1).toInt = ((25 : Int32) * w' 134 26).toInt + s.1.toInt := i_add (by omega) (by omega)
      have e3 := i_clq (i := (25 : Int32) * w' 134 26 + s.1) (by omega)
      have e4 : ((25 : Int32) * w' 134 26 + s.1).toNatClampNeg = 25 * m + j := by omega
      refine pc_rd (fun _ => pc_wr (fun _ => pc_some ?_))
      rw [e26, e4, ej, x2 146 j (by omega)]
      refine ⟨by show 0 ≤ (s.1 + 1).toInt ∧ (s.1 + 1).toInt ≤ 25; omega, fun k i h => ?_, fun i hi => ?_, fun i hi => ?_⟩
      · dsimp only
        rw [wu_ne (by omega)]
        exact x2 k i h
      · have hi' : (i : Int) < (s.1 + 1).toInt := hi
        dsimp only
        by_cases e : i = j
        · rw [e, wu_at]
        · rw [wu_ne (by omega)]
          exact x3 i (by omega)
      · dsimp only
        rw [wu_ne (by omega)]
        exact x4 i hi
    · rw [Int32.lt_iff_toInt_lt] at c
      exact ⟨x2, fun i hi => x3 i (by omega), x4⟩
  · obtain ⟨v1, v2, v3⟩ := hv
    refine pc_pw ?_
    rw [v1 134 26 (by omega)]
    obtain ⟨y, ey⟩ : ∃ y, y = wu v 134 26 (w' 134 26 + 1 - (w' 134 26 + 1) / 30 * 30) := ⟨_, rfl⟩
    rw [← ey]
    have y25 : y 134 25 = w' 134 25 := by rw [ey, wu_ne (by omega), v1 134 25 (by omega)]
    rw [y25]
    have f1 : (w' 134 26 + 1).toInt = (w' 134 26).toInt + 1 := i_addk tl_1 (by omega) (by omega)
    have f2 : (w' 134 26 + 1 - (w' 134 26 + 1) / 30 * 30).toInt = (w' 134 26 + 1).toInt % (30 : Nat) := i_remk (k := 30) tl_30 (by decide) (by omega)
    refine pc_bind (Q := fun q => q.toInt = if (w' 134 25).toInt < 30 then 1 else 0) (pc_ite (fun c => pc_some ?_) (fun c => pc_some ?_)) (fun q _ hq => pc_pw (pc_some ⟨fun i hi => ?_, fun i hi => ?_, ?_, ?_⟩))
    · rw [Int32.lt_iff_toInt_lt] at c
      rw [if_pos (by omega), tl_1]
    · rw [Int32.lt_iff_toInt_lt] at c
      rw [if_neg (by omega), tl_0]
    · rw [wu_ne (by omega), ey, wu_ne (by omega)]
      exact v2 i hi
    · rw [wu_ne (by omega), ey, wu_ne (by omega)]
      exact v3 i hi
    · rw [wu_ne (by omega), ey, wu_at, f2, f1]
      rfl
    · rw [wu_at]
      by_cases c : (w' 134 25).toInt < 30
      · rw [if_pos c] at hq
        rw [if_pos c, i_add (by omega) (by omega), hq]
      · rw [if_neg c] at hq
        rw [if_neg c, i_add (by omega) (by omega), hq]
        omega
theorem pc_crem {w : Mem} (h2 : 0 ≤ (w 6 2).toInt ∧ (w 6 2).toInt ≤ 29) (h1 : 0 ≤ (w 6 1).toInt ∧ (w 6 1).toInt ≤ 30) : Pc (fun u => ((∀ i, i < 10 → u (8 + 3 * (w 6 2).toNatClampNeg) i = w 3 i) ∧ (∀ i, i < 6 → u (8 + 3 * (w 6 2).toNatClampNeg + 1) i = w 4 i) ∧ (∀ i, i < 6 → u (8 + 3 * (w 6 2).toNatClampNeg + 2) i = w 5 i)) ∧ (∀ k i, ¬ (8 + 3 * (w 6 2).toNatClampNeg ≤ k ∧ k ≤ 8 + 3 * (w 6 2).toNatClampNeg + 2) → ¬ (k = 6 ∧ (i = 1 ∨ i = 2)) → u k i = w k i) ∧ (u 6 2).toInt = ((w 6 2).toInt + 1) % 30 ∧ (u 6 1).toInt = (if (w 6 1).toInt < 30 then (w 6 1).toInt + 1 else 30)) (f_X6_remember w) := by
  unfold f_X6_remember
  have t0 := tl_0
  have t30 := tl_30
  refine pc_rg (fun _ => ?_)
  obtain ⟨m, em⟩ : ∃ m, (w 6 2).toNatClampNeg = m := ⟨_, rfl⟩
  have hm := i_clq h2.1
  rw [em] at hm
  rw [em]
  refine pc_bind (pc_copyEv (o := 3) (p := 8 + 3 * m) (Or.inl rfl) (Or.inr (Or.inr (Or.inr ⟨m, by omega, rfl⟩))) (by omega)) (fun v _ hv => ?_)
  obtain ⟨v1, v2, v3, v4⟩ := hv
  have e62 : v 6 2 = w 6 2 := v4 6 2 (by omega)
  have e61 : v 6 1 = w 6 1 := v4 6 1 (by omega)
  rw [e62]
  refine pc_pw ?_
  obtain ⟨y, ey⟩ : ∃ y, y = wu v 6 2 (w 6 2 + 1 - (w 6 2 + 1) / 30 * 30) := ⟨_, rfl⟩
  rw [← ey]
  have y61 : y 6 1 = w 6 1 := by rw [ey, wu_ne (by omega), e61]
  rw [y61]
  have f1 : (w 6 2 + 1).toInt = (w 6 2).toInt + 1 := i_addk tl_1 (by omega) (by omega)
  have f2 : (w 6 2 + 1 - (w 6 2 + 1) / 30 * 30).toInt = (w 6 2 + 1).toInt % (30 : Nat) := i_remk (k := 30) tl_30 (by decide) (by omega)
  have f3 : (w 6 1 + 1).toInt = (w 6 1).toInt + 1 := i_addk tl_1 (by omega) (by omega)
  have V : ∀ (q : Int32) k i, ¬ (k = 6 ∧ (i = 1 ∨ i = 2)) → wu y 6 1 q k i = v k i := fun q k i h => by rw [wu_ne (by omega), ey, wu_ne (by omega)]
  refine pc_pw (pc_some ⟨⟨fun i hi => ?_, fun i hi => ?_, fun i hi => ?_⟩, fun k i k1 k2 => ?_, ?_, ?_⟩)
  · rw [V _ _ _ (by omega)]; exact v1 i hi
  · rw [V _ _ _ (by omega)]; exact v2 i hi
  · rw [V _ _ _ (by omega)]; exact v3 i hi
  · rw [V _ _ _ k2]; exact v4 k i k1
  · rw [wu_ne (by omega), ey, wu_at, f2, f1]
    rfl
  · rw [wu_at]
    by_cases c : (w 6 1).toInt < 30
    · rw [if_pos c, if_neg (show ¬ (30 : Int32) < w 6 1 + 1 by rw [Int32.lt_iff_toInt_lt]; omega), f3]
    · rw [if_neg c, if_pos (show (30 : Int32) < w 6 1 + 1 by rw [Int32.lt_iff_toInt_lt]; omega), tl_30]
theorem rc_rem {b : Nat} (hb : BrO b) {w w' : Mem} (hE : EvC 3 (w' 146) b w) (h6 : (w b 3).toInt ≤ 6) (hP : PaC b w w') : Rc (fun u u' => PaC b u u') (f_X6_remember w) (f_X10_remember w') := by
  have hbb : b = 112 ∨ b = 119 := hb
  intro u u' hu hu'
  obtain ⟨⟨p1, p2⟩, p3, p4, p5⟩ := hP
  obtain ⟨⟨u1, u2, u3⟩, u4, u5, u6⟩ := pc_crem p4 p3 u hu
  obtain ⟨v1, v2, v3, v4⟩ := pc_rrem (by rw [← p2]; exact p4) (by rw [← p1]; exact p3) u' hu'
  rw [← p2] at v1 v2 v3
  rw [← p1] at v4
  obtain ⟨m, em⟩ : ∃ m, (w 6 2).toNatClampNeg = m := ⟨_, rfl⟩
  have hm := i_clq p4.1
  rw [em] at hm u1 u2 u3 u4 v1 v2
  have B : ∀ k i, b ≤ k → k ≤ b + 5 → u k i = w k i := fun k i k1 k2 => u4 k i (by omega) (by omega)
  refine ⟨⟨by rw [i_eq_iff, u6, v4], by rw [i_eq_iff, u5, v3]⟩, ?_, ?_, fun i hi hage => ?_⟩
  · rw [u6]
    by_cases c : (w 6 1).toInt < 30
    · rw [if_pos c]; omega
    · rw [if_neg c]; omega
  · rw [u5]; omega
  · rw [u5] at hage
    by_cases e : i = m
    · rw [e]
      exact evc_mv hE h6 u1 u2 u3 (fun i hi => v1 i hi) (B b 2 (by omega) (by omega)) (B b 3 (by omega) (by omega)) (fun i _ => B (b + 4) i (by omega) (by omega))
    · have hage2 : ((w 6 2).toInt - 1 - i) % 30 < (w 6 1).toInt := by
        rw [u6] at hage
        by_cases c : (w 6 1).toInt < 30
        · rw [if_pos c] at hage; omega
        · rw [if_neg c] at hage; omega
      exact evc_mv (p5 i hi hage2) h6 (fun j _ => u4 _ j (by omega) (by omega)) (fun j _ => u4 _ j (by omega) (by omega)) (fun j _ => u4 _ j (by omega) (by omega)) (fun j hj => v2 (25 * i + j) (by omega)) (B b 2 (by omega) (by omega)) (B b 3 (by omega) (by omega)) (fun j _ => B (b + 4) j (by omega) (by omega))
