/-! seed, keep, goBack -/
theorem rc_seed {w w' : Mem} {v : Int32} (h : SimE w w') : Rc (fun q q2 => q.1 = q2.1 ∧ SimE q.2 q2.2) (f_X9_seed v w) (f_X10_seed v w') := by
  have hsim := h
  obtain ⟨a, e, p, m, d⟩ := h
  have hb : brp (w 0 8) = 112 ∨ brp (w 0 8) = 119 := brp_or _
  have h6 : (w (brp (w 0 8)) 3).toInt ≤ 6 := a.2.1.2.2.1.2.2
  unfold f_X9_seed f_X10_seed
  by_cases c : v < 0
  · rw [if_pos c, if_pos c]
    exact rc_some ⟨rfl, hsim⟩
  · rw [if_neg c, if_neg c]
    refine rcl_pw (rcr_lt (rcr_pl (fun _ => rc_some ⟨?_, ?_⟩)))
    · show w 0 10 = ((w' 134 28).toInt64).toInt32
      rw [Int32.toInt32_toInt64, d.1]
    · dsimp only
      rw [Int32.toInt32_toInt64]
      have L : ∀ k i, ¬ (k = 0 ∧ i = 10) → wu w 0 10 v k i = w k i := fun k i h => wu_ne h
      have R : ∀ k i, ¬ (k = 134 ∧ i = 28) → wu w' 134 28 v k i = w' k i := fun k i h => wu_ne h
      have e8 : wu w 0 10 v 0 8 = w 0 8 := L 0 8 (by omega)
      refine ⟨simb_of a (fun k i h => L k i (by omega)) (fun k i h => R k i (by omega)), ?_, ?_, ?_, ?_⟩
      · rw [e8]
        exact evc_mv e h6 (fun j _ => L _ j (by omega)) (fun j _ => L _ j (by omega)) (fun j _ => L _ j (by omega)) (fun j _ => R _ _ (by omega)) (L _ _ (by omega)) (L _ _ (by omega)) (fun j _ => L _ j (by omega))
      · rw [e8]
        exact pac_of p h6 (L _ _ (by omega)) (L _ _ (by omega)) (fun k i k1 k2 => L k i (by omega)) (R _ _ (by omega)) (R _ _ (by omega)) (fun i => R _ _ (by omega)) (L _ _ (by omega)) (L _ _ (by omega)) (fun j => L _ j (by omega))
      · rw [e8]
        exact imc_of m h6 (fun k i k1 k2 => L k i (by omega)) (fun i => R _ _ (by omega)) (fun i => R _ _ (by omega)) (L _ _ (by omega)) (L _ _ (by omega)) (fun j => L _ j (by omega))
      · rw [wu_at, wu_at]
        rw [Int32.lt_iff_toInt_lt, tl_0] at c
        exact ⟨rfl, by omega⟩
theorem pac_0 {b : Nat} {w w' : Mem} (h1 : w 6 1 = 0) (h2 : w' 134 25 = 0) (h3 : w 6 2 = w' 134 26) (h4 : 0 ≤ (w 6 2).toInt ∧ (w 6 2).toInt ≤ 29) : PaC b w w' := by
  have t0 := tl_0
  refine ⟨⟨by rw [h1, h2], h3⟩, by rw [h1, t0]; omega, h4, fun i hi ha => ?_⟩
  rw [h1, t0] at ha
  omega
theorem pc_ckeepE {a : Int32} {w : Mem} (h0 : 0 ≤ a.toInt) (h1 : a.toInt < 2) : Pc (fun q => (∀ i, i < 10 → q.2 (126 + 4 * a.toNatClampNeg + 1) i = w 3 i) ∧ (∀ i, i < 6 → q.2 (126 + 4 * a.toNatClampNeg + 1 + 1) i = w 4 i) ∧ (∀ i, i < 6 → q.2 (126 + 4 * a.toNatClampNeg + 1 + 2) i = w 5 i) ∧ q.2 (126 + 4 * a.toNatClampNeg) 1 = w 0 10 ∧ q.2 6 1 = 0 ∧ ∀ k i, ¬ (126 + 4 * a.toNatClampNeg ≤ k ∧ k ≤ 126 + 4 * a.toNatClampNeg + 3) → ¬ (k = 6 ∧ i = 1) → q.2 k i = w k i) (f_X9_keep a w) := by
  unfold f_X9_keep
  have t0 := tl_0
  have t2 := tl_2
  rw [if_neg (show ¬ a < 0 by rw [Int32.lt_iff_toInt_lt]; omega), if_pos (show a < 2 by rw [Int32.lt_iff_toInt_lt]; omega)]
  refine pc_ri (fun _ => ?_)
  obtain ⟨o, eo⟩ : ∃ o, o = 126 + 4 * a.toNatClampNeg := ⟨_, rfl⟩
  rw [← eo]
  have hcl := i_clq h0
  have ho : o = 126 ∨ o = 130 := by omega
  refine pc_bind (pc_copyEv (o := 3) (p := o + 1) (Or.inl rfl) (ev_im ho) (by omega)) (fun v _ hv => ?_)
  obtain ⟨v1, v2, v3, v4⟩ := hv
  refine pc_pw (pc_pw ?_)
  refine pc_bind (Q := fun u => u = wu (wu (wu v o 1 (v 0 10)) o 2 1) 6 1 0) (by unfold f_X6_forget; exact pc_pw (pc_some rfl)) (fun u _ hu => pc_some ?_)
  have U : ∀ k i, ¬ (k = o ∧ (i = 1 ∨ i = 2)) → ¬ (k = 6 ∧ i = 1) → u k i = v k i := fun k i q1 q2 => by rw [hu, wu_ne q2, wu_ne (by omega), wu_ne (by omega)]
  dsimp only
  refine ⟨fun i hi => ?_, fun i hi => ?_, fun i hi => ?_, ?_, ?_, fun k i q1 q2 => ?_⟩
  · rw [U _ _ (by omega) (by omega)]; exact v1 i hi
  · rw [U _ _ (by omega) (by omega)]; exact v2 i hi
  · rw [U _ _ (by omega) (by omega)]; exact v3 i hi
  · rw [hu, wu_ne (by omega), wu_ne (by omega), wu_at, v4 0 10 (by omega)]
  · rw [hu, wu_at]
  · rw [U k i (by omega) q2]
    exact v4 k i (by omega)
theorem pc_rkeepE {a : Int32} {w' : Mem} (h0 : 0 ≤ a.toInt) (h1 : a.toInt < 2) : Pc (fun q => (∀ i : Nat, i < 25 → q.2 155 (25 * a.toNatClampNeg + i) = w' 146 i) ∧ (∀ i : Nat, ¬ (25 * a.toNatClampNeg ≤ i ∧ i < 25 * a.toNatClampNeg + 25) → q.2 155 i = w' 155 i) ∧ q.2 156 a.toNatClampNeg = w' 134 28 ∧ (∀ i : Nat, ¬ i = a.toNatClampNeg → q.2 156 i = w' 156 i) ∧ q.2 134 25 = 0) (f_X10_keep a w') := by
  unfold f_X10_keep
  have t0 := tl_0
  have t1 := tl_1
  have t25 := tl_25
  refine pc_bind pc_in (fun r _ hr => ?_)
  rw [if_neg (in_1 hr (by omega))]
  obtain ⟨m, em⟩ : ∃ m, a.toNatClampNeg = m := ⟨_, rfl⟩
  have hm := i_clq h0
  rw [em] at hm
  refine pc_wr (fun _ => pc_wrl (fun _ => pc_pw ?_))
  rw [em, Int32.toInt32_toInt64]
  obtain ⟨x, ex⟩ : ∃ x, x = wu (wu (wu w' 154 m 1) 156 m (wu w' 154 m 1 134 28)) 134 25 0 := ⟨_, rfl⟩
  rw [← ex]
  have X : ∀ k i, ¬ k = 154 → ¬ (k = 156 ∧ i = m) → ¬ (k = 134 ∧ i = 25) → x k i = w' k i := fun k i q1 q2 q3 => by rw [ex, wu_ne q3, wu_ne q2, wu_ne (by omega)]
  have X156 : x 156 m = w' 134 28 := by rw [ex, wu_ne (by omega), wu_at, wu_ne (by omega)]
  have X25 : x 134 25 = 0 := by rw [ex, wu_at]
  have g1 : ((25 : Int32) * a).toInt = 25 * a.toInt := i_mulkl tl_25 (by omega) (by omega)
  refine pc_bind (Q := fun v => (∀ k i, ¬ k = 155 → v k i = x k i) ∧ (∀ i : Nat, i < 25 → v 155 (25 * m + i) = x 146 i) ∧ (∀ i : Nat, ¬ (25 * m ≤ i ∧ i < 25 * m + 25) → v 155 i = x 155 i)) (pc_lp (fun (s : Int32 × Mem) => (0 ≤ s.1.toInt ∧ s.1.toInt ≤ 25) ∧ (∀ k i, ¬ k = 155 → s.2 k i = x k i) ∧ (∀ i : Nat, (i : Int) < s.1.toInt → s.2 155 (25 * m + i) = x 146 i) ∧ (∀ i : Nat, ¬ (25 * m ≤ i ∧ i < 25 * m + 25) → s.2 155 i = x 155 i)) ?_ _ _ ⟨by show 0 ≤ (0 : Int32).toInt ∧ (0 : Int32).toInt ≤ 25; omega, fun _ _ _ => rfl, fun i hi => by have h' : (i : Int) < (0 : Int32).toInt := hi; omega, fun _ _ => rfl⟩) (fun v _ hv => pc_some ?_)
  · intro s hX
    obtain ⟨x1, x2, x3, x4⟩ := hX
    refine pc_ite (fun c => ?_) (fun c => pc_some ?_)
    · rw [Int32.lt_iff_toInt_lt] at c
      have ea : (s.1 + 1).toInt = s.1.toInt + 1 := i_addk tl_1 (by omega) (by omega)
      obtain ⟨j, ej⟩ : ∃ j, s.1.toNatClampNeg = j := ⟨_, rfl⟩
      have hj := i_clq x1.1
      rw [ej] at hj
      have e2 : ((25 : Int32) * a + s.1).toInt = ((25 : Int32) * a).toInt + s.1.toInt := i_add (by omega) (by omega)
      have e3 := i_clq (i := (25 : Int32) * a + s.1) (by omega)
      have e4 : ((25 : Int32) * a + s.1).toNatClampNeg = 25 * m + j := by omega
      refine pc_rd (fun _ => pc_wr (fun _ => pc_some ?_))
      rw [e4, ej, x2 146 j (by omega)]
      refine ⟨by show 0 ≤ (s.1 + 1).toInt ∧ (s.1 + 1).toInt ≤ 25; omega, fun k i h => ?_, fun i hi => ?_, fun i hi => ?_⟩
      · dsimp only
        rw [wu_ne (by omega)]
        exact x2 k i h
      · have hi' : (i : Int) < (s.1 + 1).toInt := hi
        dsimp only
        by_cases e : i = j
        · rw [e, wu_at]
        · rw [wu_ne (by omega)]
          exact x3 i (by omega)
      · dsimp only
        rw [wu_ne (by omega)]
        exact x4 i hi
    · rw [Int32.lt_iff_toInt_lt] at c
      exact ⟨x2, fun i hi => x3 i (by omega), x4⟩
  · obtain ⟨v1, v2, v3⟩ := hv
    dsimp only
    refine ⟨fun i hi => ?_, fun i hi => ?_, ?_, fun i hi => ?_, ?_⟩
    · rw [v2 i hi, X 146 i (by omega) (by omega) (by omega)]
    · rw [v3 i hi, X 155 i (by omega) (by omega) (by omega)]
    · rw [v1 156 m (by omega), X156]
    · rw [v1 156 i (by omega), X 156 i (by omega) (by omega) (by omega)]
    · rw [v1 134 25 (by omega), X25]
