theorem rc_goBackE {w w' : Mem} {a : Int32} (h : SimE w w') : Rc (fun q q2 => q.1 = q2.1 ∧ SimE q.2 q2.2) (f_X9_goBack a w) (f_X10_goBack a w') := by
  have hsim := h
  obtain ⟨A, e, p, m, d⟩ := h
  have hb : brp (w 0 8) = 112 ∨ brp (w 0 8) = 119 := brp_or _
  have h6 : (w (brp (w 0 8)) 3).toInt ≤ 6 := A.2.1.2.2.1.2.2
  obtain ⟨f1, f2⟩ := A.2.2.2.2.2
  have t0 := tl_0
  have t1 := tl_1
  have t2 := tl_2
  unfold f_X9_goBack f_X10_goBack
  refine rcr_bind pc_in (fun r _ hr => ?_)
  refine rcl_ite (fun c => ?_) (fun c => rcl_ite (fun c2 => ?_) (fun c2 => ?_))
  · rw [Int32.lt_iff_toInt_lt] at c
    rw [if_pos (in_0 hr (by omega))]
    exact rc_some ⟨rfl, hsim⟩
  · rw [Int32.lt_iff_toInt_lt] at c c2
    rw [if_neg (in_1 hr (by omega))]
    refine rcl_ri (fun _ => rcr_rd (fun _ => ?_))
    obtain ⟨n, en⟩ : ∃ n, a.toNatClampNeg = n := ⟨_, rfl⟩
    have hn := i_clq (i := a) (by omega)
    rw [en] at hn
    rw [en]
    have hk : w (126 + 4 * n) 2 = w' 154 n := by
      rcases (by omega : n = 0 ∨ n = 1) with q | q
      · rw [q]; exact f1
      · rw [q]; exact f2
    have hI : ¬ w (126 + 4 * n) 2 = 0 → EvC (126 + 4 * n + 1) (fun k => w' 155 (25 * n + k)) (brp (w 0 8)) w ∧ DrC (w (126 + 4 * n) 1) (w' 156 n) := by
      rcases (by omega : n = 0 ∨ n = 1) with q | q
      · rw [q]
        intro hz
        obtain ⟨g1, g2⟩ := m.1 hz
        refine ⟨?_, g2⟩
        have : (fun k => w' 155 (25 * 0 + k)) = (fun k => w' 155 k) := by
          funext k
          rw [show 25 * 0 + k = k by omega]
        rw [this]
        exact g1
      · rw [q]
        intro hz
        exact m.2 hz
    rw [← hk]
    by_cases c3 : w (126 + 4 * n) 2 = 0
    · rw [if_pos c3, if_pos c3]
      exact rc_some ⟨rfl, hsim⟩
    · rw [if_neg c3, if_neg c3]
      obtain ⟨g1, g2⟩ := hI c3
      obtain ⟨o, eo⟩ : ∃ o, o = 126 + 4 * n := ⟨_, rfl⟩
      rw [← eo] at g1 g2
      rw [← eo]
      have ho : o = 126 ∨ o = 130 := by omega
      refine rcl_bind (pc_copyEv (o := o + 1) (p := 3) (ev_im ho) (Or.inl rfl) (by omega)) (fun v _ hv => ?_)
      obtain ⟨v1, v2, v3, v4⟩ := hv
      refine rcl_pw ?_
      refine rcl_bind (Q := fun u => u = wu (wu v 0 10 (v o 1)) 6 1 0) (by unfold f_X6_forget; exact pc_pw (pc_some rfl)) (fun u _ hu => ?_)
      refine rcr_rdl (fun _ => rcr_pl (fun _ => rcr_pw ?_))
      rw [en, Int32.toInt32_toInt64]
      obtain ⟨y, ey⟩ : ∃ y, y = wu (wu w' 134 28 (w' 156 n)) 134 25 0 := ⟨_, rfl⟩
      rw [← ey]
      have Y : ∀ k i, ¬ (k = 134 ∧ (i = 25 ∨ i = 28)) → y k i = w' k i := fun k i q => by rw [ey, wu_ne (by omega), wu_ne (by omega)]
      have Y28 : y 134 28 = w' 156 n := by rw [ey, wu_ne (by omega), wu_at]
      have Y25 : y 134 25 = 0 := by rw [ey, wu_at]
      have z1 : ((25 : Int32) * a).toInt = 25 * a.toInt := i_mulkl tl_25 (by omega) (by omega)
      have z2 := i_clq (i := (25 : Int32) * a) (by omega)
      have z3 : ((25 : Int32) * a).toNatClampNeg = 25 * n := by omega
      refine rcr_bind (pc_crow (w' := y) (src := 155) (base := (25 : Int32) * a) (by omega) (by omega) (fun _ => (25 : Int32) * a) (fun v hv => rfl) _) (fun u' _ hu' => rc_some ⟨rfl, ?_⟩)
      obtain ⟨b1, b2⟩ := hu'
      rw [z3] at b2
      dsimp only
      have U : ∀ k i, ¬ (3 ≤ k ∧ k ≤ 5) → ¬ (k = 0 ∧ i = 10) → ¬ (k = 6 ∧ i = 1) → u k i = w k i := fun k i q1 q2 q3 => by rw [hu, wu_ne q3, wu_ne q2, v4 k i (by omega)]
      have U3 : ∀ k i, 3 ≤ k → k ≤ 5 → u k i = v k i := fun k i q1 q2 => by rw [hu, wu_ne (by omega), wu_ne (by omega)]
      have U' : ∀ k i, ¬ k = 146 → ¬ (k = 134 ∧ (i = 25 ∨ i = 28)) → u' k i = w' k i := fun k i q1 q2 => by rw [b1 k i q1, Y k i q2]
      have e8 : u 0 8 = w 0 8 := U 0 8 (by omega) (by omega) (by omega)
      have B2 : u (brp (w 0 8)) 2 = w (brp (w 0 8)) 2 := U _ _ (by omega) (by omega) (by omega)
      have B3 : u (brp (w 0 8)) 3 = w (brp (w 0 8)) 3 := U _ _ (by omega) (by omega) (by omega)
      have B4 : ∀ j, u (brp (w 0 8) + 4) j = w (brp (w 0 8) + 4) j := fun j => U _ _ (by omega) (by omega) (by omega)
      refine ⟨simb_of A (fun k i q => U k i (by omega) (by omega) (by omega)) (fun k i q => U' k i (by omega) (by omega)), ?_, ?_, ?_, ?_⟩
      · rw [e8]
        exact evc_mv g1 h6 (fun i hi => by rw [U3 3 i (by omega) (by omega)]; exact v1 i hi) (fun i hi => (U3 4 i (by omega) (by omega)).trans (v2 i hi)) (fun i hi => (U3 5 i (by omega) (by omega)).trans (v3 i hi)) (fun i hi => by rw [b2 i hi, Y 155 _ (by omega)]) B2 B3 (fun j _ => B4 j)
      · exact pac_0 (by rw [hu, wu_at]) (by rw [b1 134 25 (by omega), Y25]) (by rw [U 6 2 (by omega) (by omega) (by omega), U' 134 26 (by omega) (by omega)]; exact p.1.2) (by rw [U 6 2 (by omega) (by omega) (by omega)]; exact p.2.2.1)
      · rw [e8]
        exact imc_of m h6 (fun k i k1 k2 => U k i (by omega) (by omega) (by omega)) (fun i => U' _ _ (by omega) (by omega)) (fun i => U' _ _ (by omega) (by omega)) B2 B3 B4
      · rw [hu, wu_ne (by omega), wu_at, v4 o 1 (by omega), b1 134 28 (by omega), Y28]
        exact g2
  · rw [Int32.lt_iff_toInt_lt] at c c2
    rw [if_pos (in_0 hr (by omega))]
    exact rc_some ⟨rfl, hsim⟩
/-! judge -/
theorem eq_judge {w w' : Mem} (h : SimE w w') (hc : (w 109 2).toInt ≤ 20) : Rc (fun x y => x = y) (f_X9_judge w) (f_X10_judge w') := by
  obtain ⟨A, e, p, m, d⟩ := h
  have t0 := tl_0
  have t6 := tl_6
  obtain ⟨E1, E2, E3⟩ := A.2.2.2.2.1.2
  have en : w (brp (w 0 8)) 3 = w' 134 18 := A.2.1.1.2.2.2
  have h6 : (w (brp (w 0 8)) 3).toInt ≤ 6 := A.2.1.2.2.1.2.2
  unfold f_X9_judge f_X2_firstWrong_109 f_X10_judge
  simp only [bind_eta1]
  rw [← E1]
  refine rc_lp (fun (s s2 : Int32) => s = s2 ∧ 0 ≤ s.toInt ∧ s.toInt ≤ 20) ?_ _ _ _ _ ⟨rfl, by omega, by omega⟩
  intro s s2 hX
  obtain ⟨rfl, x1, x2⟩ := hX
  by_cases c : s < w 109 2
  · rw [if_pos c, if_pos c]
    rw [Int32.lt_iff_toInt_lt] at c
    obtain ⟨j, ej⟩ : ∃ j, s.toNatClampNeg = j := ⟨_, rfl⟩
    have hj := i_clq x1
    rw [ej] at hj
    obtain ⟨⟨F1, F2⟩, F3, F4⟩ := E3 j (by omega)
    have F1' : w 110 j = w' 152 j := F1
    have F2' : w 111 j = w' 153 j := F2
    have F3' : 0 ≤ (w' 152 j).toInt := by rw [← F1']; exact F3
    have F4' : (w' 152 j).toInt < (w (brp (w 0 8)) 3).toInt := by rw [en, ← F1']; exact F4
    have ea : (s + 1).toInt = s.toInt + 1 := i_addk tl_1 (by omega) (by omega)
    refine rcl_rd (fun _ => rcr_rd (fun _ => ?_))
    rw [ej, F1', if_neg (show ¬ w' 152 j < 0 by rw [Int32.lt_iff_toInt_lt]; omega), if_pos (show w' 152 j < 6 by rw [Int32.lt_iff_toInt_lt]; omega)]
    obtain ⟨t, et⟩ : ∃ t, (w' 152 j).toNatClampNeg = t := ⟨_, rfl⟩
    have ht := i_clq F3'
    rw [et] at ht
    have i13 : ((13 : Int32) + w' 152 j).toNatClampNeg = 13 + t := by rw [ix (d := 13) tl_13 (by omega) F3' (by omega), et]
    refine rcl_rd (fun _ => rcl_rd (fun _ => rcr_rd (fun _ => rcr_rd (fun _ => ?_))))
    rw [et, ej, i13, F2']
    have hs : w 5 t = w' 146 (13 + t) := (e.2.2.2.2 t (by omega)).1.2
    rw [hs]
    by_cases cz : w' 146 (13 + t) = w' 153 j
    · rw [if_pos cz]
      exact rc_some ⟨rfl, by omega, by omega⟩
    · rw [if_neg cz]
      exact rc_some rfl
  · rw [if_neg c, if_neg c]
    exact rc_some rfl
