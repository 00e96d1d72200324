/-! a new bridge -/
theorem pc_beginE {y : Mem} : Pc (fun z => (z 3 0 = 0 ∧ z 3 1 = 0 ∧ z 3 2 = 0 ∧ z 3 3 = if 0 < y (brp (y 0 8)) 2 then 1 else 0) ∧ (z 3 4 = -1 ∧ z 3 5 = 0 ∧ z 3 6 = -1 ∧ z 3 7 = AllI (y (brp (y 0 8)) 3) ∧ z 3 8 = 0 ∧ z 3 9 = 0) ∧ ∀ i : Nat, i < 6 → z 4 i = 0 ∧ z 5 i = 0) (f_X9_beginBridge y) := by
  have hbb : brp (y 0 8) = 112 ∨ brp (y 0 8) = 119 := brp_or _
  unfold f_X9_beginBridge f_X6_forget f_X2_forget_106 f_X2_forget_109
  simp only [bind_eta1]
  refine pc_bind (Q := fun z => (z 3 0 = 0 ∧ z 3 1 = 0 ∧ z 3 2 = 0 ∧ z 3 3 = if 0 < y (brp (y 0 8)) 2 then 1 else 0) ∧ (z 3 4 = -1 ∧ z 3 5 = 0 ∧ z 3 6 = -1 ∧ z 3 7 = AllI (y (brp (y 0 8)) 3) ∧ z 3 8 = 0 ∧ z 3 9 = 0) ∧ ∀ i : Nat, i < 6 → z 4 i = 0 ∧ z 5 i = 0) ?_ (fun w1 _ h1 => ?_)
  · unfold f_X3_begin
    simp only [bind_eta1]
    refine pc_pw (pc_pw (pc_pw ?_))
    obtain ⟨x, ex⟩ : ∃ x, x = wu (wu (wu y 3 0 0) 3 1 0) 3 2 0 := ⟨_, rfl⟩
    rw [← ex]
    have X : ∀ k i, ¬ (k = 3 ∧ i ≤ 2) → x k i = y k i := fun k i h => by rw [ex, wu_ne (by omega), wu_ne (by omega), wu_ne (by omega)]
    have X0 : x 3 0 = 0 := by rw [ex, wu_ne (by omega), wu_ne (by omega), wu_at]
    have X1 : x 3 1 = 0 := by rw [ex, wu_ne (by omega), wu_at]
    have X2 : x 3 2 = 0 := by rw [ex, wu_at]
    rw [X (brp (y 0 8)) 2 (by omega)]
    refine pc_bind (Q := fun v => v = if 0 < y (brp (y 0 8)) 2 then 1 else 0) (pc_ite (fun c => pc_some (by rw [if_pos c])) (fun c => pc_some (by rw [if_neg c]))) (fun v4 _ h4 => pc_pw ?_)
    refine pc_mono (pc_gather (brp_ok _)) (fun z _ hz => ?_)
    obtain ⟨z1, z2, z3, z4⟩ := hz
    have e3 : wu x 3 3 v4 (brp (y 0 8)) 3 = y (brp (y 0 8)) 3 := by rw [wu_ne (by omega), X _ 3 (by omega)]
    rw [e3] at z1
    refine ⟨⟨?_, ?_, ?_, ?_⟩, z1, z2⟩
    · rw [z4 0 (by omega), wu_ne (by omega), X0]
    · rw [z4 1 (by omega), wu_ne (by omega), X1]
    · rw [z4 2 (by omega), wu_ne (by omega), X2]
    · rw [z4 3 (by omega), wu_at, h4]
  · refine pc_bind (Q := fun v => v = wu w1 6 1 0) (pc_pw (pc_some rfl)) (fun w2 _ h2 => ?_)
    refine pc_bind (Q := fun v => v = wu w2 106 2 0) (pc_pw (pc_some rfl)) (fun w3 _ h3 => ?_)
    refine pc_bind (Q := fun v => v = wu w3 109 2 0) (pc_pw (pc_some rfl)) (fun w4 _ h4 => ?_)
    have W : ∀ k i, 3 ≤ k → k ≤ 5 → w4 k i = w1 k i := fun k i k1 k2 => by rw [h4, wu_ne (by omega), h3, wu_ne (by omega), h2, wu_ne (by omega)]
    refine pc_mono (Q := fun z => ∀ k i, 3 ≤ k → k ≤ 5 → z k i = w4 k i) (pc_lp (fun (s : Int32 × Mem) => ∀ k i, 3 ≤ k → k ≤ 5 → s.2 k i = w4 k i) ?_ _ _ (fun k i _ _ => rfl)) (fun z _ hz => ?_)
    · intro s hs
      refine pc_ite (fun c => pc_ri (fun _ => pc_pw (pc_some ?_))) (fun c => pc_some hs)
      intro k i k1 k2
      dsimp only
      rw [wu_ne (by omega)]
      exact hs k i k1 k2
    · have Z : ∀ k i, 3 ≤ k → k ≤ 5 → z k i = w1 k i := fun k i k1 k2 => by rw [hz k i k1 k2, W k i k1 k2]
      rw [Z 3 0 (by omega) (by omega), Z 3 1 (by omega) (by omega), Z 3 2 (by omega) (by omega), Z 3 3 (by omega) (by omega), Z 3 4 (by omega) (by omega), Z 3 5 (by omega) (by omega), Z 3 6 (by omega) (by omega), Z 3 7 (by omega) (by omega), Z 3 8 (by omega) (by omega), Z 3 9 (by omega) (by omega)]
      exact ⟨h1.1, h1.2.1, fun i hi => by rw [Z 4 i (by omega) (by omega), Z 5 i (by omega) (by omega)]; exact h1.2.2 i hi⟩
theorem pc_cbridge2 {w : Mem} : Pc (fun q => ∃ v, f_X7_readInto (brp (w 0 9)) w = some v ∧ (¬ v 1 3 = 0 ∨ (v 1 3 = 0 ∧ ∃ y, f_X9_beginBridge y = some q.2 ∧ brp (y 0 8) = brp (v 0 9)))) (f_X9_bridge w) := by
  unfold f_X9_bridge
  refine pc_bind (Q := fun v => f_X7_readInto (brp (w 0 9)) w = some v) (fun v h => h) (fun v _ hv => ?_)
  refine pc_bind (Q := fun u => u = wu v 1 1 0) (by unfold f_X7_empty; exact pc_pw (pc_some rfl)) (fun u _ hu => ?_)
  refine pc_pw ?_
  obtain ⟨x, ex⟩ : ∃ x, x = wu u 0 11 (u 1 4) := ⟨_, rfl⟩
  rw [← ex]
  have X : ∀ k i, ¬ (k = 1 ∧ i = 1) → ¬ (k = 0 ∧ i = 11) → x k i = v k i := by
    intro k i h1 h2
    rw [ex, wu_ne h2, hu, wu_ne h1]
  by_cases c : x 1 3 = 0
  · rw [if_pos c]
    refine pc_pr (fun h8 => pc_pr (fun h9 => ?_))
    refine pc_bind (Q := fun z => f_X9_beginBridge (wu (wu x 0 8 (if brp (x 0 9) = 112 then 0 else 1)) 0 9 (if brp (x 0 8) = 112 then 0 else 1)) = some z) (fun z h => h) (fun z _ hz => pc_some ⟨v, hv, Or.inr ⟨by rw [← X 1 3 (by omega) (by omega)]; exact c, _, hz, ?_⟩⟩)
    rw [wu_ne (by omega), wu_at, brp_if h8, X 0 9 (by omega) (by omega)]
  · rw [if_neg c]
    exact pc_some ⟨v, hv, Or.inl (by rw [← X 1 3 (by omega) (by omega)]; exact c)⟩
theorem rc_bridgeE {w w' : Mem} (h : SimE w w') (hc : ∀ r, f_X10_readsBridge w' = some r → (0 ≤ (r.2 134 8).toInt ∧ (r.2 134 8).toInt ≤ 8) ∧ (0 ≤ (r.2 134 9).toInt ∧ (r.2 134 9).toInt ≤ 6)) : Rc (fun q q2 => q.1 = q2.1 ∧ SimE q.2 q2.2) (f_X9_bridge w) (f_X10_bridge w') := by
  intro q q2 hq hq2
  obtain ⟨k1, k2⟩ := rc_bridge h.1 hc q q2 hq hq2
  refine ⟨k1, ?_⟩
  obtain ⟨A, e, p, m, d⟩ := h
  have t0 := tl_0
  have hb8 : brp (w 0 8) = 112 ∨ brp (w 0 8) = 119 := brp_or _
  have hb9 : brp (w 0 9) = 112 ∨ brp (w 0 9) = 119 := brp_or _
  have hne := A.2.2.1
  have h6 : (w (brp (w 0 8)) 3).toInt ≤ 6 := A.2.1.2.2.1.2.2
  have fq := fr_X9_bridge w q hq
  have fq2 := fr_X10_bridge w' q2 hq2
  have hdr : DrC (q.2 0 10) (q2.2 134 28) := by rw [fq 0 10 (by omega), fq2 134 28 (by omega)]; exact d
  obtain ⟨v, hv, hV⟩ := pc_cbridge q hq
  obtain ⟨v2, hv2, hV2⟩ := pc_cbridge2 q hq
  rw [hv] at hv2
  have ev2 : v = v2 := Option.some.inj hv2
  rw [← ev2] at hV2
  obtain ⟨r, hr, hR⟩ := pc_rbridge hc q2 hq2
  have fv := fr_X7_readInto _ (brp_ok _) w v hv
  have fr := fr_X10_readsBridge w' r hr
  rcases rc_read (brp_ok _) A.1 v r hv hr with ⟨r1, v0, hN, hD, hS⟩ | ⟨r1, hB⟩
  · have hS2 := pc_settle (brp_ok _) hD.2.2.1.1 hD.2.2.1.2 v hS
    have v13 : v 1 3 = 0 := by rw [hS2.1 1 3 (by omega) (by omega) (by omega)]; exact hN.1
    rcases hV with ⟨n, _⟩ | ⟨_, g⟩
    · exact absurd v13 n
    rcases hV2 with n | ⟨_, y, hy, hy8⟩
    · exact absurd v13 n
    rcases hR with ⟨n, _⟩ | ⟨_, k⟩
    · rw [r1] at n; exact absurd n (by decide)
    obtain ⟨g1, g8, g9, g11, gf, gc, ge1, ge2, gi1, gi2, g6⟩ := g
    obtain ⟨z1, z0, z5, ⟨z15, z16, z17, z18⟩, km, kn, ⟨z25, z34, z37, kk0, kk1⟩, ⟨n4, n6, n3⟩, nz⟩ := k
    obtain ⟨c1, c2, c3⟩ := pc_beginE q.2 hy
    have fy := fr_X9_beginBridge y q.2 hy
    obtain ⟨bb, ebb⟩ : ∃ bb, bb = brp (q.2 0 8) := ⟨_, rfl⟩
    have hbq : bb = 112 ∨ bb = 119 := by rw [ebb]; exact brp_or _
    have eyb : brp (y 0 8) = bb := by rw [hy8, ebb, g8]
    rw [eyb] at c1 c2
    have yb2 : y bb 2 = q.2 bb 2 := (fy bb 2 (by omega)).symm
    have yb3 : y bb 3 = q.2 bb 3 := (fy bb 3 (by omega)).symm
    rw [yb2] at c1
    rw [yb3] at c2
    have hBq := k2.2.1
    rw [← ebb] at hBq
    have b3 := hBq.2.2.1
    have e17 : q.2 bb 2 = q2.2 134 17 := hBq.1.2.2.1
    refine ⟨k2, ?_, ?_, ?_, hdr⟩
    · rw [← ebb]
      refine evc_new b3.2 (fun t ht => (hBq.2.2.2.2 t ht).2.2.1) b3.1.1 ⟨?_, ?_, ?_, ?_⟩ ⟨?_, ?_, ?_⟩ c2 c3 ⟨n4, nz 5 (by omega) (by omega) (by omega) (by omega), n6⟩ (fun t ht => ⟨nz (7 + t) (by omega) (by omega) (by omega) (by omega), nz (13 + t) (by omega) (by omega) (by omega) (by omega), nz (19 + t) (by omega) (by omega) (by omega) (by omega)⟩)
      · rw [c1.1, nz 0 (by omega) (by omega) (by omega) (by omega)]
      · rw [c1.2.1, nz 1 (by omega) (by omega) (by omega) (by omega)]
      · rw [c1.2.2.1, nz 2 (by omega) (by omega) (by omega) (by omega)]
      · rw [c1.2.2.2, n3, ← z17, ← e17]
      · rw [nz 1 (by omega) (by omega) (by omega) (by omega), t0]; omega
      · rw [nz 2 (by omega) (by omega) (by omega) (by omega), t0]; omega
      · rw [n3, ← z17, ← e17]
        have pz := Nat.two_pow_pos (q.2 bb 2).toInt.toNat
        by_cases cm : 0 < q.2 bb 2
        · rw [if_pos cm, tl_1]
          rw [Int32.lt_iff_toInt_lt, t0] at cm
          have p1 : 2 ^ 1 ≤ 2 ^ (q.2 bb 2).toInt.toNat := Nat.pow_le_pow_right (by decide) (by omega)
          omega
        · rw [if_neg cm, t0]
          omega
    · exact pac_0 g6 z25 (by rw [fq 6 2 (by omega), fq2 134 26 (by omega)]; exact p.1.2) (by rw [fq 6 2 (by omega)]; exact p.2.2.1)
    · exact ⟨fun hk => absurd gi1 hk, fun hk => absurd gi2 hk⟩
  · rcases hV with ⟨_, g1, g2⟩ | ⟨n, _⟩
    · rcases hR with ⟨_, z1, z2⟩ | ⟨n, _⟩
      · have L : ∀ k i, ¬ (brp (w 0 9) ≤ k ∧ k ≤ brp (w 0 9) + 6) → ¬ (k = 1 ∧ 1 ≤ i ∧ i ≤ 4) → ¬ (k = 0 ∧ i = 11) → q.2 k i = w k i := by
          intro k i h1 h2 h3
          rw [g2, wu_ne h3, wu_ne (by omega), fv k i (by omega)]
        have R : ∀ k i, ¬ (k = 134 ∧ i ≤ 9) → ¬ (136 ≤ k ∧ k ≤ 140) → q2.2 k i = w' k i := by
          intro k i h1 h2
          rw [z2, wu_ne (by omega), wu_ne (by omega), fr k i (by omega)]
        have e8 : q.2 0 8 = w 0 8 := L 0 8 (by omega) (by omega) (by omega)
        have B : ∀ k i, brp (w 0 8) ≤ k → k ≤ brp (w 0 8) + 5 → q.2 k i = w k i := fun k i k1 k2 => L k i (by omega) (by omega) (by omega)
        refine ⟨k2, ?_, ?_, ?_, hdr⟩
        · rw [e8]
          exact evc_mv e h6 (fun j _ => L _ j (by omega) (by omega) (by omega)) (fun j _ => L _ j (by omega) (by omega) (by omega)) (fun j _ => L _ j (by omega) (by omega) (by omega)) (fun j _ => R _ _ (by omega) (by omega)) (B _ 2 (by omega) (by omega)) (B _ 3 (by omega) (by omega)) (fun j _ => B _ j (by omega) (by omega))
        · rw [e8]
          exact pac_of p h6 (L _ _ (by omega) (by omega) (by omega)) (L _ _ (by omega) (by omega) (by omega)) (fun k i k1 k2 => L k i (by omega) (by omega) (by omega)) (R _ _ (by omega) (by omega)) (R _ _ (by omega) (by omega)) (fun i => R _ _ (by omega) (by omega)) (B _ 2 (by omega) (by omega)) (B _ 3 (by omega) (by omega)) (fun j => B _ j (by omega) (by omega))
        · rw [e8]
          exact imc_of m h6 (fun k i k1 k2 => L k i (by omega) (by omega) (by omega)) (fun i => R _ _ (by omega) (by omega)) (fun i => R _ _ (by omega) (by omega)) (B _ 2 (by omega) (by omega)) (B _ 3 (by omega) (by omega)) (fun j => B _ j (by omega) (by omega))
      · exact absurd r1 n
    · exact absurd n hB.2.1
