/-! queue, both sides -/
theorem pc_tryO0 {v : Mem} (hl : (v 101 4).toInt = 0) : Pc (fun (u : Mem) => (u 101 5).toInt = 0 ∧ (u 101 6).toInt = 0) (f_X5_tryOrders v) := by
  have t0 := tl_0
  have t1 := tl_1
  have t2 := tl_2
  have tm := tl_m1
  unfold f_X5_tryOrders
  simp only [bind_eta1]
  refine pc_pw (pc_pw ?_)
  obtain ⟨y, ey⟩ : ∃ y, y = wu (wu v 101 5 (-1)) 101 6 0 := ⟨_, rfl⟩
  rw [← ey]
  have y4 : y 101 4 = v 101 4 := by rw [ey, wu_ne (by omega), wu_ne (by omega)]
  have y5 : y 101 5 = -1 := by rw [ey, wu_ne (by omega), wu_at]
  have y6 : y 101 6 = 0 := by rw [ey, wu_at]
  refine pc_lp (fun (s : Int32 × Int32 × Mem) => (s.2.2 101 4).toInt = 0 ∧ ((s.1 = 1 ∧ s.2.1 = 0 ∧ s.2.2 101 5 = -1) ∨ (s.1 = 0 ∧ (s.2.2 101 5).toInt = 0 ∧ (s.2.2 101 6).toInt = 0))) ?_ _ _ ⟨by show (y 101 4).toInt = 0; rw [y4]; exact hl, Or.inl ⟨rfl, rfl, y5⟩⟩
  intro s hX
  obtain ⟨x0, hX⟩ := hX
  rcases hX with ⟨z, z2, z3⟩ | ⟨z, z2⟩
  · rw [if_pos (show s.2.1 < 720 by rw [z2]; decide), if_neg (show ¬ s.1 = 0 by rw [z]; decide)]
    refine pc_bind (pc_payOf (l := []) (mi := fun _ => 0) (py := fun _ => 0) (pa := fun _ => 0) x0 (by decide) trivial (fun a ha => (by cases ha))) (fun r3 _ h3 => ?_)
    have h3' : r3.toInt = 0 := h3
    rw [if_pos (show s.2.2 101 5 < r3 by rw [Int32.lt_iff_toInt_lt, z3, tm]; omega)]
    refine pc_bind (Q := fun (u : Mem) => (u 101 4).toInt = 0 ∧ (u 101 5).toInt = 0 ∧ (u 101 6).toInt = 0) ?_ (fun u _ hu => ?_)
    · refine pc_pw (pc_bind (pc_figs (l := []) (by rw [wu_ne (by omega)]; exact x0) (by decide) trivial (fun a ha => (by cases ha))) (fun r7 _ h7 => pc_pw (pc_some ⟨?_, ?_, ?_⟩)))
      · rw [wu_ne (by omega), wu_ne (by omega)]; exact x0
      · rw [wu_ne (by omega), wu_at]; exact h3'
      · rw [wu_at]; exact h7
    · refine pc_bind (Q := fun (q : Int32 × Mem) => q = (0, u)) ?_ (fun q _ hq => ?_)
      · unfold f_X5_nextOrder
        have e1 : (u 101 4 - 2).toInt = (u 101 4).toInt - (2 : Int32).toInt := i_sub (by omega) (by omega)
        refine pc_lt (pc_bind (Q := fun (x : Int32) => x.toInt < 0) (pc_lp (fun (x : Int32) => x.toInt < 0) ?_ _ _ (by omega)) (fun v4 _ h4 => ?_))
        · intro x hx
          rw [if_pos (show x < 0 by rw [Int32.lt_iff_toInt_lt, t0]; exact hx)]
          exact pc_some hx
        · rw [if_pos (show v4 < 0 by rw [Int32.lt_iff_toInt_lt, t0]; exact h4)]
          exact pc_some rfl
      · rw [hq]
        exact pc_some ⟨hu.1, Or.inr ⟨rfl, hu.2⟩⟩
  · refine pc_ite (fun _ => ?_) (fun _ => pc_some z2)
    rw [if_pos z]
    exact pc_some z2
theorem rc_queue {w w' : Mem} {k : Int32} (h : SimE w w') (hG : BgP (brp (w 0 8)) w) (h100 : w 100 0 = 0) (hd : DefS (brp (w 0 8)) w w') : Rc (fun q q2 => q.1 = q2.1 ∧ q.2 100 0 = 0) (f_X9_queue k w) (f_X10_queue k w') := by
  have hz0 := pc_queue0 (k := k) (w := w) h.1.2.1.2.2.1.1
  have hB := h.1.2.1
  have hE := h.2.1
  have hb : brp (w 0 8) = 112 ∨ brp (w 0 8) = 119 := brp_or _
  obtain ⟨b, eb⟩ : ∃ b, b = brp (w 0 8) := ⟨_, rfl⟩
  rw [← eb] at hB hE hG hd hb
  have b3 := hB.2.2.1
  have en : w b 3 = w' 134 18 := hB.1.2.2.2
  have hn8 : 0 ≤ (w' 134 18).toInt ∧ (w' 134 18).toInt ≤ 6 := by rw [← en]; exact b3.2
  have enn : (w' 134 18).toInt = ((w b 3).toInt.toNat : Nat) := by rw [← en]; omega
  have t0 := tl_0
  have t1 := tl_1
  have p6 : 2 ^ (w b 3).toInt.toNat ≤ 2 ^ 6 := Nat.pow_le_pow_right (by decide) (by omega)
  suffices hs : Rc (fun q q2 => q.1 = q2.1) (f_X9_queue k w) (f_X10_queue k w') from fun q q2 hq hq2 => ⟨hs q q2 hq hq2, by rw [hz0 q hq]; exact h100⟩
  unfold f_X9_queue f_X10_queue
  rw [← eb]
  refine rcr_bind pc_in (fun r1 _ h1 => ?_)
  refine rcl_ite (fun c => ?_) (fun c => rcl_ite (fun c2 => ?_) (fun c2 => ?_))
  · rw [Int32.lt_iff_toInt_lt] at c
    rw [if_pos (in_0 h1 (by omega))]
    exact rc_some rfl
  · rw [Int32.lt_iff_toInt_lt] at c2
    rw [if_pos (in_0 h1 (by omega))]
    exact rc_some rfl
  · rw [Int32.lt_iff_toInt_lt] at c c2
    rw [if_neg (in_1 h1 (by omega))]
    refine rcr_rd (fun _ => ?_)
    rw [cl_4, ← hE.1.2.2.2.2.1]
    by_cases cs : w 3 4 = -1
    · rw [if_pos cs, if_pos cs]
      refine rcr_bind (pc_are hn8) (fun r3 _ hr => ?_)
      have e7 : w 3 7 = r3 := by
        refine eq_are (n := (w b 3).toInt.toNat) (by omega) enn hE.2.2.2.1.1 (fun t ht => ?_) hr
        obtain ⟨_, g⟩ := hE.2.2.2.2 t (by omega)
        rcases g with ⟨z1, ⟨z2, z3, z4⟩, _⟩ | ⟨z1, ⟨z2, z3, z4⟩, _⟩ | ⟨z1, ⟨z2, z3, z4⟩, _⟩ | ⟨z1, ⟨z2, z3, z4⟩, _⟩
        · exact ⟨fun _ => z1, fun _ => z2⟩
        · exact ⟨fun q => absurd (z2.symm.trans q) (by decide), fun q => absurd (z1.symm.trans q) (by decide)⟩
        · exact ⟨fun q => absurd (z2.symm.trans q) (by decide), fun q => absurd (z1.symm.trans q) (by decide)⟩
        · exact ⟨fun q => absurd (z2.symm.trans q) (by decide), fun q => absurd (z1.symm.trans q) (by decide)⟩
      rw [← e7]
      have h7 := hE.2.2.2.1.1
      have c7 := i_clq h7.1
      refine rcl_bind (pc_fill hb hB hE hG h100 hd) (fun v _ hv => ?_)
      obtain ⟨v1, v2, v3, v4, v5⟩ := hv
      obtain ⟨W, eW⟩ : ∃ W, (w 3 7).toNatClampNeg = W := ⟨_, rfl⟩
      rw [eW] at c7 v3 v4 v5
      have hW : W < 2 ^ (w b 3).toInt.toNat := by omega
      have hh := head_tab ⟨W, by omega⟩
      have hlen : (ascL W 6).length = pb W := hh.2
      rw [hlen] at v3
      by_cases z : w 3 7 = 0
      · rw [if_pos z]
        have z' := (cN_0 h7.1).mp z
        rw [eW] at z'
        rw [z'] at v3
        refine rcl_bind (pc_tryO0 (by rw [v3]; decide)) (fun u _ hu => ?_)
        refine rcl_ite (fun _ => rc_some ?_) (fun _ => rc_some ?_)
        · show u 101 5 = 0
          rw [i_eq_iff, hu.1, t0]
        · show u 101 6 = 0
          rw [i_eq_iff, hu.2, t0]
      · rw [if_neg z]
        have z' : ¬ W = 0 := fun e => z ((cN_0 h7.1).mpr (by rw [eW]; exact e))
        have hpb := pb_pos ⟨W, by omega⟩
        have hpb1 : 1 ≤ pb W := by
          rcases hpb with g | g
          · exact absurd g z'
          · exact g
        have hpb6 : pb W ≤ 6 := pb6_tab ⟨W, by omega⟩
        have hn1 : 1 ≤ (w b 3).toInt.toNat := by
          by_cases g : (w b 3).toInt.toNat = 0
          · rw [g, Nat.pow_zero] at hW; omega
          · omega
        have hq : (1 ≤ (w b 0).toInt ∧ (w b 0).toInt ≤ 60) ∧ (1 ≤ (w b 1).toInt ∧ (w b 1).toInt ≤ 9) := by
          rcases hB.2.1 with ⟨_, _, _, g⟩ | g
          · rw [g, t0] at hn1; omega
          · exact g
        refine rcr_bind (pc_layAll hB hE hG hd _) (fun m _ hm => ?_)
        obtain ⟨m1, m2⟩ := hm
        refine rcr_bind (pc_ones h7.1 (by omega) (by rw [eW]; exact hpb1)) (fun q10 _ h10 => ?_)
        have hT : ∀ t : Nat, (w 3 7).toNatClampNeg.testBit t = true → QuT (miF b w w' (w 3 3).toNatClampNeg) (pyF b w w' (w 3 3).toNatClampNeg) (paF b w) m t := by
          intro t ht
          rw [eW] at ht
          have ht2 : t < (w b 3).toInt.toNat := tb_lt hW ht
          have mr := miF_rng (K := (w 3 3).toNatClampNeg) hB (t := t) (by omega) hd
          obtain ⟨⟨_, E4, _⟩, _, hh4, _⟩ := hB.2.2.2.2 t (by omega)
          obtain ⟨⟨g1, _⟩, g3⟩ := hE.2.2.2.2 t (by omega)
          have g1' : w 4 t = w' 146 (19 + t) := g1
          have hbt := bt_tb (x := w 3 7) (t := t) h7.1 (by omega) (by omega)
          rw [eW, if_pos ht] at hbt
          have hw4 : 0 ≤ (w' 146 (19 + t)).toInt ∧ (w' 146 (19 + t)).toInt ≤ 61 := by
            rcases g3 with ⟨_, _, _, _, z7, z8⟩ | ⟨_, ⟨z2, _⟩, _⟩ | ⟨_, ⟨z2, _⟩, _⟩ | ⟨_, ⟨z2, _⟩, _⟩
            · omega
            · rw [z2] at hbt; exact absurd hbt (by decide)
            · rw [z2] at hbt; exact absurd hbt (by decide)
            · rw [z2] at hbt; exact absurd hbt (by decide)
          have mt := m2 t (by omega)
          have pv := pay_val (x := m 149 t) (q := w b 0) (p := w b 1) (by omega) (by omega) hq.1.1 hq.2
          have pr := pay_rng (x := m 149 t) (q := w b 0) (p := w b 1) (by omega) (by omega) hq.1.1 hq.2
          have epy : (m 149 t / w b 0 * w b 1).toInt = pyF b w w' (w 3 3).toNatClampNeg t := by rw [pv, mt]; rfl
          refine ⟨⟨mt, mr⟩, ⟨?_, ?_, ?_⟩, ?_, ?_, ?_⟩
          · rw [m1 134 15 (by omega) (by omega), m1 134 16 (by omega) (by omega), ← hB.1.1, ← hB.1.2.1]
            exact epy
          · rw [← epy]; exact pr.1
          · rw [← epy]; exact pr.2
          · rw [m1 144 t (by omega) (by omega), ← E4]; exact hh4
          · rw [m1 146 (19 + t) (by omega) (by omega)]; exact hw4
          · unfold paF LimR
            rw [m1 144 t (by omega) (by omega), m1 146 (19 + t) (by omega) (by omega), ← E4, g1']
        refine rcr_bind (pc_qloop (n := (w b 3).toInt.toNat) h7.1 (by omega) (by rw [eW]; exact hpb1) ⟨hn1, by omega⟩ (by rw [m1 134 18 (by omega) (by omega)]; exact enn) (by rw [eW]; exact hW) hT h10.1 h10.2) (fun q15 _ h15 => ?_)
        rw [eW] at h15
        refine rcl_bind (pc_tryO (V := W) (k := pb W) (mi := miF b w w' (w 3 3).toNatClampNeg) (py := pyF b w w' (w 3 3).toNatClampNeg) (pa := paF b w) (by omega) rfl ⟨hpb1, hpb6⟩ v3 v4 (fun a ha => ?_)) (fun u _ hu => ?_)
        · obtain ⟨g1, g2, g3⟩ := v5 a ha
          have ha2 : a < (w b 3).toInt.toNat := tb_lt hW ha
          have hQ := hT a (by rw [eW]; exact ha)
          exact ⟨⟨g1, hQ.1.2⟩, ⟨g2, hQ.2.1.2⟩, g3⟩
        · by_cases k0 : k = 0
          · rw [if_pos k0, if_pos k0]
            refine rc_some ?_
            show u 101 5 = q15.2
            rw [i_eq_iff, hu.1, h15.1]
          · rw [if_neg k0, if_neg k0]
            refine rc_some ?_
            show u 101 6 = q15.1
            rw [i_eq_iff, hu.2, h15.2]
    · rw [if_neg cs, if_neg cs]
      exact rc_some rfl
