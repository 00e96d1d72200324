/-! the class: the longest talk -/
def TkV (o a b c : Nat) (v : Mem) (q : Int × Int × Int) : Prop := (v o a).toInt = q.1 ∧ (v o b).toInt = q.2.1 ∧ (v o c).toInt = q.2.2
theorem pc_weigh {w : Mem} {s g : Int32} {x : Int} {p : Int × Int × Int} (hs : 0 ≤ s.toInt ∧ s.toInt ≤ 255) (hg : 0 ≤ g.toInt ∧ g.toInt ≤ 255) (hx : (w 100 s.toNatClampNeg).toInt = x) (hx0 : 0 ≤ x) (hp : TkV 99 1 2 3 w p) : Pc (fun v => (∀ k i, ¬ (k = 99 ∧ (i = 1 ∨ i = 2 ∨ i = 3)) → v k i = w k i) ∧ ((WgC x g.toNatClampNeg s.toNatClampNeg p ∧ TkV 99 1 2 3 v (x, ((lst g.toNatClampNeg : Nat) : Int), ((pb s.toNatClampNeg : Nat) : Int))) ∨ (¬ WgC x g.toNatClampNeg s.toNatClampNeg p ∧ TkV 99 1 2 3 v p))) (f_X8_weigh s g w) := by
  have t0 := tl_0
  obtain ⟨p1, p2, p3⟩ := hp
  unfold f_X8_weigh
  by_cases g0 : g = 0
  · rw [if_pos g0]
    exact pc_some ⟨fun k i _ => rfl, Or.inr ⟨fun q => q.1 ((cN_0 hg.1).mp g0), p1, p2, p3⟩⟩
  · rw [if_neg g0]
    have g1 : ¬ g.toNatClampNeg = 0 := fun h => g0 ((cN_0 hg.1).mpr h)
    obtain ⟨S, eS⟩ : ∃ S, s.toNatClampNeg = S := ⟨_, rfl⟩
    obtain ⟨G, eG⟩ : ∃ G, g.toNatClampNeg = G := ⟨_, rfl⟩
    have lg := lst_i hg.1 hg.2 g1
    have ps := pb_i hs.1 hs.2
    have eb := eq_bits hs.1 hs.2
    rw [eS] at hx ps ⊢
    rw [eG] at lg g1 ⊢
    have i3 := i_ofnat (n := pb S) (by omega)
    have i4 := i_ofnat (n := lst G) (by omega)
    refine pc_rd (fun _ => ?_)
    rw [eS]
    by_cases x0 : w 100 S = 0
    · rw [if_pos x0]
      rw [x0, t0] at hx
      exact pc_some ⟨fun k i _ => rfl, Or.inr ⟨fun q => by have := q.2.1; omega, p1, p2, p3⟩⟩
    · rw [if_neg x0]
      rw [i_eq_iff, t0] at x0
      refine pc_rd (fun _ => ?_)
      rw [eS]
      by_cases c : w 100 S < w 99 1
      · rw [if_pos c]
        rw [Int32.lt_iff_toInt_lt] at c
        exact pc_some ⟨fun k i _ => rfl, Or.inr ⟨fun q => by have := q.2.2; omega, p1, p2, p3⟩⟩
      · rw [if_neg c]
        rw [Int32.lt_iff_toInt_lt] at c
        rw [eb, ps.1, sb, lg.2.2.1, sb]
        have hN : WgC x G S p → Pc (fun v => (∀ k i, ¬ (k = 99 ∧ (i = 1 ∨ i = 2 ∨ i = 3)) → v k i = w k i) ∧ ((WgC x G S p ∧ TkV 99 1 2 3 v (x, ((lst G : Nat) : Int), ((pb S : Nat) : Int))) ∨ (¬ WgC x G S p ∧ TkV 99 1 2 3 v p))) (rd 256 (w 100) s fun x6 => pw 99 1 x6 w fun w7 => pw 99 2 (Int32.ofNat (lst G)) w7 fun w8 => pw 99 3 (Int32.ofNat (pb S)) w8 fun w9 => some w9) := by
          intro hW
          refine pc_rd (fun _ => pc_pw (pc_pw (pc_pw (pc_some ⟨fun k i hk => ?_, Or.inl ⟨hW, ?_, ?_, ?_⟩⟩))))
          · rw [wu_ne (by omega), wu_ne (by omega), wu_ne (by omega)]
          · rw [wu_ne (by omega), wu_ne (by omega), wu_at, eS]
            exact hx
          · rw [wu_ne (by omega), wu_at]
            exact i4
          · rw [wu_at]
            exact i3
        refine pc_rd (fun _ => ?_)
        rw [eS]
        refine pc_ite (fun d => ?_) (fun d => ?_)
        · rw [Int32.lt_iff_toInt_lt] at d
          exact hN ⟨g1, by omega, Or.inl (by omega)⟩
        · rw [Int32.lt_iff_toInt_lt] at d
          refine pc_ite (fun d2 => ?_) (fun d2 => ?_)
          · rw [Int32.lt_iff_toInt_lt] at d2
            exact hN ⟨g1, by omega, Or.inr ⟨by omega, Or.inl (by omega)⟩⟩
          · rw [Int32.lt_iff_toInt_lt] at d2
            refine pc_ite (fun d3 => ?_) (fun d3 => ?_)
            · rw [i_eq_iff] at d3
              refine pc_ite (fun d4 => ?_) (fun d4 => ?_)
              · rw [Int32.lt_iff_toInt_lt] at d4
                exact hN ⟨g1, by omega, Or.inr ⟨by omega, Or.inr ⟨by omega, by omega⟩⟩⟩
              · rw [Int32.lt_iff_toInt_lt] at d4
                refine pc_some ⟨fun k i _ => rfl, Or.inr ⟨fun q => ?_, p1, p2, p3⟩⟩
                rcases q.2.2 with q1 | ⟨q1, q2 | ⟨q2, q3⟩⟩
                · omega
                · omega
                · omega
            · rw [i_eq_iff] at d3
              refine pc_some ⟨fun k i _ => rfl, Or.inr ⟨fun q => ?_, p1, p2, p3⟩⟩
              rcases q.2.2 with q1 | ⟨q1, q2 | ⟨q2, q3⟩⟩
              · omega
              · omega
              · omega
theorem pc_try {b : Nat} (hb : BrO b) {w w0' : Mem} {t K : Int32} {St : Nat → Int} (hB : BrC b w w0') (hG : BgP b w) (h100 : w 100 0 = 0) (ht : 0 ≤ t.toInt ∧ t.toInt < (w b 3).toInt) (hK : 0 ≤ K.toInt ∧ K.toInt < (2 ^ (w b 2).toInt.toNat : Nat)) (hSt : ∀ k, 0 ≤ St k ∧ St k ≤ 300) (hS : ∀ k : Nat, (k : Int) < (w b 2).toInt → ∃ y, f_X10_stayOf t (Int32.ofNat k) w0' = some y ∧ y.toInt = St k) : Pc (fun v => (∀ k i, ¬ (k = 99 ∧ (i = 1 ∨ i = 2 ∨ i = 3)) → ¬ k = 100 → v k i = w k i) ∧ v 100 0 = 0 ∧ TkV 99 1 2 3 v (tk (fun S => (w (b + 6) S).toNatClampNeg) (fun S => smK St S 8) K.toNatClampNeg (2 ^ (w b 2).toInt.toNat - 1))) (f_X8_tryWith b t K w) := by
  have hbb : b = 112 ∨ b = 119 := hb
  have t0 := tl_0
  have t1 := tl_1
  have tm := tl_m1
  have b3 := hB.2.2.1
  have hA := all_rng b3.1.1 b3.1.2
  have vA := all_val b3.1.1 b3.1.2
  have pz := Nat.two_pow_pos (w b 2).toInt.toNat
  have p8 : 2 ^ (w b 2).toInt.toNat ≤ 2 ^ 8 := Nat.pow_le_pow_right (by decide) (by omega)
  have hKn := i_clq hK.1
  obtain ⟨G, eG⟩ : ∃ G : Nat → Nat, G = fun S => (w (b + 6) S).toNatClampNeg := ⟨_, rfl⟩
  obtain ⟨Sm, eSm⟩ : ∃ Sm : Nat → Int, Sm = fun S => smK St S 8 := ⟨_, rfl⟩
  rw [← eG, ← eSm]
  have sr : ∀ S, 0 ≤ Sm S ∧ Sm S ≤ 2400 := fun S => by
    have h := smK_rng (S := S) hSt 8
    rw [eSm]
    exact ⟨h.1, h.2⟩
  unfold f_X8_tryWith
  simp only [bind_eta1]
  refine pc_pw (pc_pw (pc_pw ?_))
  obtain ⟨y, ey⟩ : ∃ y, y = wu (wu (wu w 99 1 0) 99 2 (-1)) 99 3 0 := ⟨_, rfl⟩
  rw [← ey]
  have Y : ∀ k i, ¬ (k = 99 ∧ (i = 1 ∨ i = 2 ∨ i = 3)) → y k i = w k i := fun k i h => by rw [ey, wu_ne (by omega), wu_ne (by omega), wu_ne (by omega)]
  have Y1 : y 99 1 = 0 := by rw [ey, wu_ne (by omega), wu_ne (by omega), wu_at]
  have Y2 : y 99 2 = -1 := by rw [ey, wu_ne (by omega), wu_at]
  have Y3 : y 99 3 = 0 := by rw [ey, wu_at]
  refine pc_bind (Q := fun r => r = AllI (w b 2)) (by unfold f_X9_setOfFirst; exact pc_some (by rw [Y b 2 (by omega)]; rfl)) (fun r4 _ hr4 => ?_)
  rw [hr4]
  refine pc_lp (fun (s : Int32 × Mem) => (1 ≤ s.1.toInt ∧ s.1.toInt ≤ (AllI (w b 2)).toInt + 1) ∧ (∀ k i, ¬ (k = 99 ∧ (i = 1 ∨ i = 2 ∨ i = 3)) → ¬ k = 100 → s.2 k i = w k i) ∧ (∀ R : Nat, (R : Int) < s.1.toInt → R &&& K.toNatClampNeg = R → (s.2 100 R).toInt = Sm R) ∧ TkV 99 1 2 3 s.2 (tk G Sm K.toNatClampNeg (s.1.toInt.toNat - 1))) ?_ _ _ ?_
  · intro s hX
    obtain ⟨x1, x2, x3, x4⟩ := hX
    refine pc_ite (fun c => pc_some ?_) (fun c => ?_)
    · rw [Int32.lt_iff_toInt_lt] at c
      refine ⟨x2, ?_, ?_⟩
      · have h := x3 0 (by omega) (Nat.zero_and _)
        rw [eSm] at h
        have h' : (s.2 100 0).toInt = smK St 0 8 := h
        rw [smK_0] at h'
        rw [i_eq_iff, h', t0]
      · rw [show s.1.toInt.toNat - 1 = 2 ^ (w b 2).toInt.toNat - 1 by omega] at x4
        exact x4
    · rw [Int32.lt_iff_toInt_lt] at c
      have ea : (s.1 + 1).toInt = s.1.toInt + 1 := i_addk tl_1 (by omega) (by omega)
      obtain ⟨S, eS⟩ : ∃ S, s.1.toNatClampNeg = S := ⟨_, rfl⟩
      have hc := i_clq (i := s.1) (by omega)
      rw [eS] at hc
      have sz := sub_z (S := s.1) (K := K) (by omega) (by omega) hK.1 (by omega)
      rw [eS] at sz
      rw [show s.1.toInt.toNat - 1 = S - 1 by omega] at x4
      obtain ⟨P, eP⟩ : ∃ P, P = tk G Sm K.toNatClampNeg (S - 1) := ⟨_, rfl⟩
      rw [← eP] at x4
      have etk : tk G Sm K.toNatClampNeg S = tkS G Sm K.toNatClampNeg S P := by
        have h : tk G Sm K.toNatClampNeg ((S - 1) + 1) = tkS G Sm K.toNatClampNeg ((S - 1) + 1) (tk G Sm K.toNatClampNeg (S - 1)) := rfl
        rw [← eP, show S - 1 + 1 = S by omega] at h
        exact h
      refine pc_bind (Q := fun v5 => (∀ k i, ¬ (k = 99 ∧ (i = 1 ∨ i = 2 ∨ i = 3)) → ¬ k = 100 → v5 k i = w k i) ∧ (∀ R : Nat, R < S + 1 → R &&& K.toNatClampNeg = R → (v5 100 R).toInt = Sm R) ∧ TkV 99 1 2 3 v5 (tk G Sm K.toNatClampNeg S)) ?_ (fun v5 _ h5 => pc_some ⟨?_, h5.1, fun R hR hR2 => ?_, ?_⟩)
      · refine pc_ite (fun z => ?_) (fun z => pc_some ⟨x2, fun R hR hR2 => ?_, ?_⟩)
        · have hsub := sz.mp z
          have hS8 : S < 256 := by omega
          have li := lst_i (x := s.1) (by omega) (by omega) (by rw [eS]; omega)
          rw [eS] at li
          obtain ⟨⟨l8, lb⟩, lr, ll, _⟩ := li
          obtain ⟨l, el⟩ : ∃ l, lst S = l := ⟨_, rfl⟩
          rw [el] at l8 lb lr ll
          have lM : l < (w b 2).toInt.toNat := tb_lt (by omega) lb
          have hpos := Nat.two_pow_pos l
          refine pc_rd (fun _ => ?_)
          rw [lr, ll, sb]
          have q6 := x3 (S - 2 ^ l) (by omega) (sub_cl hS8 l8 lb hsub)
          have es : Sm S = Sm (S - 2 ^ l) + St l := by
            rw [eSm]
            have h := smK_cl (St := St) hS8 l8 lb 8 (by omega)
            rw [if_pos l8] at h
            exact h
          have il := i_ofnat (n := l) (by omega)
          have hB' : BrC b s.2 w0' := brc_of hB (fun k i k1 k2 => x2 k i (by omega) (by omega)) rfl rfl rfl rfl (fun k i _ _ => rfl)
          refine pc_bind (Q := fun r8 => r8.toInt = St l) (fun x hx => ?_) (fun r8 _ h8 => ?_)
          · obtain ⟨y2, hy, e2⟩ := hS l (by omega)
            rw [rc_stayOf hB' ⟨ht.1, by rw [x2 b 3 (by omega) (by omega)]; exact ht.2⟩ ⟨by omega, by rw [x2 b 2 (by omega) (by omega)]; omega⟩ x y2 hx hy, e2]
          · have r1 := sr S
            have r2 := sr (S - 2 ^ l)
            have r3 := hSt l
            have ad : (s.2 100 (S - 2 ^ l) + r8).toInt = Sm S := by rw [i_add (by omega) (by omega), q6, h8, es]
            refine pc_wr (fun _ => ?_)
            obtain ⟨v, ev⟩ : ∃ v, v = wu s.2 100 s.1.toNatClampNeg (s.2 100 (S - 2 ^ l) + r8) := ⟨_, rfl⟩
            rw [← ev]
            rw [eS] at ev
            have V : ∀ k i, ¬ (k = 100 ∧ i = S) → v k i = s.2 k i := fun k i h => by rw [ev, wu_ne h]
            have VS : v 100 S = s.2 100 (S - 2 ^ l) + r8 := by rw [ev, wu_at]
            refine pc_rd (fun _ => ?_)
            rw [eS, V (b + 6) S (by omega), x2 (b + 6) S (by omega) (by omega)]
            have hg := hG S (by omega) (by omega)
            refine pc_mono (pc_weigh (x := Sm S) (p := P) ⟨by omega, by omega⟩ hg.1 (by rw [eS, VS, ad]) r1.1 ⟨by rw [V 99 1 (by omega)]; exact x4.1, by rw [V 99 2 (by omega)]; exact x4.2.1, by rw [V 99 3 (by omega)]; exact x4.2.2⟩) (fun u _ hu => ?_)
            rw [eS] at hu
            refine ⟨fun k i k1 k2 => ?_, fun R hR hR2 => ?_, ?_⟩
            · rw [hu.1 k i k1, V k i (by omega), x2 k i k1 k2]
            · rw [hu.1 100 R (by omega)]
              by_cases e : R = S
              · rw [e, VS, ad]
              · rw [V 100 R (by omega)]
                exact x3 R (by omega) hR2
            · rw [etk]
              have eGS : (w (b + 6) S).toNatClampNeg = G S := by rw [eG]
              rw [eGS] at hu
              rcases hu.2 with ⟨h1, h2⟩ | ⟨h1, h2⟩
              · rw [tks_pos hsub h1]
                exact h2
              · rw [tks_neg (fun h => h1 h.2)]
                exact h2
        · by_cases e : R = S
          · rw [e] at hR2
            exact absurd (sz.mpr hR2) z
          · exact x3 R (by omega) hR2
        · rw [etk, tks_neg (fun h => z (sz.mpr h.1))]
          exact x4
      · show 1 ≤ (s.1 + 1).toInt ∧ (s.1 + 1).toInt ≤ _
        omega
      · have hR3 : (R : Int) < (s.1 + 1).toInt := hR
        exact h5.2.1 R (by omega) hR2
      · show TkV 99 1 2 3 v5 (tk G Sm K.toNatClampNeg ((s.1 + 1).toInt.toNat - 1))
        rw [show (s.1 + 1).toInt.toNat - 1 = S by omega]
        exact h5.2.2
  · refine ⟨by show 1 ≤ (1 : Int32).toInt ∧ (1 : Int32).toInt ≤ _; omega, fun k i k1 _ => Y k i k1, fun R hR _ => ?_, ?_⟩
    · have hR3 : (R : Int) < (1 : Int32).toInt := hR
      have e : R = 0 := by omega
      show (y 100 R).toInt = Sm R
      rw [e, Y 100 0 (by omega), h100, t0, eSm]
      exact (smK_0 8).symm
    · show TkV 99 1 2 3 y (tk G Sm K.toNatClampNeg ((1 : Int32).toInt.toNat - 1))
      rw [t1]
      exact ⟨by rw [Y1, t0]; rfl, by rw [Y2, tm]; rfl, by rw [Y3, t0]; rfl⟩
