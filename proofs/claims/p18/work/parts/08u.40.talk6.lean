/-! the reference: the longest talk -/
def StD (b : Nat) (t : Int32) (w w' : Mem) (St : Nat → Int) : Prop := (∀ k, 0 ≤ St k ∧ St k ≤ 300) ∧ ∀ k : Nat, (k : Int) < (w b 2).toInt → (∃ x, f_X1_stayOf b t (Int32.ofNat k) w = some x ∧ x.toInt = St k) ∧ ∃ y, f_X10_stayOf t (Int32.ofNat k) w' = some y ∧ y.toInt = St k
theorem std_ex {b : Nat} {t : Int32} {w w' : Mem} (hB : BrC b w w') (ht : 0 ≤ t.toInt ∧ t.toInt < (w b 3).toInt) (hx : ∀ k : Nat, (k : Int) < (w b 2).toInt → ∃ x, f_X1_stayOf b t (Int32.ofNat k) w = some x) (hy : ∀ k : Nat, (k : Int) < (w b 2).toInt → ∃ y, f_X10_stayOf t (Int32.ofNat k) w' = some y) : ∃ St, StD b t w w' St := by
  have b3 := hB.2.2.1
  refine ⟨fun k => if (k : Int) < (w b 2).toInt then ((f_X10_stayOf t (Int32.ofNat k) w').getD 0).toInt else 0, fun k => ?_, fun k hk => ?_⟩
  · show 0 ≤ (if (k : Int) < (w b 2).toInt then ((f_X10_stayOf t (Int32.ofNat k) w').getD 0).toInt else 0) ∧ (if (k : Int) < (w b 2).toInt then ((f_X10_stayOf t (Int32.ofNat k) w').getD 0).toInt else 0) ≤ 300
    by_cases hk : (k : Int) < (w b 2).toInt
    · rw [if_pos hk]
      obtain ⟨y, ey⟩ := hy k hk
      have ik := i_ofnat (n := k) (by omega)
      have h := pc_stayR hB ht (m := Int32.ofNat k) ⟨by omega, by omega⟩ y ey
      rw [ey]
      exact h
    · rw [if_neg hk]
      omega
  · obtain ⟨y, ey⟩ := hy k hk
    obtain ⟨x, ex⟩ := hx k hk
    have ik := i_ofnat (n := k) (by omega)
    have e := rc_stayOf hB ht (m := Int32.ofNat k) ⟨by omega, by omega⟩ x y ex ey
    have hv : (if (k : Int) < (w b 2).toInt then ((f_X10_stayOf t (Int32.ofNat k) w').getD 0).toInt else 0) = y.toInt := by
      rw [if_pos hk, ey]
      rfl
    exact ⟨⟨x, ex, by rw [e]; exact hv.symm⟩, y, ey, hv.symm⟩
theorem pc_inner {b : Nat} {w m : Mem} {t s : Int32} {St : Nat → Int} {L : Nat → Nat} {Kn : Nat} (hB : BrC b w m) (ht : 0 ≤ t.toInt ∧ t.toInt < (w b 3).toInt) (hSt : ∀ k, 0 ≤ St k ∧ St k ≤ 300) (hX : ∀ k : Nat, (k : Int) < (w b 2).toInt → ∃ x, f_X1_stayOf b t (Int32.ofNat k) w = some x ∧ x.toInt = St k) (hs : 1 ≤ s.toInt ∧ s.toInt ≤ 255) (hc : ∀ j : Nat, j < 8 → BuR L Kn (m 148 (8 * s.toNatClampNeg + j)) s.toNatClampNeg j) (n : Nat) : Pc (fun (r : Int32 × Int32) => (0 ≤ r.1.toInt ∧ r.1.toInt ≤ 255) ∧ (∀ a : Nat, a < 8 → (r.1.toNatClampNeg.testBit a = true ↔ ∃ j : Nat, (j : Int) < (w b 2).toInt ∧ s.toNatClampNeg &&& Kn = s.toNatClampNeg ∧ Beu L s.toNatClampNeg a j)) ∧ r.2.toInt = smK St s.toNatClampNeg (w b 2).toInt.toNat) (lp (S := (Int32 × Int32 × Int32)) (T := (Int32 × Int32)) (fun s38 => (if s38.2.2 < (m 134 17) then rd 2048 (m 148) (((8 : Int32) * s) + s38.2.2) fun x5 => (f_X10_has s s38.2.2).bind fun r6 => ((if r6 = 0 then some ((0 : Int32)) else f_X10_stayOf t s38.2.2 m) : Option Int32).bind fun v7 => some (Sum.inl ((s38.1 ||| x5), (s38.2.1 + v7), (s38.2.2 + (1 : Int32)))) else some (Sum.inr (s38.1, s38.2.1)))) n ((0 : Int32), (0 : Int32), (0 : Int32))) := by
  have t0 := tl_0
  have b3 := hB.2.2.1
  have m17 : m 134 17 = w b 2 := hB.1.2.2.1.symm
  rw [m17]
  obtain ⟨S, eS⟩ : ∃ S, s.toNatClampNeg = S := ⟨_, rfl⟩
  have hS := i_clq (i := s) (by omega)
  rw [eS] at hS hc ⊢
  refine pc_lp (fun (q : Int32 × Int32 × Int32) => (0 ≤ q.2.2.toInt ∧ q.2.2.toInt ≤ (w b 2).toInt) ∧ (0 ≤ q.1.toInt ∧ q.1.toInt ≤ 255) ∧ (∀ a : Nat, a < 8 → (q.1.toNatClampNeg.testBit a = true ↔ ∃ j : Nat, (j : Int) < q.2.2.toInt ∧ S &&& Kn = S ∧ Beu L S a j)) ∧ q.2.1.toInt = smK St S q.2.2.toInt.toNat) ?_ _ _ ?_
  · intro q hq
    obtain ⟨x1, x2, x3, x4⟩ := hq
    refine pc_ite (fun c => ?_) (fun c => pc_some ?_)
    · rw [Int32.lt_iff_toInt_lt] at c
      have ea : (q.2.2 + 1).toInt = q.2.2.toInt + 1 := i_addk tl_1 (by omega) (by omega)
      obtain ⟨k, ek⟩ : ∃ k, q.2.2.toNatClampNeg = k := ⟨_, rfl⟩
      have hk := i_clq x1.1
      rw [ek] at hk
      refine pc_rd (fun _ => ?_)
      rw [ix8 (by omega) (by omega) x1.1 (by omega), eS, ek]
      obtain ⟨u1, u2⟩ := hc k (by omega)
      have hbt := hb_tb (x := s) (m := q.2.2) (by omega) (by omega) x1.1 (by omega)
      rw [eS, ek] at hbt
      refine pc_bind pc_has (fun r6 _ h6 => ?_)
      rw [hbt] at h6
      refine pc_bind (Q := fun v7 => v7.toInt = if S.testBit k = true then St k else 0) ?_ (fun v7 _ h7 => pc_some ?_)
      · by_cases hb : S.testBit k = true
        · rw [if_pos hb] at h6
          rw [if_neg (show ¬ r6 = 0 by rw [h6]; decide), if_pos hb]
          obtain ⟨x, ex, ex2⟩ := hX k (by omega)
          have e2 : q.2.2 = Int32.ofNat k := by rw [← ek]; exact i_nat3 x1.1
          intro y hy
          rw [e2] at hy
          have ik := i_ofnat (n := k) (by omega)
          rw [← rc_stayOf hB ht (m := Int32.ofNat k) ⟨by omega, by omega⟩ x y ex hy]
          exact ex2
        · rw [if_neg hb] at h6
          rw [if_pos h6, if_neg hb]
          exact pc_some t0
      · have o := or_val (x := q.1) (y := m 148 (8 * S + k)) x2.1 x2.2 u1.1 u1.2
        have r1 := smK_rng (S := S) hSt k
        have r2 := hSt k
        have en : q.2.2.toInt.toNat = k := by omega
        rw [en] at x4
        have ead : (q.2.1 + v7).toInt = q.2.1.toInt + v7.toInt := by
          by_cases hb : S.testBit k = true
          · rw [if_pos hb] at h7
            exact i_add (by omega) (by omega)
          · rw [if_neg hb] at h7
            exact i_add (by omega) (by omega)
        refine ⟨by show 0 ≤ (q.2.2 + 1).toInt ∧ (q.2.2 + 1).toInt ≤ _; omega, o.2, fun a ha => ?_, ?_⟩
        · show (q.1 ||| m 148 (8 * S + k)).toNatClampNeg.testBit a = true ↔ ∃ j : Nat, (j : Int) < (q.2.2 + 1).toInt ∧ S &&& Kn = S ∧ Beu L S a j
          rw [o.1, Nat.testBit_or, Bool.or_eq_true, x3 a ha, u2 a ha, ea]
          constructor
          · rintro (⟨e, h1, h2⟩ | h)
            · exact ⟨e, by omega, h2⟩
            · exact ⟨k, by omega, h⟩
          · rintro ⟨e, h1, h2⟩
            by_cases ee : e = k
            · rw [ee] at h2; exact Or.inr h2
            · exact Or.inl ⟨e, by omega, h2⟩
        · show (q.2.1 + v7).toInt = smK St S (q.2.2 + 1).toInt.toNat
          rw [show (q.2.2 + 1).toInt.toNat = k + 1 by omega, ead, x4, h7]
          rfl
    · rw [Int32.lt_iff_toInt_lt] at c
      have e : q.2.2.toInt = (w b 2).toInt := by omega
      rw [e] at x3 x4
      exact ⟨x2, x3, x4⟩
  · refine ⟨by show 0 ≤ (0 : Int32).toInt ∧ (0 : Int32).toInt ≤ _; omega, by show 0 ≤ (0 : Int32).toInt ∧ (0 : Int32).toInt ≤ 255; omega, fun a _ => ?_, ?_⟩
    · show (0 : Int32).toNatClampNeg.testBit a = true ↔ ∃ j : Nat, (j : Int) < (0 : Int32).toInt ∧ S &&& Kn = S ∧ Beu L S a j
      rw [cl_0, Nat.zero_testBit]
      constructor
      · intro h; cases h
      · rintro ⟨j, h1, _⟩; omega
    · show (0 : Int32).toInt = smK St S (0 : Int32).toInt.toNat
      rw [t0]
      rfl
theorem pc_layTalk {b : Nat} {w w' : Mem} {t K : Int32} {St : Nat → Int} {G : Nat → Nat} (hB : BrC b w w') (ht : 0 ≤ t.toInt ∧ t.toInt < (w b 3).toInt) (hSt : ∀ k, 0 ≤ St k ∧ St k ≤ 300) (hX : ∀ k : Nat, (k : Int) < (w b 2).toInt → ∃ x, f_X1_stayOf b t (Int32.ofNat k) w = some x ∧ x.toInt = St k) (hK : 0 ≤ K.toInt ∧ K.toInt < (2 ^ (w b 2).toInt.toNat : Nat)) (hG : ∀ S : Nat, 1 ≤ S → S < 2 ^ (w b 2).toInt.toNat → G S < 256 ∧ ∀ a : Nat, a < 8 → ((G S).testBit a = true ↔ Beg (LdN b w) S a)) : Pc (fun v => (∀ k i, ¬ k = 148 → ¬ (k = 134 ∧ (i = 30 ∨ i = 31 ∨ i = 32)) → v k i = w' k i) ∧ TkV 134 30 31 32 v (tk G (fun S => smK St S 8) K.toNatClampNeg 255)) (f_X10_layTalk t K w') := by
  have t0 := tl_0
  have t1 := tl_1
  have tm := tl_m1
  have t256 := tl_256
  have b3 := hB.2.2.1
  have m17 : w' 134 17 = w b 2 := hB.1.2.2.1.symm
  have p8 : 2 ^ (w b 2).toInt.toNat ≤ 2 ^ 8 := Nat.pow_le_pow_right (by decide) (by omega)
  have hKn := i_clq hK.1
  obtain ⟨Kn, eK⟩ : ∃ Kn, K.toNatClampNeg = Kn := ⟨_, rfl⟩
  obtain ⟨Sm, eSm⟩ : ∃ Sm : Nat → Int, Sm = fun S => smK St S 8 := ⟨_, rfl⟩
  rw [← eSm]
  have sr : ∀ S, 0 ≤ Sm S ∧ Sm S ≤ 2400 := fun S => by
    have h := smK_rng (S := S) hSt 8
    rw [eSm]
    exact ⟨h.1, h.2⟩
  unfold f_X10_layTalk
  simp only [bind_eta1]
  have hLd : ∀ a : Nat, (a : Int) < (w' 134 17).toInt → (0 ≤ (w' 142 a).toInt ∧ (w' 142 a).toInt ≤ 255) ∧ LdN b w a = (w' 142 a).toNatClampNeg := by
    intro a ha
    rw [m17] at ha
    obtain ⟨⟨_, E2⟩, _, g2⟩ := hB.2.2.2.1 a ha
    have g6 := and_rng b3.1.1 b3.1.2 g2
    rw [E2] at g6
    exact ⟨g6, by unfold LdN; rw [E2]⟩
  refine pc_bind (pc_layTalks (L := LdN b w) (by rw [m17]; exact b3.1) hLd (by rw [m17]; exact hK)) (fun v1 _ h1 => ?_)
  rw [eK] at h1 hKn ⊢
  refine pc_pw (pc_pw (pc_pw ?_))
  obtain ⟨y, ey⟩ : ∃ y, y = wu (wu (wu v1 134 30 0) 134 31 (-1)) 134 32 0 := ⟨_, rfl⟩
  rw [← ey]
  have Y : ∀ k i, ¬ (k = 134 ∧ (i = 30 ∨ i = 31 ∨ i = 32)) → y k i = v1 k i := fun k i h => by rw [ey, wu_ne (by omega), wu_ne (by omega), wu_ne (by omega)]
  have Y1 : y 134 30 = 0 := by rw [ey, wu_ne (by omega), wu_ne (by omega), wu_at]
  have Y2 : y 134 31 = -1 := by rw [ey, wu_ne (by omega), wu_at]
  have Y3 : y 134 32 = 0 := by rw [ey, wu_at]
  refine pc_lp (fun (s : Int32 × Mem) => (1 ≤ s.1.toInt ∧ s.1.toInt ≤ 256) ∧ (∀ k i, ¬ (k = 134 ∧ (i = 30 ∨ i = 31 ∨ i = 32)) → s.2 k i = v1 k i) ∧ TkV 134 30 31 32 s.2 (tk G Sm Kn (s.1.toInt.toNat - 1))) ?_ _ _ ?_
  · intro s hX2
    obtain ⟨x1, x2, x4⟩ := hX2
    refine pc_ite (fun c => ?_) (fun c => pc_some ?_)
    · rw [Int32.lt_iff_toInt_lt, t256] at c
      have ea : (s.1 + 1).toInt = s.1.toInt + 1 := i_addk tl_1 (by omega) (by omega)
      obtain ⟨S, eS⟩ : ∃ S, s.1.toNatClampNeg = S := ⟨_, rfl⟩
      have hc := i_clq (i := s.1) (by omega)
      rw [eS] at hc
      rw [show s.1.toInt.toNat - 1 = S - 1 by omega] at x4
      obtain ⟨P, eP⟩ : ∃ P, P = tk G Sm Kn (S - 1) := ⟨_, rfl⟩
      rw [← eP] at x4
      have etk : tk G Sm Kn S = tkS G Sm Kn S P := by
        have h : tk G Sm Kn ((S - 1) + 1) = tkS G Sm Kn ((S - 1) + 1) (tk G Sm Kn (S - 1)) := rfl
        rw [← eP, show S - 1 + 1 = S by omega] at h
        exact h
      have hBm : BrC b w s.2 := brc_of hB (fun k i _ _ => rfl) (by rw [x2 134 15 (by omega), h1.1 134 15 (by omega)]) (by rw [x2 134 16 (by omega), h1.1 134 16 (by omega)]) (by rw [x2 134 17 (by omega), h1.1 134 17 (by omega)]) (by rw [x2 134 18 (by omega), h1.1 134 18 (by omega)]) (fun k i k1 k2 => by rw [x2 k i (by omega), h1.1 k i (by omega)])
      refine pc_bind (pc_inner (L := LdN b w) (Kn := Kn) hBm ht hSt hX ⟨x1.1, by omega⟩ (fun j hj => by rw [eS, x2 148 _ (by omega)]; exact h1.2 S (by omega) (by omega) j hj) _) (fun v9 _ h9 => ?_)
      rw [eS] at h9
      obtain ⟨f1, f2, f3⟩ := h9
      have fz := cN_0 f1.1
      have hin : S &&& Kn = S → v9.1.toNatClampNeg = G S ∧ v9.2.toInt = Sm S := by
        intro hsub
        have hle := sub_le hsub
        have hSM : S < 2 ^ (w b 2).toInt.toNat := by omega
        obtain ⟨g1, g2⟩ := hG S (by omega) hSM
        have cz := i_clq f1.1
        refine ⟨tb_ext (by omega) g1 (fun a ha => ?_), ?_⟩
        · rw [f2 a ha, g2 a ha, beg_beu (by omega)]
          constructor
          · rintro ⟨j, _, _, h⟩
            exact ⟨j, h⟩
          · rintro ⟨j, h⟩
            have h3 := tb_lt hSM (beu_step.mp h).2.1
            exact ⟨j, by omega, hsub, h⟩
        · rw [f3, eSm]
          exact (smK_top hSM 8 (by omega)).symm
      have hout : ¬ (S &&& Kn = S) → v9.1 = 0 := by
        intro hn
        rw [fz]
        have cz := i_clq f1.1
        refine tb_ext (by omega) (by omega) (fun a ha => ?_)
        rw [f2 a ha, Nat.zero_testBit]
        constructor
        · rintro ⟨j, _, h, _⟩
          exact absurd h hn
        · intro h; cases h
      have hfin : ∀ v12, ((∀ k i, ¬ (k = 134 ∧ (i = 30 ∨ i = 31 ∨ i = 32)) → v12 k i = v1 k i) ∧ TkV 134 30 31 32 v12 (tk G Sm Kn S)) → lqP (fun (s : Int32 × Mem) => (1 ≤ s.1.toInt ∧ s.1.toInt ≤ 256) ∧ (∀ k i, ¬ (k = 134 ∧ (i = 30 ∨ i = 31 ∨ i = 32)) → s.2 k i = v1 k i) ∧ TkV 134 30 31 32 s.2 (tk G Sm Kn (s.1.toInt.toNat - 1))) (fun v => (∀ k i, ¬ k = 148 → ¬ (k = 134 ∧ (i = 30 ∨ i = 31 ∨ i = 32)) → v k i = w' k i) ∧ TkV 134 30 31 32 v (tk G Sm Kn 255)) (Sum.inl (s.1 + 1, v12)) := by
        intro v12 h12
        refine ⟨by show 1 ≤ (s.1 + 1).toInt ∧ (s.1 + 1).toInt ≤ 256; omega, h12.1, ?_⟩
        show TkV 134 30 31 32 v12 (tk G Sm Kn ((s.1 + 1).toInt.toNat - 1))
        rw [show (s.1 + 1).toInt.toNat - 1 = S by omega]
        exact h12.2
      by_cases z : v9.1 = 0
      · refine pc_bind (pc_any _) (fun r10 _ _ => pc_bind (pc_any _) (fun v11 _ _ => ?_))
        rw [if_pos z, sb]
        refine pc_some (hfin s.2 ⟨x2, ?_⟩)
        rw [etk, tks_neg (fun h => h.2.1 (by rw [← (hin h.1).1]; exact fz.mp z))]
        exact x4
      · have hsub : S &&& Kn = S := Decidable.byContradiction (fun h => z (hout h))
        obtain ⟨i1, i2⟩ := hin hsub
        have nz' : ¬ v9.1.toNatClampNeg = 0 := fun h => z (fz.mpr h)
        have lg := (lst_i f1.1 f1.2 nz').2.2.2
        have l8 := (lst_i f1.1 f1.2 nz').1.1
        rw [i1] at lg l8 nz'
        have ps := pb_i (x := s.1) (by omega) (by omega)
        rw [eS] at ps
        have i3 := i_ofnat (n := pb S) (by omega)
        have i4 := i_ofnat (n := lst (G S)) (by omega)
        obtain ⟨q1, q2, q3⟩ := x4
        rw [lg, sb]
        refine pc_bind (Q := fun v11 => (v11 = 0 ∧ ¬ (P.1 < Sm S ∨ (Sm S = P.1 ∧ (((pb S : Nat) : Int) < P.2.2 ∨ (((pb S : Nat) : Int) = P.2.2 ∧ ((lst (G S) : Nat) : Int) < P.2.1))))) ∨ (v11 = 1 ∧ (P.1 < Sm S ∨ (Sm S = P.1 ∧ (((pb S : Nat) : Int) < P.2.2 ∨ (((pb S : Nat) : Int) = P.2.2 ∧ ((lst (G S) : Nat) : Int) < P.2.1)))))) ?_ (fun v11 _ h11 => ?_)
        · rw [ps.1]
          refine pc_ite (fun d => ?_) (fun d => ?_)
          · rw [Int32.lt_iff_toInt_lt] at d
            exact pc_some (Or.inr ⟨rfl, Or.inl (by omega)⟩)
          · rw [Int32.lt_iff_toInt_lt] at d
            refine pc_ite (fun d2 => ?_) (fun d2 => ?_)
            · rw [i_eq_iff] at d2
              rw [sb]
              refine pc_ite (fun d3 => ?_) (fun d3 => ?_)
              · rw [Int32.lt_iff_toInt_lt] at d3
                exact pc_some (Or.inr ⟨rfl, Or.inr ⟨by omega, Or.inl (by omega)⟩⟩)
              · rw [Int32.lt_iff_toInt_lt] at d3
                rw [sb]
                refine pc_ite (fun d4 => ?_) (fun d4 => ?_)
                · rw [i_eq_iff] at d4
                  refine pc_ite (fun d5 => ?_) (fun d5 => ?_)
                  · rw [Int32.lt_iff_toInt_lt] at d5
                    exact pc_some (Or.inr ⟨rfl, Or.inr ⟨by omega, Or.inr ⟨by omega, by omega⟩⟩⟩)
                  · rw [Int32.lt_iff_toInt_lt] at d5
                    refine pc_some (Or.inl ⟨rfl, ?_⟩)
                    rintro (e | ⟨e, e2 | ⟨e2, e3⟩⟩)
                    · omega
                    · omega
                    · omega
                · rw [i_eq_iff] at d4
                  refine pc_some (Or.inl ⟨rfl, ?_⟩)
                  rintro (e | ⟨e, e2 | ⟨e2, e3⟩⟩)
                  · omega
                  · omega
                  · omega
            · rw [i_eq_iff] at d2
              refine pc_some (Or.inl ⟨rfl, ?_⟩)
              rintro (e | ⟨e, _⟩)
              · omega
              · omega
        · rw [if_neg z]
          refine pc_bind (Q := fun v12 => (∀ k i, ¬ (k = 134 ∧ (i = 30 ∨ i = 31 ∨ i = 32)) → v12 k i = v1 k i) ∧ TkV 134 30 31 32 v12 (tk G Sm Kn S)) ?_ (fun v12 _ h12 => pc_some (hfin v12 h12))
          refine pc_ite (fun d => ?_) (fun d => ?_)
          · rw [Int32.lt_iff_toInt_lt, t0] at d
            rcases h11 with ⟨e, hn⟩ | ⟨e, hp⟩
            · rw [if_pos e]
              refine pc_some ⟨x2, ?_⟩
              rw [etk, tks_neg (fun h => hn h.2.2.2)]
              exact ⟨q1, q2, q3⟩
            · rw [if_neg (show ¬ v11 = 0 by rw [e]; decide)]
              refine pc_pw (pc_pw ?_)
              rw [ps.1, sb]
              refine pc_pw (pc_some ⟨fun k i hk => ?_, ?_⟩)
              · rw [wu_ne (by omega), wu_ne (by omega), wu_ne (by omega)]
                exact x2 k i hk
              · rw [etk, tks_pos hsub ⟨nz', by omega, hp⟩]
                refine ⟨?_, ?_, ?_⟩
                · rw [wu_ne (by omega), wu_ne (by omega), wu_at]
                  exact i2
                · rw [wu_ne (by omega), wu_at]
                  exact i4
                · rw [wu_at]
                  exact i3
          · rw [Int32.lt_iff_toInt_lt, t0] at d
            refine pc_some ⟨x2, ?_⟩
            rw [etk, tks_neg (fun h => by have := h.2.2.1; omega)]
            exact ⟨q1, q2, q3⟩
    · rw [Int32.lt_iff_toInt_lt, t256] at c
      refine ⟨fun k i k1 k2 => by rw [x2 k i k2, h1.1 k i k1], ?_⟩
      rw [show s.1.toInt.toNat - 1 = 255 by omega] at x4
      exact x4
  · refine ⟨by show 1 ≤ (1 : Int32).toInt ∧ (1 : Int32).toInt ≤ 256; omega, Y, ?_⟩
    show TkV 134 30 31 32 y (tk G Sm Kn ((1 : Int32).toInt.toNat - 1))
    rw [t1]
    exact ⟨by rw [Y1, t0]; rfl, by rw [Y2, tm]; rfl, by rw [Y3, t0]; rfl⟩
