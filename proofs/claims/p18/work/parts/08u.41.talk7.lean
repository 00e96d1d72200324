/-! both sides: the longest talk -/
theorem tk_rng {G : Nat → Nat} {Sm : Nat → Int} {K : Nat} (h : ∀ S, 0 ≤ Sm S ∧ Sm S ≤ 2400) : ∀ n, 0 ≤ (tk G Sm K n).1 ∧ (tk G Sm K n).1 ≤ 2400 := by
  intro n
  induction n with
  | zero => exact ⟨by show (0 : Int) ≤ 0; omega, by show (0 : Int) ≤ 2400; omega⟩
  | succ n ih =>
    have e : tk G Sm K (n + 1) = tkS G Sm K (n + 1) (tk G Sm K n) := rfl
    rw [e]
    by_cases c : (n + 1) &&& K = n + 1 ∧ WgC (Sm (n + 1)) (G (n + 1)) (n + 1) (tk G Sm K n)
    · rw [tks_pos c.1 c.2]
      exact h (n + 1)
    · rw [tks_neg c]
      exact ih
def DefS (b : Nat) (w w' : Mem) : Prop := ∀ t k : Int32, (0 ≤ t.toInt ∧ t.toInt < (w b 3).toInt) → (0 ≤ k.toInt ∧ k.toInt < (w b 2).toInt) → (∃ x, f_X1_stayOf b t k w = some x) ∧ ∃ y, f_X10_stayOf t k w' = some y
theorem rc_tryT {b : Nat} (hb : BrO b) {w w' : Mem} {t K : Int32} (hB : BrC b w w') (hG : BgP b w) (h100 : w 100 0 = 0) (ht : 0 ≤ t.toInt ∧ t.toInt < (w b 3).toInt) (hK : 0 ≤ K.toInt ∧ K.toInt < (2 ^ (w b 2).toInt.toNat : Nat)) (hd : DefS b w w') : Rc (fun v v' => (v 99 1 = v' 134 30 ∧ v 99 2 = v' 134 31 ∧ v 99 3 = v' 134 32) ∧ v 100 0 = 0 ∧ (0 ≤ (v 99 1).toInt ∧ (v 99 1).toInt ≤ 2400)) (f_X8_tryWith b t K w) (f_X10_layTalk t K w') := by
  intro v v' hv hv'
  have b3 := hB.2.2.1
  have hKn := i_clq hK.1
  have p8 : 2 ^ (w b 2).toInt.toNat ≤ 2 ^ 8 := Nat.pow_le_pow_right (by decide) (by omega)
  obtain ⟨St, hSt, hS⟩ := std_ex hB ht (fun k hk => (hd t (Int32.ofNat k) ht (by rw [i_ofnat (by omega)]; omega)).1) (fun k hk => (hd t (Int32.ofNat k) ht (by rw [i_ofnat (by omega)]; omega)).2)
  obtain ⟨_, l2, l3⟩ := pc_try hb hB hG h100 ht hK hSt (fun k hk => (hS k hk).2) v hv
  obtain ⟨_, r3⟩ := pc_layTalk (G := fun S => (w (b + 6) S).toNatClampNeg) hB ht hSt (fun k hk => (hS k hk).1) hK (fun S h1 h2 => by
    obtain ⟨g1, g2⟩ := hG S h1 h2
    have c := i_clq g1.1
    exact ⟨by show (w (b + 6) S).toNatClampNeg < 256; omega, g2⟩) v' hv'
  rw [tk_stop (A := 2 ^ (w b 2).toInt.toNat - 1) (by omega) 255 (by omega)] at r3
  have rg := tk_rng (G := fun S => (w (b + 6) S).toNatClampNeg) (Sm := fun S => smK St S 8) (K := K.toNatClampNeg) (fun S => by
    have h := smK_rng (S := S) hSt 8
    exact ⟨h.1, h.2⟩) (2 ^ (w b 2).toInt.toNat - 1)
  refine ⟨⟨?_, ?_, ?_⟩, l2, ?_⟩
  · rw [i_eq_iff, l3.1, r3.1]
  · rw [i_eq_iff, l3.2.1, r3.2.1]
  · rw [i_eq_iff, l3.2.2, r3.2.2]
  · rw [l3.1]
    exact rg
theorem defs_of {b : Nat} {w w' u u' : Mem} (h : DefS b w w') (h2 : u b 2 = w b 2) (h3 : u b 3 = w b 3) (hl : ∀ t k : Int32, f_X1_stayOf b t k u = f_X1_stayOf b t k w) (hr : ∀ t k : Int32, f_X10_stayOf t k u' = f_X10_stayOf t k w') : DefS b u u' := by
  intro t k ht hk
  rw [h3] at ht
  rw [h2] at hk
  rw [hl, hr]
  exact h t k ht hk
theorem rc_talk {w w' : Mem} {t k : Int32} (h : SimE w w') (hG : BgP (brp (w 0 8)) w) (h100 : w 100 0 = 0) (hd : DefS (brp (w 0 8)) w w') : Rc (fun q q2 => q.1 = q2.1 ∧ q.2 100 0 = 0) (f_X9_talk t k w) (f_X10_talk t k w') := by
  have hB := h.1.2.1
  have hE := h.2.1
  have hb : brp (w 0 8) = 112 ∨ brp (w 0 8) = 119 := brp_or _
  obtain ⟨b, eb⟩ : ∃ b, b = brp (w 0 8) := ⟨_, rfl⟩
  rw [← eb] at hB hE hG hd hb
  have b3 := hB.2.2.1
  have en : w b 3 = w' 134 18 := hB.1.2.2.2
  have t0 := tl_0
  have t3 := tl_3
  unfold f_X9_talk f_X10_talk
  rw [← eb]
  refine rcl_bind (pc_hasT b3.2.2) (fun r _ hr => ?_)
  refine rcr_bind (pc_isT (by rw [← en]; exact b3.2.1)) (fun r2 _ hr2 => ?_)
  rw [← en] at hr2
  rcases hr with ⟨r1, ht⟩ | ⟨r1, n⟩
  · rcases hr2 with ⟨s1, _⟩ | ⟨_, n⟩
    · rw [if_neg (show ¬ r = 0 by rw [r1]; decide), if_neg (show ¬ r2 = 0 by rw [s1]; decide)]
      refine rcr_bind pc_in (fun r3 _ h3 => ?_)
      refine rcl_ite (fun c => ?_) (fun c => rcl_ite (fun c2 => ?_) (fun c2 => ?_))
      · rw [Int32.lt_iff_toInt_lt] at c
        rw [if_pos (in_0 h3 (by omega))]
        exact rc_some ⟨rfl, h100⟩
      · rw [Int32.lt_iff_toInt_lt] at c2
        rw [if_pos (in_0 h3 (by omega))]
        exact rc_some ⟨rfl, h100⟩
      · rw [Int32.lt_iff_toInt_lt] at c c2
        rw [if_neg (in_1 h3 (by omega))]
        refine rcr_rd (fun _ => ?_)
        rw [cl_3, ← hE.1.2.2.2.1]
        have hK : 0 ≤ (w 3 3).toInt ∧ (w 3 3).toInt < (2 ^ (w b 2).toInt.toNat : Nat) := by rw [hE.1.2.2.2.1]; exact hE.2.1.2.2.1
        refine rc_bind (rc_tryT hb hB hG h100 ht hK hd) (fun v v' hv hv' hQ => ?_)
        obtain ⟨⟨e1, e2, e3⟩, e4, _⟩ := hQ
        have fl := fr_X8_tryWith b hb t (w 3 3) w v hv
        have fr := fr_X10_layTalk t (w 3 3) w' v' hv'
        by_cases k0 : k = 0
        · rw [if_pos k0, if_pos k0]
          exact rc_some ⟨e1, e4⟩
        · rw [if_neg k0, if_neg k0]
          by_cases k1 : k = 1
          · rw [if_pos k1, if_pos k1]
            exact rc_some ⟨e2, e4⟩
          · rw [if_neg k1, if_neg k1]
            by_cases k2 : k = 2
            · rw [if_pos k2, if_pos k2]
              exact rc_some ⟨e3, e4⟩
            · rw [if_neg k2, if_neg k2]
              have hq : 1 ≤ (w b 0).toInt := by
                rcases hB.2.1 with ⟨_, _, _, z⟩ | z
                · rw [z, t0] at ht; omega
                · exact z.1.1
              rw [fl 0 8 (by omega), ← eb]
              refine rcl_bind (pc_cpay (by rw [fl b 0 (by omega)]; exact hq)) (fun x _ hx => rcr_bind pc_rpay (fun y _ hy => rc_some ⟨?_, e4⟩))
              show x = y
              rw [hx, hy, fl b 0 (by omega), fl b 1 (by omega), fr 134 15 (by omega), fr 134 16 (by omega), hB.1.1, hB.1.2.1, e1]
    · exact absurd ht n
  · rcases hr2 with ⟨s1, ht⟩ | ⟨s1, _⟩
    · exact absurd ht n
    · rw [if_pos r1, if_pos s1]
      exact rc_some ⟨rfl, h100⟩
/-! what the others leave: the first of the sums is 0 -/
theorem pc_try0 {b : Nat} (hb : BrO b) {w : Mem} {t K : Int32} (hM : 0 ≤ (w b 2).toInt ∧ (w b 2).toInt ≤ 8) : Pc (fun v => v 100 0 = w 100 0) (f_X8_tryWith b t K w) := by
  have hbb : b = 112 ∨ b = 119 := hb
  have t1 := tl_1
  have hA := all_rng hM.1 hM.2
  unfold f_X8_tryWith
  simp only [bind_eta1]
  refine pc_pw (pc_pw (pc_pw ?_))
  obtain ⟨y, ey⟩ : ∃ y, y = wu (wu (wu w 99 1 0) 99 2 (-1)) 99 3 0 := ⟨_, rfl⟩
  rw [← ey]
  have Y : ∀ k i, ¬ (k = 99 ∧ (i = 1 ∨ i = 2 ∨ i = 3)) → y k i = w k i := fun k i h => by rw [ey, wu_ne (by omega), wu_ne (by omega), wu_ne (by omega)]
  refine pc_bind (Q := fun r => r = AllI (w b 2)) (by unfold f_X9_setOfFirst; exact pc_some (by rw [Y b 2 (by omega)]; rfl)) (fun r4 _ hr4 => ?_)
  rw [hr4]
  refine pc_lp (fun (s : Int32 × Mem) => (1 ≤ s.1.toInt ∧ s.1.toInt ≤ (AllI (w b 2)).toInt + 1) ∧ s.2 100 0 = w 100 0) ?_ _ _ ⟨by show 1 ≤ (1 : Int32).toInt ∧ (1 : Int32).toInt ≤ _; omega, Y 100 0 (by omega)⟩
  intro s hX
  obtain ⟨x1, x2⟩ := hX
  refine pc_ite (fun c => pc_some x2) (fun c => ?_)
  rw [Int32.lt_iff_toInt_lt] at c
  have ea : (s.1 + 1).toInt = s.1.toInt + 1 := i_addk tl_1 (by omega) (by omega)
  have hc := i_clq (i := s.1) (by omega)
  refine pc_bind (Q := fun v5 => v5 100 0 = w 100 0) ?_ (fun v5 _ h5 => pc_some ⟨by show 1 ≤ (s.1 + 1).toInt ∧ (s.1 + 1).toInt ≤ _; omega, h5⟩)
  refine pc_ite (fun _ => ?_) (fun _ => pc_some x2)
  refine pc_rd (fun _ => pc_bind (pc_any _) (fun r7 _ _ => pc_bind (pc_any _) (fun r8 _ _ => pc_wr (fun _ => pc_rd (fun _ => ?_)))))
  intro u hu
  rw [fr_X8_weigh _ _ _ u hu 100 0 (by omega), wu_ne (by omega)]
  exact x2
theorem pc_worth0 {b : Nat} (hb : BrO b) {w : Mem} {K : Int32} (hM : 0 ≤ (w b 2).toInt ∧ (w b 2).toInt ≤ 8) : Pc (fun v => v.2 100 0 = w 100 0) (f_X8_worthOfAll b K w) := by
  have hbb : b = 112 ∨ b = 119 := hb
  unfold f_X8_worthOfAll
  simp only [bind_eta2]
  refine pc_lp (fun (s : Int32 × Int32 × Mem) => s.2.2 b 2 = w b 2 ∧ s.2.2 100 0 = w 100 0) ?_ _ _ ⟨rfl, rfl⟩
  intro s hX
  obtain ⟨x1, x2⟩ := hX
  refine pc_ite (fun c => ?_) (fun c => pc_some x2)
  refine pc_bind (Q := fun (u : Mem) => u b 2 = w b 2 ∧ u 100 0 = w 100 0) (fun u hu => ⟨?_, ?_⟩) (fun u _ hu => pc_bind (pc_any _) (fun r _ _ => pc_some hu))
  · rw [fr_X8_tryWith b hb _ _ _ u hu b 2 (by omega)]
    exact x1
  · rw [pc_try0 hb (by rw [x1]; exact hM) u hu]
    exact x2
theorem pc_best0 {b : Nat} (hb : BrO b) {w : Mem} {K : Int32} (hM : 0 ≤ (w b 2).toInt ∧ (w b 2).toInt ≤ 8) : Pc (fun v => v.2 100 0 = w 100 0) (f_X8_bestToLearn b K w) := by
  have hbb : b = 112 ∨ b = 119 := hb
  unfold f_X8_bestToLearn
  simp only [bind_eta2]
  refine pc_lp (fun (s : Int32 × Int32 × Int32 × Mem) => s.2.2.2 b 2 = w b 2 ∧ s.2.2.2 100 0 = w 100 0) ?_ _ _ ⟨rfl, rfl⟩
  intro s hX
  obtain ⟨x1, x2⟩ := hX
  refine pc_ite (fun c => ?_) (fun c => pc_some x2)
  refine pc_bind (pc_any _) (fun r1 _ _ => ?_)
  refine pc_bind (Q := fun (v2 : Int32 × Mem) => v2.2 b 2 = w b 2 ∧ v2.2 100 0 = w 100 0) ?_ (fun v2 _ h2 => pc_bind (pc_any _) (fun v3 _ _ => pc_some h2))
  refine pc_ite (fun _ => fun v hv => ⟨?_, ?_⟩) (fun _ => pc_some ⟨x1, x2⟩)
  · rw [fr_X8_worthOfAll b hb _ _ v hv b 2 (by omega)]
    exact x1
  · rw [pc_worth0 hb (by rw [x1]; exact hM) v hv]
    exact x2
theorem pc_told0 {w : Mem} {k : Int32} (hM : 0 ≤ (w (brp (w 0 8)) 2).toInt ∧ (w (brp (w 0 8)) 2).toInt ≤ 8) : Pc (fun v => v.2 100 0 = w 100 0) (f_X9_told k w) := by
  unfold f_X9_told
  simp only [bind_eta2]
  repeat' (refine pc_ite (fun _ => ?_) (fun _ => ?_))
  all_goals first
    | exact pc_some rfl
    | exact pc_best0 (brp_ok _) hM
    | exact pc_bind (pc_any _) (fun r _ _ => pc_some rfl)
theorem pc_fill0 {b : Nat} (hb : BrO b) {w : Mem} (hM : 0 ≤ (w b 2).toInt ∧ (w b 2).toInt ≤ 8) : Pc (fun v => v 100 0 = w 100 0) (f_X5_fill b w) := by
  have hbb : b = 112 ∨ b = 119 := hb
  unfold f_X5_fill
  simp only [bind_eta1]
  refine pc_pw (pc_lp (fun (s : Int32 × Mem) => s.2 b 2 = w b 2 ∧ s.2 100 0 = w 100 0) ?_ _ _ ⟨by show wu w 101 4 0 b 2 = w b 2; exact wu_ne (by omega), by show wu w 101 4 0 100 0 = w 100 0; exact wu_ne (by omega)⟩)
  intro s hX
  obtain ⟨x1, x2⟩ := hX
  refine pc_ite (fun c => ?_) (fun c => pc_some x2)
  refine pc_bind (pc_any _) (fun r1 _ _ => ?_)
  refine pc_bind (Q := fun (v2 : Mem) => v2 b 2 = w b 2 ∧ v2 100 0 = w 100 0) ?_ (fun v2 _ h2 => pc_some h2)
  refine pc_ite (fun _ => pc_some ⟨x1, x2⟩) (fun _ => ?_)
  refine pc_bind (Q := fun (u : Mem) => u b 2 = w b 2 ∧ u 100 0 = w 100 0) (fun u hu => ⟨?_, ?_⟩) (fun u _ hu => ?_)
  · rw [fr_X8_tryWith b hb _ _ _ u hu b 2 (by omega)]
    exact x1
  · rw [pc_try0 hb (by rw [x1]; exact hM) u hu]
    exact x2
  · refine pc_wr (fun _ => pc_bind (pc_any _) (fun r6 _ _ => pc_wr (fun _ => pc_bind (pc_any _) (fun r8 _ _ => pc_wr (fun _ => pc_wr (fun _ => pc_pw (pc_some ⟨?_, ?_⟩)))))))
    · rw [wu_ne (by omega), wu_ne (by omega), wu_ne (by omega), wu_ne (by omega), wu_ne (by omega)]
      exact hu.1
    · rw [wu_ne (by omega), wu_ne (by omega), wu_ne (by omega), wu_ne (by omega), wu_ne (by omega)]
      exact hu.2
theorem pc_queue0 {w : Mem} {k : Int32} (hM : 0 ≤ (w (brp (w 0 8)) 2).toInt ∧ (w (brp (w 0 8)) 2).toInt ≤ 8) : Pc (fun v => v.2 100 0 = w 100 0) (f_X9_queue k w) := by
  unfold f_X9_queue
  refine pc_ite (fun _ => pc_some rfl) (fun _ => pc_ite (fun _ => pc_some rfl) (fun _ => pc_ite (fun _ => ?_) (fun _ => pc_some rfl)))
  refine pc_bind (pc_fill0 (brp_ok _) hM) (fun u _ hu => ?_)
  refine pc_bind (Q := fun (v : Mem) => v 100 0 = w 100 0) (fun v hv => by show v 100 0 = w 100 0; rw [fr_X5_tryOrders u v hv 100 0 (by omega)]; exact hu) (fun v _ hv => pc_ite (fun _ => pc_some hv) (fun _ => pc_some hv))
