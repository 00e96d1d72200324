/-! who sits rises -/
theorem cl_2 : (2 : Int32).toNatClampNeg = 2 := by decide
theorem cl_5 : (5 : Int32).toNatClampNeg = 5 := by decide
theorem pI_0 : pI 0 = 0 := by decide
theorem pc_cpay {b : Nat} {w : Mem} {x : Int32} (hq : 1 ≤ (w b 0).toInt) : Pc (fun r => r = x / w b 0 * w b 1) (f_X1_payFor b x w) := by
  unfold f_X1_payFor
  have t1 := tl_1
  rw [if_neg (show ¬ w b 0 < 1 by rw [Int32.lt_iff_toInt_lt]; omega)]
  exact pc_nz (fun _ => pc_some rfl)
theorem pc_rpay {w' : Mem} {x : Int32} : Pc (fun r => r = x / w' 134 15 * w' 134 16) (f_X10_payFor x w') := by
  unfold f_X10_payFor
  exact pc_nz (fun _ => pc_some rfl)
theorem pay_rng {x q p : Int32} (h0 : 0 ≤ x.toInt) (h1 : x.toInt ≤ 2400) (hq : 1 ≤ q.toInt) (hp : 1 ≤ p.toInt ∧ p.toInt ≤ 9) : 0 ≤ (x / q * p).toInt ∧ (x / q * p).toInt ≤ 21600 := by
  have d := i_divb h0 (show 0 < q.toInt by omega)
  have m0 : 0 ≤ (x / q).toInt * p.toInt := Int.mul_nonneg d.1 (by omega)
  have m1 : (x / q).toInt * p.toInt ≤ 21600 := by
    rcases (show p.toInt = 1 ∨ p.toInt = 2 ∨ p.toInt = 3 ∨ p.toInt = 4 ∨ p.toInt = 5 ∨ p.toInt = 6 ∨ p.toInt = 7 ∨ p.toInt = 8 ∨ p.toInt = 9 by omega) with e | e | e | e | e | e | e | e | e <;> rw [e] <;> omega
  rw [i_mul (by omega) (by omega)]
  omega
def CapP (p x r : Int) : Prop := (999999 < p + x ∧ r = 999999) ∨ (¬ 999999 < p + x ∧ r = p + x)
theorem cap_eq {p x r s : Int} (h : CapP p x r) (g : CapP p x s) : r = s := by
  rcases h with ⟨h1, h2⟩ | ⟨h1, h2⟩
  · rcases g with ⟨g1, g2⟩ | ⟨g1, g2⟩
    · rw [h2, g2]
    · exact absurd h1 g1
  · rcases g with ⟨g1, g2⟩ | ⟨g1, g2⟩
    · exact absurd g1 h1
    · rw [h2, g2]
theorem cap_rng {p x r : Int} (h : CapP p x r) (hp : 0 ≤ p ∧ p ≤ 999999) (hx : 0 ≤ x) : 0 ≤ r ∧ r ≤ 999999 := by
  rcases h with ⟨h1, h2⟩ | ⟨h1, h2⟩
  · omega
  · omega
theorem cap_c {C p x : Int32} (tC : C.toInt = 999999) (hp : 0 ≤ p.toInt ∧ p.toInt ≤ 999999) (hx : 0 ≤ x.toInt ∧ x.toInt ≤ 21600) : CapP p.toInt x.toInt (p + (if C - p < x then C - p else x)).toInt := by
  have s1 : (C - p).toInt = C.toInt - p.toInt := i_sub (by omega) (by omega)
  by_cases c : C - p < x
  · rw [if_pos c]
    rw [Int32.lt_iff_toInt_lt] at c
    have s2 : (p + (C - p)).toInt = p.toInt + (C - p).toInt := i_add (by omega) (by omega)
    exact Or.inl ⟨by omega, by omega⟩
  · rw [if_neg c]
    rw [Int32.lt_iff_toInt_lt] at c
    have s2 : (p + x).toInt = p.toInt + x.toInt := i_add (by omega) (by omega)
    exact Or.inr ⟨by omega, s2⟩
theorem rc_leave {b : Nat} (hb : BrO b) {w w' : Mem} (hB : BrC b w w') (hE : EvC 3 (w' 146) b w) (hs : 0 ≤ (w 3 4).toInt) : Rc (fun q q2 => EvC 3 (q2.2 146) b q.2) (f_X3_leaveSeat b w) (f_X10_rises w') := by
  have hbb : b = 112 ∨ b = 119 := hb
  have t0 := tl_0
  have tm := tl_m1
  obtain ⟨C, eC⟩ : ∃ C : Int32, C = 999999 := ⟨_, rfl⟩
  have tC : C.toInt = 999999 := by rw [eC]; exact tl_999999
  obtain ⟨a1, a2, a3, a4, a5⟩ := hE
  obtain ⟨b1, b2, b3, b4, b5⟩ := hB
  have e4 : w 3 4 = w' 146 4 := a1.2.2.2.2.1
  obtain ⟨t, et⟩ : ∃ t, t = w 3 4 := ⟨_, rfl⟩
  rw [← et] at e4 hs
  have hn : t.toInt < (w b 3).toInt := by rw [e4]; exact a2.2.2.2.1.2
  obtain ⟨j, ej⟩ : ∃ j, t.toNatClampNeg = j := ⟨_, rfl⟩
  have hj := i_clq hs
  rw [ej] at hj
  have i7 : ((7 : Int32) + t).toNatClampNeg = 7 + j := by rw [ix (d := 7) tl_7' (by omega) hs (by omega), ej]
  have i13 : ((13 : Int32) + t).toNatClampNeg = 13 + j := by rw [ix (d := 13) tl_13 (by omega) hs (by omega), ej]
  obtain ⟨⟨E3, E4, E5⟩, _, _, g5⟩ := b5 j (by omega)
  obtain ⟨⟨w1, w2⟩, w3⟩ := a5 j (by omega)
  have w2' : w 5 j = w' 146 (13 + j) := w2
  have pM : 2 ^ (w b 2).toInt.toNat ≤ 2 ^ 8 := Nat.pow_le_pow_right (by decide) (by omega)
  have p6 : 2 ^ (w b 3).toInt.toNat ≤ 2 ^ 6 := Nat.pow_le_pow_right (by decide) (by omega)
  have hsat : 0 ≤ (w' 146 (13 + j)).toInt ∧ (w' 146 (13 + j)).toInt ≤ 2400 := by
    have hp8 := pI_le (x := w' 146 5) (M := 8) (by omega) a2.2.2.2.2.1.1 (by omega)
    rcases w3 with ⟨_, _, z5, _⟩ | ⟨_, _, _, z6, z7⟩ | ⟨_, _, z5, _⟩ | ⟨_, _, z5, _⟩
    · exact absurd (by rw [← e4]; omega) z5
    · omega
    · exact absurd (by rw [← e4]; omega) z5
    · exact absurd (by rw [← e4]; omega) z5
  have hq : (1 ≤ (w b 0).toInt ∧ (w b 0).toInt ≤ 60) ∧ (1 ≤ (w b 1).toInt ∧ (w b 1).toInt ≤ 9) := by
    rcases b2 with ⟨_, _, _, z⟩ | z
    · rw [z, t0] at hn; omega
    · exact z
  obtain ⟨pay, epay⟩ : ∃ pay, pay = w' 146 (13 + j) / w b 0 * w b 1 := ⟨_, rfl⟩
  have hpay := pay_rng hsat.1 hsat.2 hq.1.1 hq.2
  rw [← epay] at hpay
  have hpaid := a2.2.1
  obtain ⟨kn, ekn⟩ : ∃ kn, kn = w' 146 3 ||| (if w' 143 j = 3 then ((w' 145 j &&& (w' 146 3 ^^^ -1)) &&& (-(w' 145 j &&& (w' 146 3 ^^^ -1)))) else 0) := ⟨_, rfl⟩
  -- the class
  have HL : Pc (fun q => (∀ k i, ¬ (k = 3 ∧ (i = 2 ∨ i = 3 ∨ i = 4 ∨ i = 5 ∨ i = 6 ∨ i = 8)) → q.2 k i = w k i) ∧ CapP (w' 146 2).toInt pay.toInt (q.2 3 2).toInt ∧ q.2 3 3 = kn ∧ q.2 3 4 = -1 ∧ q.2 3 5 = 0 ∧ q.2 3 6 = -1 ∧ q.2 3 8 = setB (w 3 8) t) (f_X3_leaveSeat b w) := by
    unfold f_X3_leaveSeat
    rw [← et, ← eC]
    refine pc_bind (Q := fun v => v = wu (wu (wu w 3 4 (-1)) 3 5 0) 3 6 (-1)) (by unfold f_X3_emptySeat; exact pc_pw (pc_pw (pc_pw (pc_some rfl)))) (fun v _ hv => ?_)
    have V : ∀ k i, ¬ (k = 3 ∧ (i = 4 ∨ i = 5 ∨ i = 6)) → v k i = w k i := fun k i h => by rw [hv, wu_ne (by omega), wu_ne (by omega), wu_ne (by omega)]
    have V4 : v 3 4 = -1 := by rw [hv, wu_ne (by omega), wu_ne (by omega), wu_at]
    have V5 : v 3 5 = 0 := by rw [hv, wu_ne (by omega), wu_at]
    have V6 : v 3 6 = -1 := by rw [hv, wu_at]
    have vb3 : v b 3 = w b 3 := V b 3 (by omega)
    refine pc_bind (pc_hasT (by rw [vb3]; exact b3.2.2)) (fun r _ hr => ?_)
    rw [vb3] at hr
    rcases hr with ⟨r1, _⟩ | ⟨_, n⟩
    · rw [if_neg (show ¬ r = 0 by rw [r1]; decide)]
      refine pc_pw ?_
      obtain ⟨y, ey⟩ : ∃ y, y = wu v 3 8 (v 3 8 ||| ((1 : Int32) <<< (t &&& 31))) := ⟨_, rfl⟩
      rw [← ey]
      have Y : ∀ k i, ¬ (k = 3 ∧ i = 8) → y k i = v k i := fun k i h => by rw [ey, wu_ne h]
      have Y8 : y 3 8 = setB (w 3 8) t := by rw [ey, wu_at, V 3 8 (by omega)]; rfl
      refine pc_rd (fun _ => ?_)
      rw [ej, Y 5 j (by omega), V 5 j (by omega), w2']
      refine pc_bind (pc_cpay (by rw [Y b 0 (by omega), V b 0 (by omega)]; exact hq.1.1)) (fun r5 _ h5 => ?_)
      rw [Y b 0 (by omega), V b 0 (by omega), Y b 1 (by omega), V b 1 (by omega), ← epay] at h5
      rw [h5, Y 3 2 (by omega), V 3 2 (by omega), a1.2.2.1]
      refine pc_lt (pc_pw ?_)
      have hm2 := cap_c tC hpaid hpay
      obtain ⟨m, em⟩ : ∃ m, m = (if C - w' 146 2 < pay then C - w' 146 2 else pay) := ⟨_, rfl⟩
      rw [← em] at hm2 ⊢
      obtain ⟨x, ex⟩ : ∃ x, x = wu y 3 2 (w' 146 2 + m) := ⟨_, rfl⟩
      rw [← ex]
      have X : ∀ k i, ¬ (k = 3 ∧ i = 2) → x k i = y k i := fun k i h => by rw [ex, wu_ne h]
      have X2 : x 3 2 = w' 146 2 + m := by rw [ex, wu_at]
      have XW : ∀ k i, ¬ k = 3 → x k i = w k i := fun k i h => by rw [X k i (by omega), Y k i (by omega), V k i (by omega)]
      have x3 : x 3 3 = w' 146 3 := by rw [X 3 3 (by omega), Y 3 3 (by omega), V 3 3 (by omega), a1.2.2.2.1]
      refine pc_bind (Q := fun r8 => r8 = if w' 143 j = 3 then 1 else 0) ?_ (fun r8 _ h8 => ?_)
      · unfold f_X1_isProfessor
        refine pc_bind (pc_hasT (by rw [XW b 3 (by omega)]; exact b3.2.2)) (fun q _ hq2 => ?_)
        rw [XW b 3 (by omega)] at hq2
        rcases hq2 with ⟨q1, _⟩ | ⟨_, n⟩
        · rw [if_neg (show ¬ q = 0 by rw [q1]; decide)]
          refine pc_rd (fun _ => ?_)
          rw [ej, XW (b + 3) j (by omega), E3]
          exact pc_ite (fun c => pc_some (by rw [if_pos c])) (fun c => pc_some (by rw [if_neg c]))
        · exact absurd ⟨hs, hn⟩ n
      · refine pc_bind (Q := fun v9 => v9 3 3 = kn ∧ ∀ k i, ¬ (k = 3 ∧ i = 3) → v9 k i = x k i) ?_ (fun v9 _ h9 => pc_some ?_)
        · by_cases c : w' 143 j = 3
          · rw [if_pos c] at h8
            rw [if_neg (show ¬ r8 = 0 by rw [h8]; decide)]
            refine pc_rd (fun _ => ?_)
            rw [ej, XW (b + 5) j (by omega), E5]
            unfold f_X3_takeUp
            simp only [bind_eta1]
            refine pc_lt (pc_pw (pc_some ⟨?_, fun k i h => wu_ne h⟩))
            rw [wu_at, x3, ekn, if_pos c]
          · rw [if_neg c] at h8
            rw [if_pos h8]
            refine pc_some ⟨?_, fun k i _ => rfl⟩
            rw [x3, ekn, if_neg c, Int32.or_zero]
        · dsimp only
          refine ⟨fun k i h => ?_, ?_, h9.1, ?_, ?_, ?_, ?_⟩
          · rw [h9.2 k i (by omega), X k i (by omega), Y k i (by omega), V k i (by omega)]
          · rw [h9.2 3 2 (by omega), X2]; exact hm2
          · rw [h9.2 3 4 (by omega), X 3 4 (by omega), Y 3 4 (by omega), V4]
          · rw [h9.2 3 5 (by omega), X 3 5 (by omega), Y 3 5 (by omega), V5]
          · rw [h9.2 3 6 (by omega), X 3 6 (by omega), Y 3 6 (by omega), V6]
          · rw [h9.2 3 8 (by omega), X 3 8 (by omega), Y8]
    · exact absurd ⟨hs, hn⟩ n
  -- the reference
  have HR : Pc (fun q => (∀ k i, ¬ k = 146 → q.2 k i = w' k i) ∧ (∀ i, ¬ (i = 2 ∨ i = 3 ∨ i = 4 ∨ i = 5 ∨ i = 6 ∨ i = 7 + j) → q.2 146 i = w' 146 i) ∧ CapP (w' 146 2).toInt pay.toInt (q.2 146 2).toInt ∧ q.2 146 3 = kn ∧ q.2 146 4 = -1 ∧ q.2 146 5 = 0 ∧ q.2 146 6 = -1 ∧ q.2 146 (7 + j) = 2) (f_X10_rises w') := by
    unfold f_X10_rises
    rw [← eC]
    refine pc_rd (fun _ => ?_)
    rw [cl_4, ← e4]
    refine pc_rd (fun _ => ?_)
    rw [i13]
    refine pc_bind pc_rpay (fun r3 _ h3 => ?_)
    rw [← b1.1, ← b1.2.1, ← epay] at h3
    rw [h3]
    refine pc_rd (fun _ => ?_)
    rw [cl_2]
    have f1 : (w' 146 2 + pay).toInt = (w' 146 2).toInt + pay.toInt := i_add (by omega) (by omega)
    refine pc_bind (Q := fun v5 => CapP (w' 146 2).toInt pay.toInt v5.toInt) (pc_ite (fun c => pc_some ?_) (fun c => pc_rd (fun _ => pc_some ?_))) (fun v5 _ h5 => ?_)
    · rw [Int32.lt_iff_toInt_lt] at c
      exact Or.inl ⟨by omega, tC⟩
    · rw [Int32.lt_iff_toInt_lt] at c
      rw [cl_2]
      exact Or.inr ⟨by omega, f1⟩
    · refine pc_wr (fun _ => pc_wr (fun _ => pc_wr (fun _ => pc_wr (fun _ => pc_wr (fun _ => ?_)))))
      rw [cl_2, i7, cl_4, cl_5, cl_6]
      obtain ⟨y, ey⟩ : ∃ y, y = wu (wu (wu (wu (wu w' 146 2 v5) 146 (7 + j) 2) 146 4 (-1)) 146 5 0) 146 6 (-1) := ⟨_, rfl⟩
      rw [← ey]
      have Y : ∀ k i, ¬ (k = 146 ∧ (i = 2 ∨ i = 4 ∨ i = 5 ∨ i = 6 ∨ i = 7 + j)) → y k i = w' k i := fun k i h => by rw [ey, wu_ne (by omega), wu_ne (by omega), wu_ne (by omega), wu_ne (by omega), wu_ne (by omega)]
      have Y2 : y 146 2 = v5 := by rw [ey, wu_ne (by omega), wu_ne (by omega), wu_ne (by omega), wu_ne (by omega), wu_at]
      have Y7 : y 146 (7 + j) = 2 := by rw [ey, wu_ne (by omega), wu_ne (by omega), wu_ne (by omega), wu_at]
      have Y4 : y 146 4 = -1 := by rw [ey, wu_ne (by omega), wu_ne (by omega), wu_at]
      have Y5 : y 146 5 = 0 := by rw [ey, wu_ne (by omega), wu_at]
      have Y6 : y 146 6 = -1 := by rw [ey, wu_at]
      refine pc_rd (fun _ => pc_rd (fun _ => pc_lt (pc_rd (fun _ => pc_rd (fun _ => ?_)))))
      rw [ej, cl_3, Y 145 j (by omega), Y 146 3 (by omega), Y 143 j (by omega)]
      refine pc_bind (Q := fun v16 => w' 146 3 ||| v16 = kn) (pc_ite (fun c => pc_some (by rw [ekn, if_pos c])) (fun c => pc_some (by rw [ekn, if_neg c]))) (fun v16 _ h16 => pc_wr (fun _ => pc_some ?_))
      rw [cl_3, h16]
      dsimp only
      refine ⟨fun k i h => ?_, fun i h => ?_, ?_, ?_, ?_, ?_, ?_, ?_⟩
      · rw [wu_ne (by omega), Y k i (by omega)]
      · rw [wu_ne (by omega), Y 146 i (by omega)]
      · rw [wu_ne (by omega), Y2]; exact h5
      · rw [wu_at]
      · rw [wu_ne (by omega), Y4]
      · rw [wu_ne (by omega), Y5]
      · rw [wu_ne (by omega), Y6]
      · rw [wu_ne (by omega), Y7]
  intro q q2 hq1 hq2
  obtain ⟨l1, l2, l3, l4, l5, l6, l8⟩ := HL q hq1
  obtain ⟨m1, m2, m3, m4, m5, m6, m7, m8⟩ := HR q2 hq2
  have hkn : 0 ≤ kn.toInt ∧ kn.toInt < (2 ^ (w b 2).toInt.toNat : Nat) := by
    rw [ekn]
    have gc := lt_all b3.1.1 b3.1.2 g5
    rw [E5] at gc
    have f0 := i_and_l (x := w' 145 j) (y := w' 146 3 ^^^ -1) gc.1
    have f1 := i_and_l (x := w' 145 j &&& (w' 146 3 ^^^ -1)) (y := -(w' 145 j &&& (w' 146 3 ^^^ -1))) f0.1
    by_cases c : w' 143 j = 3
    · rw [if_pos c]
      exact i_or (by omega) a2.2.2.1.1 a2.2.2.1.2 f1.1 (by omega)
    · rw [if_neg c, Int32.or_zero]
      exact a2.2.2.1
  have pz := Nat.two_pow_pos (w b 2).toInt.toNat
  have eb2 : q.2 b 2 = w b 2 := l1 b 2 (by omega)
  have eb3 : q.2 b 3 = w b 3 := l1 b 3 (by omega)
  refine ⟨?_, ?_, ?_, ?_, fun s hs2 => ?_⟩
  · rw [l1 3 0 (by omega), l1 3 1 (by omega), m2 0 (by omega), m2 1 (by omega), l3, m4, l4, m5, l5, m6, l6, m7]
    exact ⟨a1.1, a1.2.1, by rw [i_eq_iff]; exact cap_eq l2 m3, rfl, rfl, rfl, rfl⟩
  · rw [m2 1 (by omega), m4, m5, m6, m7, eb2, eb3, tm, t0]
    exact ⟨a2.1, cap_rng m3 hpaid hpay.1, hkn, by omega, by omega, by omega⟩
  · rw [m6, m7]
    exact fun _ => ⟨rfl, rfl⟩
  · rw [l1 3 7 (by omega), l8, l1 3 9 (by omega), eb3]
    exact ⟨a4.1, set_rng (by omega) a4.2.1.1 a4.2.1.2 hs (by omega), a4.2.2⟩
  · rw [eb3] at hs2
    obtain ⟨g1, g3⟩ := a5 s hs2
    rw [l1 (b + 4) s (by omega), l1 3 7 (by omega), l8, l1 3 9 (by omega), l1 (3 + 1) s (by omega), l1 (3 + 2) s (by omega), m5, m6, m2 (13 + s) (by omega), m2 (19 + s) (by omega), bt_set a4.2.1.1 (by omega) hs (by omega) (by omega), ej]
    refine ⟨g1, ?_⟩
    by_cases e : s = j
    · rw [e, if_pos rfl, m8]
      rw [e] at g3
      rcases g3 with ⟨_, _, z5, _⟩ | ⟨_, ⟨z2, z3, z4⟩, _⟩ | ⟨_, _, z5, _⟩ | ⟨_, _, z5, _⟩
      · exact absurd (by rw [← e4]; omega) z5
      · exact Or.inr (Or.inr (Or.inl ⟨rfl, ⟨z2, rfl, z4⟩, by rw [tm]; omega, hsat.1, hsat.2⟩))
      · exact absurd (by rw [← e4]; omega) z5
      · exact absurd (by rw [← e4]; omega) z5
    · rw [if_neg e, m2 (7 + s) (by omega)]
      rcases g3 with ⟨z1, z2, _, z6⟩ | ⟨_, _, z5, _⟩ | ⟨z1, z2, _, z6⟩ | ⟨z1, z2, _, z6⟩
      · exact Or.inl ⟨z1, z2, by rw [tm]; omega, z6⟩
      · rw [← e4] at z5; omega
      · exact Or.inr (Or.inr (Or.inl ⟨z1, z2, by rw [tm]; omega, z6⟩))
      · exact Or.inr (Or.inr (Or.inr ⟨z1, z2, by rw [tm]; omega, z6⟩))
