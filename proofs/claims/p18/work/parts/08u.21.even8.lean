/-! who sits is told of a matter -/
theorem pc_stayR {b : Nat} {w w' : Mem} {t m : Int32} (hB : BrC b w w') (ht : 0 ≤ t.toInt ∧ t.toInt < (w b 3).toInt) (hm : 0 ≤ m.toInt ∧ m.toInt < (w b 2).toInt) : Pc (fun r => 0 ≤ r.toInt ∧ r.toInt ≤ 300) (f_X10_stayOf t m w') := by
  obtain ⟨b1, b2, b3, b4, b5⟩ := hB
  have ej := i_clq ht.1
  have ei := i_clq hm.1
  obtain ⟨j, hj⟩ : ∃ j, t.toNatClampNeg = j := ⟨_, rfl⟩
  obtain ⟨i, hi⟩ : ∃ i, m.toNatClampNeg = i := ⟨_, rfl⟩
  rw [hj] at ej
  rw [hi] at ei
  obtain ⟨⟨E1, E2⟩, g1, g2⟩ := b4 i (by omega)
  obtain ⟨⟨E3, E4, E5⟩, g3, g4, g5⟩ := b5 j (by omega)
  rw [E1] at g1
  rw [E4] at g4
  have t0 := tl_0
  have t1 := tl_1
  unfold f_X10_stayOf
  refine pc_rd (fun _ => pc_bind pc_has (fun r _ _ => pc_ite (fun _ => pc_some (by omega)) (fun _ => pc_rd (fun _ => pc_rd (fun _ => ?_)))))
  rw [hj]
  have d1 : (w' 141 i - w' 144 j).toInt = (w' 141 i).toInt - (w' 144 j).toInt := i_sub (by omega) (by omega)
  have d : (w' 141 i / 2).toInt = (w' 141 i).toInt / (2 : Nat) := i_divk (k := 2) tl_2 (by decide) (by omega)
  have d2 : (w' 141 i / 2 - w' 144 j).toInt = (w' 141 i / 2).toInt - (w' 144 j).toInt := i_sub (by omega) (by omega)
  refine pc_ite (fun _ => pc_rd (fun _ => ?_)) (fun _ => pc_ite (fun _ => pc_rd (fun _ => pc_some ?_)) (fun _ => pc_ite (fun _ => pc_rd (fun _ => ?_)) (fun _ => pc_ite (fun _ => pc_rd (fun _ => pc_rd (fun _ => pc_bind (Q := fun r => 0 ≤ r.toInt ∧ r.toInt ≤ 32) (fun r hr => ?_) (fun r _ hr => pc_some ?_)))) (fun _ => pc_some (by omega)))))
  · rw [hi]
    refine pc_ite (fun c => pc_rd (fun _ => pc_some ?_)) (fun _ => pc_some (by omega))
    rw [Int32.lt_iff_toInt_lt] at c
    rw [hi]
    omega
  · rw [hi]
    omega
  · rw [hi]
    refine pc_ite (fun c => pc_rd (fun _ => pc_some ?_)) (fun _ => pc_some (by omega))
    rw [Int32.lt_iff_toInt_lt] at c
    rw [hi]
    omega
  · obtain ⟨v, hv, hp⟩ := sf_X10_bits (w' 142 m.toNatClampNeg)
    rw [hr] at hv
    cases hv
    exact ⟨hp.1, hp.2.1⟩
  · rw [hi]
    have f1 : ((5 : Int32) * r).toInt = 5 * r.toInt := i_mulkl tl_5 (by omega) (by omega)
    have f2 : (w' 141 i + (5 : Int32) * r).toInt = (w' 141 i).toInt + ((5 : Int32) * r).toInt := i_add (by omega) (by omega)
    omega
set_option maxRecDepth 100000 in
theorem setm_tab : ∀ x : Fin 256, ∀ m : Fin 8, hbI (setB (Int32.ofNat x.1) (Int32.ofNat m.1)) (Int32.ofNat m.1) = 1 := by decide +kernel
theorem told_up {x m : Int32} (h0 : 0 ≤ x.toInt) (h1 : x.toInt ≤ 255) (h2 : 0 ≤ m.toInt) (h3 : m.toInt ≤ 7) (h : hbI x m = 0) : pI x + 1 ≤ pI (setB x m) := by
  have s := i_shl1 (k := 7) (by decide) h2 (show m.toInt ≤ (7 : Nat) by omega)
  rcases pI_or (x := x) (y := (1 : Int32) <<< (m &&& 31)) h0 h1 (by omega) (by omega) with q | q
  · exfalso
    have hs := setm_tab ⟨x.toInt.toNat, by omega⟩ ⟨m.toInt.toNat, by omega⟩
    have hs' : hbI (setB (Int32.ofNat x.toInt.toNat) (Int32.ofNat m.toInt.toNat)) (Int32.ofNat m.toInt.toNat) = 1 := hs
    rw [← i_nat2 h0, ← i_nat2 h2] at hs'
    have e : setB x m = x := q
    rw [e, h] at hs'
    exact absurd hs' (by decide)
  · exact q
theorem rc_hearT {b : Nat} (hb : BrO b) {w w' : Mem} {m t : Int32} (hB : BrC b w w') (hE : EvC 3 (w' 146) b w) (et : t = w 3 4) (hs : 0 ≤ t.toInt) (hm : 0 ≤ m.toInt ∧ m.toInt < (w b 2).toInt) (hno : hbI (w' 146 5) m = 0) : Rc (fun q q2 => q.1 = q2.1 ∧ EvC 3 (q2.2 146) b q.2) ((f_X1_stayOf b (w 3 4) m w).bind fun r4 => pw 3 5 ((w 3 5) ||| ((1 : Int32) <<< (m &&& 31))) w fun w5 => pw 3 6 m w5 fun w6 => rd 6 (w6 5) (w6 3 4) fun x7 => wr 6 5 (w6 3 4) (x7 + r4) w6 fun w8 => (f_X3_passMinutes b r4 w8).bind fun w9 => some ((r4, w9))) ((f_X10_stayOf t m w').bind fun r3 => rd 25 (w' 146) (5 : Int32) fun x4 => wr 25 146 (5 : Int32) (x4 ||| ((1 : Int32) <<< (m &&& 31))) w' fun w5 => wr 25 146 (6 : Int32) m w5 fun w6 => rd 25 (w6 146) ((13 : Int32) + t) fun x7 => wr 25 146 ((13 : Int32) + t) (x7 + r3) w6 fun w8 => (f_X10_passes r3 w8).bind fun w9 => some ((r3, w9))) := by
  have hbb : b = 112 ∨ b = 119 := hb
  have t0 := tl_0
  have tm := tl_m1
  have hB0 := hB
  obtain ⟨a1, a2, a3, a4, a5⟩ := hE
  obtain ⟨b1, b2, b3, b4, b5⟩ := hB
  have e4 : w 3 4 = w' 146 4 := a1.2.2.2.2.1
  have hn : t.toInt < (w b 3).toInt := by rw [et, e4]; exact a2.2.2.2.1.2
  obtain ⟨j, ej⟩ : ∃ j, t.toNatClampNeg = j := ⟨_, rfl⟩
  have hj := i_clq hs
  rw [ej] at hj
  have i13 : ((13 : Int32) + t).toNatClampNeg = 13 + j := by rw [ix (d := 13) tl_13 (by omega) hs (by omega), ej]
  have pM : 2 ^ (w b 2).toInt.toNat ≤ 2 ^ 8 := Nat.pow_le_pow_right (by decide) (by omega)
  rw [← et]
  refine rc_bind (Q := fun x y => x = y ∧ 0 ≤ x.toInt ∧ x.toInt ≤ 300) (fun x y hx hy => ?_) (fun r r2 _ _ hr => ?_)
  · have h1 := rc_stayOf hB0 ⟨hs, hn⟩ hm x y hx hy
    have h2 := pc_stayR hB0 ⟨hs, hn⟩ hm y hy
    rw [← h1] at h2
    exact ⟨h1, h2⟩
  obtain ⟨rfl, hr0, hr1⟩ := hr
  refine rcl_pw (rcl_pw ?_)
  obtain ⟨y, ey⟩ : ∃ y, y = wu (wu w 3 5 (w 3 5 ||| ((1 : Int32) <<< (m &&& 31)))) 3 6 m := ⟨_, rfl⟩
  rw [← ey]
  have Y : ∀ k i, ¬ (k = 3 ∧ (i = 5 ∨ i = 6)) → y k i = w k i := fun k i h => by rw [ey, wu_ne (by omega), wu_ne (by omega)]
  have Y5 : y 3 5 = setB (w 3 5) m := by rw [ey, wu_ne (by omega), wu_at]; rfl
  have Y6 : y 3 6 = m := by rw [ey, wu_at]
  rw [Y 3 4 (by omega), ← et]
  refine rcl_rd (fun _ => rcl_wr (fun _ => ?_))
  rw [ej, Y 5 j (by omega)]
  refine rcr_rd (fun _ => rcr_wr (fun _ => rcr_wr (fun _ => ?_)))
  rw [cl_5, cl_6]
  obtain ⟨y', ey'⟩ : ∃ y', y' = wu (wu w' 146 5 (w' 146 5 ||| ((1 : Int32) <<< (m &&& 31)))) 146 6 m := ⟨_, rfl⟩
  rw [← ey']
  have Y' : ∀ k i, ¬ (k = 146 ∧ (i = 5 ∨ i = 6)) → y' k i = w' k i := fun k i h => by rw [ey', wu_ne (by omega), wu_ne (by omega)]
  have Y5' : y' 146 5 = setB (w' 146 5) m := by rw [ey', wu_ne (by omega), wu_at]; rfl
  have Y6' : y' 146 6 = m := by rw [ey', wu_at]
  refine rcr_rd (fun _ => rcr_wr (fun _ => ?_))
  rw [i13, Y' 146 (13 + j) (by omega)]
  obtain ⟨⟨w1, w2⟩, w3⟩ := a5 j (by omega)
  have w2' : w 5 j = w' 146 (13 + j) := w2
  rw [w2']
  obtain ⟨x, ex⟩ : ∃ x, x = wu y 5 j (w' 146 (13 + j) + r) := ⟨_, rfl⟩
  obtain ⟨x', ex'⟩ : ∃ x', x' = wu y' 146 (13 + j) (w' 146 (13 + j) + r) := ⟨_, rfl⟩
  rw [← ex, ← ex']
  have X : ∀ k i, ¬ (k = 3 ∧ (i = 5 ∨ i = 6)) → ¬ (k = 5 ∧ i = j) → x k i = w k i := fun k i h h2 => by rw [ex, wu_ne h2, Y k i h]
  have X' : ∀ k i, ¬ (k = 146 ∧ (i = 5 ∨ i = 6)) → ¬ (k = 146 ∧ i = 13 + j) → x' k i = w' k i := fun k i h h2 => by rw [ex', wu_ne h2, Y' k i h]
  have X5 : x 3 5 = setB (w 3 5) m := by rw [ex, wu_ne (by omega), Y5]
  have X6 : x 3 6 = m := by rw [ex, wu_ne (by omega), Y6]
  have X5' : x' 146 5 = setB (w' 146 5) m := by rw [ex', wu_ne (by omega), Y5']
  have X6' : x' 146 6 = m := by rw [ex', wu_ne (by omega), Y6']
  have Xs : x 5 j = w' 146 (13 + j) + r := by rw [ex, wu_at]
  have Xs' : x' 146 (13 + j) = w' 146 (13 + j) + r := by rw [ex', wu_at]
  have hBx : BrC b x x' := brc_of hB0 (fun k i k1 k2 => X k i (by omega) (by omega)) (X' 134 15 (by omega) (by omega)) (X' 134 16 (by omega) (by omega)) (X' 134 17 (by omega) (by omega)) (X' 134 18 (by omega) (by omega)) (fun k i k1 k2 => X' k i (by omega) (by omega))
  have xb2 : x b 2 = w b 2 := X b 2 (by omega) (by omega)
  have xb3 : x b 3 = w b 3 := X b 3 (by omega) (by omega)
  have hup := told_up a2.2.2.2.2.1.1 (by omega) hm.1 (by omega) hno
  have hrg := set_rng (x := w' 146 5) (t := m) (n := (w b 2).toInt.toNat) (by omega) a2.2.2.2.2.1.1 a2.2.2.2.2.1.2 hm.1 (by omega)
  have hEx : EvC 3 (x' 146) b x := by
    refine ⟨?_, ?_, ?_, ?_, fun s hs2 => ?_⟩
    · rw [X 3 0 (by omega) (by omega), X 3 1 (by omega) (by omega), X 3 2 (by omega) (by omega), X 3 3 (by omega) (by omega), X 3 4 (by omega) (by omega), X5, X6, X' 146 0 (by omega) (by omega), X' 146 1 (by omega) (by omega), X' 146 2 (by omega) (by omega), X' 146 3 (by omega) (by omega), X' 146 4 (by omega) (by omega), X5', X6']
      exact ⟨a1.1, a1.2.1, a1.2.2.1, a1.2.2.2.1, e4, by rw [a1.2.2.2.2.2.1], rfl⟩
    · rw [X' 146 1 (by omega) (by omega), X' 146 2 (by omega) (by omega), X' 146 3 (by omega) (by omega), X' 146 4 (by omega) (by omega), X5', X6', xb2, xb3]
      exact ⟨a2.1, a2.2.1, a2.2.2.1, a2.2.2.2.1, hrg, by omega, hm.2⟩
    · rw [X' 146 4 (by omega) (by omega), ← e4, ← et]
      intro e
      rw [e, tm] at hs
      omega
    · rw [X 3 7 (by omega) (by omega), X 3 8 (by omega) (by omega), X 3 9 (by omega) (by omega), xb3]
      exact a4
    · rw [xb3] at hs2
      obtain ⟨g1, g3⟩ := a5 s hs2
      rw [X (b + 4) s (by omega) (by omega), X 3 7 (by omega) (by omega), X 3 8 (by omega) (by omega), X 3 9 (by omega) (by omega), X (3 + 1) s (by omega) (by omega), X' 146 4 (by omega) (by omega), X5', X' 146 (7 + s) (by omega) (by omega), X' 146 (19 + s) (by omega) (by omega)]
      by_cases e : s = j
      · rw [e]
        rw [e] at g1 g3
        have q1 : x (3 + 2) j = w' 146 (13 + j) + r := Xs
        rw [q1, Xs']
        refine ⟨⟨g1.1, rfl⟩, ?_⟩
        rcases g3 with ⟨_, _, z5, _⟩ | ⟨z1, z2, z5, z6, z7⟩ | ⟨_, _, z5, _⟩ | ⟨_, _, z5, _⟩
        · exact absurd (by rw [← e4, ← et]; omega) z5
        · have hp8 := pI_le (x := w' 146 5) (M := 8) (by omega) a2.2.2.2.2.1.1 (by omega)
          have f : (w' 146 (13 + j) + r).toInt = (w' 146 (13 + j)).toInt + r.toInt := i_add (by omega) (by omega)
          exact Or.inr (Or.inl ⟨z1, z2, z5, by omega, by omega⟩)
        · exact absurd (by rw [← e4, ← et]; omega) z5
        · exact absurd (by rw [← e4, ← et]; omega) z5
      · rw [X (3 + 2) s (by omega) (by omega), X' 146 (13 + s) (by omega) (by omega)]
        refine ⟨g1, ?_⟩
        rcases g3 with g | ⟨_, _, z5, _⟩ | g | g
        · exact Or.inl g
        · rw [← e4, ← et] at z5; omega
        · exact Or.inr (Or.inr (Or.inl g))
        · exact Or.inr (Or.inr (Or.inr g))
  refine rc_bind (rc_passE hb hBx hEx ⟨hr0, hr1⟩) (fun u u' _ _ hQ => rc_some ⟨rfl, hQ.1⟩)
