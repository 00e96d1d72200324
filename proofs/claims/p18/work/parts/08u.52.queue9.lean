/-! who waits, in a row, with what each is worth -/
def pyF (b : Nat) (w w' : Mem) (K t : Nat) : Int := miF b w w' K t / (w b 0).toInt * (w b 1).toInt
def paF (b : Nat) (w : Mem) (t : Nat) : Int := 60 - 5 * (w (b + 4) t).toInt - (w 4 t).toInt
theorem pay_val {x q p : Int32} (h0 : 0 ≤ x.toInt) (h1 : x.toInt ≤ 2400) (hq : 1 ≤ q.toInt) (hp : 1 ≤ p.toInt ∧ p.toInt ≤ 9) : (x / q * p).toInt = x.toInt / q.toInt * p.toInt := by
  have d := i_divb h0 (show 0 < q.toInt by omega)
  have e : (x / q).toInt = x.toInt / q.toInt := i_divp h0 (by omega)
  have m0 : 0 ≤ (x / q).toInt * p.toInt := Int.mul_nonneg d.1 (by omega)
  have m1 : (x / q).toInt * p.toInt ≤ 21600 := by
    rcases (show p.toInt = 1 ∨ p.toInt = 2 ∨ p.toInt = 3 ∨ p.toInt = 4 ∨ p.toInt = 5 ∨ p.toInt = 6 ∨ p.toInt = 7 ∨ p.toInt = 8 ∨ p.toInt = 9 by omega) with e | e | e | e | e | e | e | e | e <;> rw [e] <;> omega
  rw [i_mul (by omega) (by omega), e]
theorem asc_top {W n : Nat} (h : W < 2 ^ n) : ∀ t, n ≤ t → ascL W t = ascL W n := by
  intro t
  induction t with
  | zero => intro hn; rw [show n = 0 by omega]
  | succ t ih =>
    intro hn
    by_cases c : n = t + 1
    · rw [c]
    · have e : ascL W (t + 1) = if W.testBit t = true then ascL W t ++ [t] else ascL W t := rfl
      have h2 : 2 ^ n ≤ 2 ^ t := Nat.pow_le_pow_right (by decide) (by omega)
      have h9 := Nat.testBit_lt_two_pow (x := W) (i := t) (by omega)
      rw [e, if_neg (by rw [h9]; decide)]
      exact ih (by omega)
theorem asc_le (W : Nat) : ∀ t, (ascL W t).length ≤ t := by
  intro t
  induction t with
  | zero => exact Nat.le_refl _
  | succ t ih =>
    have e : ascL W (t + 1) = if W.testBit t = true then ascL W t ++ [t] else ascL W t := rfl
    rw [e]
    by_cases c : W.testBit t = true
    · rw [if_pos c, List.length_append]
      have e1 : [t].length = 1 := rfl
      omega
    · rw [if_neg c]
      omega
theorem pc_pat {b : Nat} (hb : BrO b) {w u : Mem} {w' : Mem} {t : Nat} (hB : BrC b w w') (hu : ∀ k i, ¬ (99 ≤ k ∧ k ≤ 105) → u k i = w k i) (ht : (t : Int) < (w b 3).toInt) (h7 : bt (w 3 7) t = 1) (h4 : 0 ≤ (w 4 t).toInt ∧ (w 4 t).toInt ≤ 61) : Pc (fun (r : Int32) => r.toInt = paF b w t) (f_X3_patienceOf b (Int32.ofNat t) u) := by
  have hbb : b = 112 ∨ b = 119 := hb
  have b3 := hB.2.2.1
  have it := i_ofnat (n := t) (by omega)
  have ct := cN_of (n := t) (by omega)
  have hh := (hB.2.2.2.2 t ht).2.2.1
  have e3 : u b 3 = w b 3 := hu _ _ (by omega)
  unfold f_X3_patienceOf
  refine pc_bind (pc_hasT (by rw [e3]; exact b3.2.2)) (fun r1 _ h1 => ?_)
  rw [e3] at h1
  rcases h1 with ⟨e1, _⟩ | ⟨_, n⟩
  · rw [if_neg (show ¬ r1 = 0 by rw [e1]; decide)]
    refine pc_bind (pc_holds (by omega) (by omega)) (fun r2 _ h2 => ?_)
    rw [hu 3 7 (by omega)] at h2
    have h2' : r2 = bt (w 3 7) t := h2
    rw [if_neg (show ¬ r2 = 0 by rw [h2', h7]; decide)]
    refine pc_bind (pc_most (by rw [e3]; exact b3.2.2) ⟨by omega, by rw [e3]; omega⟩ (by rw [ct, hu _ _ (by omega)]; exact hh)) (fun r3 _ h3 => pc_rd (fun _ => pc_some ?_))
    rw [ct] at h3 ⊢
    unfold LimI at h3
    rw [hu (b + 4) t (by omega)] at h3
    rw [hu 4 t (by omega), i_sub (by omega) (by omega), h3]
    rfl
  · exact absurd ⟨by omega, by omega⟩ n
theorem pc_fill {b : Nat} (hb : BrO b) {w w' : Mem} (hB : BrC b w w') (hE : EvC 3 (w' 146) b w) (hG : BgP b w) (h100 : w 100 0 = 0) (hd : DefS b w w') : Pc (fun (v : Mem) => (∀ k i, ¬ (99 ≤ k ∧ k ≤ 105) → v k i = w k i) ∧ v 100 0 = 0 ∧ (v 101 4).toInt = ((ascL (w 3 7).toNatClampNeg 6).length : Nat) ∧ RowL v 0 (ascL (w 3 7).toNatClampNeg 6) ∧ ∀ a : Nat, (w 3 7).toNatClampNeg.testBit a = true → (v 103 a).toInt = miF b w w' (w 3 3).toNatClampNeg a ∧ (v 104 a).toInt = pyF b w w' (w 3 3).toNatClampNeg a ∧ (v 105 a).toInt = paF b w a) (f_X5_fill b w) := by
  have hbb : b = 112 ∨ b = 119 := hb
  have t0 := tl_0
  have b3 := hB.2.2.1
  have eK : w 3 3 = w' 146 3 := hE.1.2.2.2.1
  have hK : 0 ≤ (w 3 3).toInt ∧ (w 3 3).toInt < (2 ^ (w b 2).toInt.toNat : Nat) := by rw [eK]; exact hE.2.1.2.2.1
  have h7 := hE.2.2.2.1.1
  have p6 : 2 ^ (w b 3).toInt.toNat ≤ 2 ^ 6 := Nat.pow_le_pow_right (by decide) (by omega)
  have c7 := i_clq h7.1
  obtain ⟨W, eW⟩ : ∃ W, (w 3 7).toNatClampNeg = W := ⟨_, rfl⟩
  rw [eW] at c7 ⊢
  have hW : W < 2 ^ (w b 3).toInt.toNat := by omega
  unfold f_X5_fill
  simp only [bind_eta1]
  refine pc_pw (pc_lp (fun (s : Int32 × Mem) => ∃ t : Nat, s.1.toInt = (t : Int) ∧ (t : Int) ≤ (w b 3).toInt ∧ (∀ k i, ¬ (99 ≤ k ∧ k ≤ 105) → s.2 k i = w k i) ∧ s.2 100 0 = 0 ∧ (s.2 101 4).toInt = ((ascL W t).length : Nat) ∧ RowL s.2 0 (ascL W t) ∧ ∀ a : Nat, a < t → W.testBit a = true → (s.2 103 a).toInt = miF b w w' (w 3 3).toNatClampNeg a ∧ (s.2 104 a).toInt = pyF b w w' (w 3 3).toNatClampNeg a ∧ (s.2 105 a).toInt = paF b w a) ?_ _ _ ?_)
  · intro s hX
    obtain ⟨t, x1, x2, x3, x4, x5, x6, x7⟩ := hX
    have e3 : s.2 b 3 = w b 3 := x3 _ _ (by omega)
    rw [e3]
    have it := i_ofnat (n := t) (by omega)
    have es : s.1 = Int32.ofNat t := by rw [i_eq_iff, x1, it]
    have ct := cN_of (n := t) (by omega)
    have hasc : ascL W (t + 1) = if W.testBit t = true then ascL W t ++ [t] else ascL W t := rfl
    have hal := asc_le W t
    refine pc_ite (fun c => ?_) (fun c => pc_some ?_)
    · rw [Int32.lt_iff_toInt_lt, x1] at c
      have ea : (s.1 + 1).toInt = s.1.toInt + 1 := i_addk tl_1 (by omega) (by omega)
      rw [x3 3 7 (by omega)]
      refine pc_bind (pc_holds (by omega) (by omega)) (fun r2 _ h2 => ?_)
      have hbt := bt_tb (x := w 3 7) (t := t) h7.1 (by omega) (by omega)
      rw [eW] at hbt
      have h2' : r2 = bt (w 3 7) t := by rw [h2, es]; rfl
      by_cases hb1 : W.testBit t = true
      · rw [if_pos hb1] at hbt hasc
        rw [if_neg (show ¬ r2 = 0 by rw [h2', hbt]; decide)]
        have hq : (1 ≤ (w b 0).toInt ∧ (w b 0).toInt ≤ 60) ∧ (1 ≤ (w b 1).toInt ∧ (w b 1).toInt ≤ 9) := by
          rcases hB.2.1 with ⟨_, _, _, z⟩ | z
          · rw [z, t0] at c; omega
          · exact z
        have mr := miF_rng (K := (w 3 3).toNatClampNeg) hB (t := t) (by omega) hd
        have h4 : 0 ≤ (w 4 t).toInt ∧ (w 4 t).toInt ≤ 61 := by
          obtain ⟨⟨g1, _⟩, g3⟩ := hE.2.2.2.2 t (by omega)
          have g1' : w 4 t = w' 146 (19 + t) := g1
          have hh := (hB.2.2.2.2 t (by omega)).2.2.1
          rw [g1']
          rcases g3 with ⟨_, _, _, _, z7, z8⟩ | ⟨_, ⟨z2, _⟩, _⟩ | ⟨_, ⟨z2, _⟩, _⟩ | ⟨_, ⟨z2, _⟩, _⟩
          · omega
          · rw [z2] at hbt; exact absurd hbt (by decide)
          · rw [z2] at hbt; exact absurd hbt (by decide)
          · rw [z2] at hbt; exact absurd hbt (by decide)
        rw [x3 3 3 (by omega), es]
        refine pc_bind (Q := fun (u : Mem) => (∀ k i, ¬ (99 ≤ k ∧ k ≤ 105) → u k i = w k i) ∧ u 100 0 = 0 ∧ (u 101 4).toInt = ((ascL W (t + 1)).length : Nat) ∧ RowL u 0 (ascL W (t + 1)) ∧ ∀ a : Nat, a < t + 1 → W.testBit a = true → (u 103 a).toInt = miF b w w' (w 3 3).toNatClampNeg a ∧ (u 104 a).toInt = pyF b w w' (w 3 3).toNatClampNeg a ∧ (u 105 a).toInt = paF b w a) ?_ (fun u _ hu => pc_some ⟨t + 1, ?_, by omega, hu.1, hu.2.1, hu.2.2.1, hu.2.2.2.1, hu.2.2.2.2⟩)
        · refine pc_bind (Q := fun (v : Mem) => ((v 99 1).toInt = miF b w w' (w 3 3).toNatClampNeg t ∧ v 100 0 = 0) ∧ ∀ k i, ¬ (k = 100 ∨ (k = 99 ∧ 1 ≤ i ∧ i ≤ 3)) → v k i = s.2 k i) (fun v hv => ⟨pc_tryM hb hB hG hd x3 x4 (by omega) hK v hv, fr_X8_tryWith b hb _ _ _ v hv⟩) (fun v _ hv => ?_)
          refine pc_wr (fun _ => ?_)
          rw [ct]
          obtain ⟨v5, e5⟩ : ∃ v5, v5 = wu v 103 t (v 99 1) := ⟨_, rfl⟩
          rw [← e5]
          have V5 : ∀ k i, ¬ (k = 103 ∧ i = t) → v5 k i = v k i := fun k i h => by rw [e5, wu_ne h]
          have V5t : v5 103 t = v 99 1 := by rw [e5, wu_at]
          refine pc_bind (pc_cpay (by rw [V5 b 0 (by omega), hv.2 b 0 (by omega), x3 b 0 (by omega)]; exact hq.1.1)) (fun r6 _ h6 => ?_)
          rw [V5 99 1 (by omega), V5 b 0 (by omega), hv.2 b 0 (by omega), x3 b 0 (by omega), V5 b 1 (by omega), hv.2 b 1 (by omega), x3 b 1 (by omega)] at h6
          have h6' : r6.toInt = pyF b w w' (w 3 3).toNatClampNeg t := by
            rw [h6, pay_val (by omega) (by omega) hq.1.1 hq.2, hv.1.1]
            rfl
          refine pc_wr (fun _ => ?_)
          rw [ct]
          obtain ⟨v7, e7⟩ : ∃ v7, v7 = wu v5 104 t r6 := ⟨_, rfl⟩
          rw [← e7]
          have V7 : ∀ k i, ¬ (k = 104 ∧ i = t) → v7 k i = v5 k i := fun k i h => by rw [e7, wu_ne h]
          have V7t : v7 104 t = r6 := by rw [e7, wu_at]
          have F7 : ∀ k i, ¬ (99 ≤ k ∧ k ≤ 105) → v7 k i = w k i := fun k i h => by rw [V7 k i (by omega), V5 k i (by omega), hv.2 k i (by omega), x3 k i h]
          refine pc_bind (pc_pat hb hB F7 (by omega) hbt h4) (fun r8 _ h8 => pc_wr (fun _ => ?_))
          rw [ct]
          obtain ⟨v9, e9⟩ : ∃ v9, v9 = wu v7 105 t r8 := ⟨_, rfl⟩
          rw [← e9]
          have V9 : ∀ k i, ¬ (k = 105 ∧ i = t) → v9 k i = v7 k i := fun k i h => by rw [e9, wu_ne h]
          have V9t : v9 105 t = r8 := by rw [e9, wu_at]
          have z4 : v9 101 4 = s.2 101 4 := by rw [V9 101 4 (by omega), V7 101 4 (by omega), V5 101 4 (by omega), hv.2 101 4 (by omega)]
          have c4 := i_clq (i := v9 101 4) (by rw [z4, x5]; omega)
          have x5v : (v9 101 4).toInt = ((ascL W t).length : Nat) := by rw [z4]; exact x5
          have n4 : (v9 101 4).toNatClampNeg = (ascL W t).length := by omega
          refine pc_wr (fun _ => ?_)
          rw [n4]
          obtain ⟨v10, e10⟩ : ∃ v10, v10 = wu v9 102 (ascL W t).length (Int32.ofNat t) := ⟨_, rfl⟩
          rw [← e10]
          have V10 : ∀ k i, ¬ (k = 102 ∧ i = (ascL W t).length) → v10 k i = v9 k i := fun k i h => by rw [e10, wu_ne h]
          have V10t : v10 102 (ascL W t).length = Int32.ofNat t := by rw [e10, wu_at]
          refine pc_pw ?_
          have q4 : v10 101 4 = s.2 101 4 := by rw [V10 101 4 (by omega), z4]
          have q5 : (v10 101 4 + 1).toInt = (v10 101 4).toInt + 1 := i_addk tl_1 (by rw [q4, x5]; omega) (by rw [q4, x5]; omega)
          obtain ⟨v11, e11⟩ : ∃ v11, v11 = wu v10 101 4 (v10 101 4 + 1) := ⟨_, rfl⟩
          rw [← e11]
          have V11 : ∀ k i, ¬ (k = 101 ∧ i = 4) → v11 k i = v10 k i := fun k i h => by rw [e11, wu_ne h]
          have V114 : v11 101 4 = v10 101 4 + 1 := by rw [e11, wu_at]
          refine pc_some ⟨fun k i h => ?_, ?_, ?_, ?_, fun a ha hba => ?_⟩
          · show v11 k i = w k i
            rw [V11 k i (by omega), V10 k i (by omega), V9 k i (by omega)]
            exact F7 k i h
          · show v11 100 0 = 0
            rw [V11 100 0 (by omega), V10 100 0 (by omega), V9 100 0 (by omega), V7 100 0 (by omega), V5 100 0 (by omega)]
            exact hv.1.2
          · show (v11 101 4).toInt = ((ascL W (t + 1)).length : Nat)
            rw [V114, q5, q4, x5, hasc, List.length_append]
            rfl
          · show RowL v11 0 (ascL W (t + 1))
            rw [hasc]
            refine rowl_snoc _ 0 (rowl_of _ 0 x6 (fun j _ hj => ?_)) ?_
            · rw [V11 102 j (by omega), V10 102 j (by omega), V9 102 j (by omega), V7 102 j (by omega), V5 102 j (by omega), hv.2 102 j (by omega)]
            · rw [Nat.zero_add, V11 102 _ (by omega), V10t, it]
          · show (v11 103 a).toInt = _ ∧ (v11 104 a).toInt = _ ∧ (v11 105 a).toInt = _
            rw [V11 103 a (by omega), V11 104 a (by omega), V11 105 a (by omega), V10 103 a (by omega), V10 104 a (by omega), V10 105 a (by omega)]
            by_cases e : a = t
            · rw [e, V9 103 t (by omega), V9 104 t (by omega), V9t, V7 103 t (by omega), V7t, V5t]
              exact ⟨hv.1.1, h6', h8⟩
            · have g := x7 a (by omega) hba
              rw [V9 103 a (by omega), V9 104 a (by omega), V9 105 a (by omega), V7 103 a (by omega), V7 104 a (by omega), V7 105 a (by omega), V5 103 a (by omega), V5 104 a (by omega), V5 105 a (by omega), hv.2 103 a (by omega), hv.2 104 a (by omega), hv.2 105 a (by omega)]
              exact g
        · show (Int32.ofNat t + 1).toInt = ((t + 1 : Nat) : Int)
          rw [← es]
          omega
      · rw [if_neg hb1] at hbt hasc
        rw [if_pos (show r2 = 0 by rw [h2', hbt]), sb]
        refine pc_some ⟨t + 1, by show (s.1 + 1).toInt = ((t + 1 : Nat) : Int); omega, by omega, x3, x4, ?_, ?_, fun a ha hba => ?_⟩
        · show (s.2 101 4).toInt = ((ascL W (t + 1)).length : Nat)
          rw [hasc]
          exact x5
        · show RowL s.2 0 (ascL W (t + 1))
          rw [hasc]
          exact x6
        · by_cases e : a = t
          · rw [e] at hba; exact absurd hba hb1
          · exact x7 a (by omega) hba
    · rw [Int32.lt_iff_toInt_lt, x1] at c
      have et : t = (w b 3).toInt.toNat := by omega
      have e6 := asc_top (W := W) (n := t) (by rw [et]; exact hW) 6 (by omega)
      rw [e6]
      refine ⟨x3, x4, x5, x6, fun a ha => x7 a ?_ ha⟩
      exact tb_lt (by rw [et]; exact hW) ha
  · refine ⟨0, by show (0 : Int32).toInt = ((0 : Nat) : Int); omega, by omega, fun k i h => ?_, ?_, ?_, trivial, fun a ha => (by omega)⟩
    · show wu w 101 4 0 k i = w k i
      exact wu_ne (by omega)
    · show wu w 101 4 0 100 0 = 0
      rw [wu_ne (by omega)]
      exact h100
    · show (wu w 101 4 0 101 4).toInt = _
      rw [wu_at, t0]
      rfl
