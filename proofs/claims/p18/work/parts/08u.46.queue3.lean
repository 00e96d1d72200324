/-! the next figures -/
def on : Nat → Nat
  | 0 => 0
  | j + 1 => 10 ^ j + on j
theorem on_0 : on 0 = 0 := rfl
theorem on_1 : on 1 = 1 := rfl
theorem on_2 : on 2 = 11 := rfl
theorem on_3 : on 3 = 111 := rfl
theorem on_4 : on 4 = 1111 := rfl
theorem on_5 : on 5 = 11111 := rfl
theorem on_6 : on 6 = 111111 := rfl
theorem on_7 : on 7 = 1111111 := rfl
theorem nf_all3 {k j n v D : Nat} (hk : 1 ≤ k ∧ k ≤ 6) (hn : 1 ≤ n ∧ n ≤ 6) (hj : j ≤ k) (hv : v ≤ 10 ^ k + on j) (hm : v % 10 ^ j = on j) (hd : v / 10 ^ j % 10 = D) (hD : n < D) : j + 1 ≤ k ∧ v + (10 ^ j * (10 - D) + 10 ^ j) ≤ 10 ^ k + on (j + 1) ∧ (v + (10 ^ j * (10 - D) + 10 ^ j)) % 10 ^ (j + 1) = on (j + 1) := by
  rcases (show k = 1 ∨ k = 2 ∨ k = 3 ∨ k = 4 ∨ k = 5 ∨ k = 6 by omega) with e | e | e | e | e | e
  · rw [e] at hj hv ⊢
    rcases (show j = 0 ∨ j = 1 by omega) with c | c
    · rw [c] at hv hm hd ⊢
      have o1 := on_0
      have o2 := on_1
      rw [o1] at hv hm
      rw [show (0 : Nat) + 1 = 1 from rfl, o2]
      have p0 : (10 : Nat) ^ 0 = 1 := by decide
      have p1 : (10 : Nat) ^ 1 = 10 := by decide
      simp only [p0, p1] at hv hm hd ⊢
      exact ⟨by omega, by omega, by omega⟩
    · rw [c] at hv hm hd ⊢
      have o1 := on_1
      have o2 := on_2
      rw [o1] at hv hm
      rw [show (1 : Nat) + 1 = 2 from rfl, o2]
      have p1 : (10 : Nat) ^ 1 = 10 := by decide
      have p2 : (10 : Nat) ^ 2 = 100 := by decide
      simp only [p1, p2] at hv hm hd ⊢
      omega
  · rw [e] at hj hv ⊢
    rcases (show j = 0 ∨ j = 1 ∨ j = 2 by omega) with c | c | c
    · rw [c] at hv hm hd ⊢
      have o1 := on_0
      have o2 := on_1
      rw [o1] at hv hm
      rw [show (0 : Nat) + 1 = 1 from rfl, o2]
      have p0 : (10 : Nat) ^ 0 = 1 := by decide
      have p1 : (10 : Nat) ^ 1 = 10 := by decide
      have p2 : (10 : Nat) ^ 2 = 100 := by decide
      simp only [p0, p1, p2] at hv hm hd ⊢
      exact ⟨by omega, by omega, by omega⟩
    · rw [c] at hv hm hd ⊢
      have o1 := on_1
      have o2 := on_2
      rw [o1] at hv hm
      rw [show (1 : Nat) + 1 = 2 from rfl, o2]
      have p1 : (10 : Nat) ^ 1 = 10 := by decide
      have p2 : (10 : Nat) ^ 2 = 100 := by decide
      simp only [p1, p2] at hv hm hd ⊢
      exact ⟨by omega, by omega, by omega⟩
    · rw [c] at hv hm hd ⊢
      have o1 := on_2
      have o2 := on_3
      rw [o1] at hv hm
      rw [show (2 : Nat) + 1 = 3 from rfl, o2]
      have p2 : (10 : Nat) ^ 2 = 100 := by decide
      have p3 : (10 : Nat) ^ 3 = 1000 := by decide
      simp only [p2, p3] at hv hm hd ⊢
      omega
  · rw [e] at hj hv ⊢
    rcases (show j = 0 ∨ j = 1 ∨ j = 2 ∨ j = 3 by omega) with c | c | c | c
    · rw [c] at hv hm hd ⊢
      have o1 := on_0
      have o2 := on_1
      rw [o1] at hv hm
      rw [show (0 : Nat) + 1 = 1 from rfl, o2]
      have p0 : (10 : Nat) ^ 0 = 1 := by decide
      have p1 : (10 : Nat) ^ 1 = 10 := by decide
      have p3 : (10 : Nat) ^ 3 = 1000 := by decide
      simp only [p0, p1, p3] at hv hm hd ⊢
      exact ⟨by omega, by omega, by omega⟩
    · rw [c] at hv hm hd ⊢
      have o1 := on_1
      have o2 := on_2
      rw [o1] at hv hm
      rw [show (1 : Nat) + 1 = 2 from rfl, o2]
      have p1 : (10 : Nat) ^ 1 = 10 := by decide
      have p2 : (10 : Nat) ^ 2 = 100 := by decide
      have p3 : (10 : Nat) ^ 3 = 1000 := by decide
      simp only [p1, p2, p3] at hv hm hd ⊢
      exact ⟨by omega, by omega, by omega⟩
    · rw [c] at hv hm hd ⊢
      have o1 := on_2
      have o2 := on_3
      rw [o1] at hv hm
      rw [show (2 : Nat) + 1 = 3 from rfl, o2]
      have p2 : (10 : Nat) ^ 2 = 100 := by decide
      have p3 : (10 : Nat) ^ 3 = 1000 := by decide
      simp only [p2, p3] at hv hm hd ⊢
      exact ⟨by omega, by omega, by omega⟩
    · rw [c] at hv hm hd ⊢
      have o1 := on_3
      have o2 := on_4
      rw [o1] at hv hm
      rw [show (3 : Nat) + 1 = 4 from rfl, o2]
      have p3 : (10 : Nat) ^ 3 = 1000 := by decide
      have p4 : (10 : Nat) ^ 4 = 10000 := by decide
      simp only [p3, p4] at hv hm hd ⊢
      omega
  · rw [e] at hj hv ⊢
    rcases (show j = 0 ∨ j = 1 ∨ j = 2 ∨ j = 3 ∨ j = 4 by omega) with c | c | c | c | c
    · rw [c] at hv hm hd ⊢
      have o1 := on_0
      have o2 := on_1
      rw [o1] at hv hm
      rw [show (0 : Nat) + 1 = 1 from rfl, o2]
      have p0 : (10 : Nat) ^ 0 = 1 := by decide
      have p1 : (10 : Nat) ^ 1 = 10 := by decide
      have p4 : (10 : Nat) ^ 4 = 10000 := by decide
      simp only [p0, p1, p4] at hv hm hd ⊢
      exact ⟨by omega, by omega, by omega⟩
    · rw [c] at hv hm hd ⊢
      have o1 := on_1
      have o2 := on_2
      rw [o1] at hv hm
      rw [show (1 : Nat) + 1 = 2 from rfl, o2]
      have p1 : (10 : Nat) ^ 1 = 10 := by decide
      have p2 : (10 : Nat) ^ 2 = 100 := by decide
      have p4 : (10 : Nat) ^ 4 = 10000 := by decide
      simp only [p1, p2, p4] at hv hm hd ⊢
      exact ⟨by omega, by omega, by omega⟩
    · rw [c] at hv hm hd ⊢
      have o1 := on_2
      have o2 := on_3
      rw [o1] at hv hm
      rw [show (2 : Nat) + 1 = 3 from rfl, o2]
      have p2 : (10 : Nat) ^ 2 = 100 := by decide
      have p3 : (10 : Nat) ^ 3 = 1000 := by decide
      have p4 : (10 : Nat) ^ 4 = 10000 := by decide
      simp only [p2, p3, p4] at hv hm hd ⊢
      exact ⟨by omega, by omega, by omega⟩
    · rw [c] at hv hm hd ⊢
      have o1 := on_3
      have o2 := on_4
      rw [o1] at hv hm
      rw [show (3 : Nat) + 1 = 4 from rfl, o2]
      have p3 : (10 : Nat) ^ 3 = 1000 := by decide
      have p4 : (10 : Nat) ^ 4 = 10000 := by decide
      simp only [p3, p4] at hv hm hd ⊢
      exact ⟨by omega, by omega, by omega⟩
    · rw [c] at hv hm hd ⊢
      have o1 := on_4
      have o2 := on_5
      rw [o1] at hv hm
      rw [show (4 : Nat) + 1 = 5 from rfl, o2]
      have p4 : (10 : Nat) ^ 4 = 10000 := by decide
      have p5 : (10 : Nat) ^ 5 = 100000 := by decide
      simp only [p4, p5] at hv hm hd ⊢
      omega
  · rw [e] at hj hv ⊢
    rcases (show j = 0 ∨ j = 1 ∨ j = 2 ∨ j = 3 ∨ j = 4 ∨ j = 5 by omega) with c | c | c | c | c | c
    · rw [c] at hv hm hd ⊢
      have o1 := on_0
      have o2 := on_1
      rw [o1] at hv hm
      rw [show (0 : Nat) + 1 = 1 from rfl, o2]
      have p0 : (10 : Nat) ^ 0 = 1 := by decide
      have p1 : (10 : Nat) ^ 1 = 10 := by decide
      have p5 : (10 : Nat) ^ 5 = 100000 := by decide
      simp only [p0, p1, p5] at hv hm hd ⊢
      exact ⟨by omega, by omega, by omega⟩
    · rw [c] at hv hm hd ⊢
      have o1 := on_1
      have o2 := on_2
      rw [o1] at hv hm
      rw [show (1 : Nat) + 1 = 2 from rfl, o2]
      have p1 : (10 : Nat) ^ 1 = 10 := by decide
      have p2 : (10 : Nat) ^ 2 = 100 := by decide
      have p5 : (10 : Nat) ^ 5 = 100000 := by decide
      simp only [p1, p2, p5] at hv hm hd ⊢
      exact ⟨by omega, by omega, by omega⟩
    · rw [c] at hv hm hd ⊢
      have o1 := on_2
      have o2 := on_3
      rw [o1] at hv hm
      rw [show (2 : Nat) + 1 = 3 from rfl, o2]
      have p2 : (10 : Nat) ^ 2 = 100 := by decide
      have p3 : (10 : Nat) ^ 3 = 1000 := by decide
      have p5 : (10 : Nat) ^ 5 = 100000 := by decide
      simp only [p2, p3, p5] at hv hm hd ⊢
      exact ⟨by omega, by omega, by omega⟩
    · rw [c] at hv hm hd ⊢
      have o1 := on_3
      have o2 := on_4
      rw [o1] at hv hm
      rw [show (3 : Nat) + 1 = 4 from rfl, o2]
      have p3 : (10 : Nat) ^ 3 = 1000 := by decide
      have p4 : (10 : Nat) ^ 4 = 10000 := by decide
      have p5 : (10 : Nat) ^ 5 = 100000 := by decide
      simp only [p3, p4, p5] at hv hm hd ⊢
      exact ⟨by omega, by omega, by omega⟩
    · rw [c] at hv hm hd ⊢
      have o1 := on_4
      have o2 := on_5
      rw [o1] at hv hm
      rw [show (4 : Nat) + 1 = 5 from rfl, o2]
      have p4 : (10 : Nat) ^ 4 = 10000 := by decide
      have p5 : (10 : Nat) ^ 5 = 100000 := by decide
      simp only [p4, p5] at hv hm hd ⊢
      exact ⟨by omega, by omega, by omega⟩
    · rw [c] at hv hm hd ⊢
      have o1 := on_5
      have o2 := on_6
      rw [o1] at hv hm
      rw [show (5 : Nat) + 1 = 6 from rfl, o2]
      have p5 : (10 : Nat) ^ 5 = 100000 := by decide
      have p6 : (10 : Nat) ^ 6 = 1000000 := by decide
      simp only [p5, p6] at hv hm hd ⊢
      omega
  · rw [e] at hj hv ⊢
    rcases (show j = 0 ∨ j = 1 ∨ j = 2 ∨ j = 3 ∨ j = 4 ∨ j = 5 ∨ j = 6 by omega) with c | c | c | c | c | c | c
    · rw [c] at hv hm hd ⊢
      have o1 := on_0
      have o2 := on_1
      rw [o1] at hv hm
      rw [show (0 : Nat) + 1 = 1 from rfl, o2]
      have p0 : (10 : Nat) ^ 0 = 1 := by decide
      have p1 : (10 : Nat) ^ 1 = 10 := by decide
      have p6 : (10 : Nat) ^ 6 = 1000000 := by decide
      simp only [p0, p1, p6] at hv hm hd ⊢
      exact ⟨by omega, by omega, by omega⟩
    · rw [c] at hv hm hd ⊢
      have o1 := on_1
      have o2 := on_2
      rw [o1] at hv hm
      rw [show (1 : Nat) + 1 = 2 from rfl, o2]
      have p1 : (10 : Nat) ^ 1 = 10 := by decide
      have p2 : (10 : Nat) ^ 2 = 100 := by decide
      have p6 : (10 : Nat) ^ 6 = 1000000 := by decide
      simp only [p1, p2, p6] at hv hm hd ⊢
      exact ⟨by omega, by omega, by omega⟩
    · rw [c] at hv hm hd ⊢
      have o1 := on_2
      have o2 := on_3
      rw [o1] at hv hm
      rw [show (2 : Nat) + 1 = 3 from rfl, o2]
      have p2 : (10 : Nat) ^ 2 = 100 := by decide
      have p3 : (10 : Nat) ^ 3 = 1000 := by decide
      have p6 : (10 : Nat) ^ 6 = 1000000 := by decide
      simp only [p2, p3, p6] at hv hm hd ⊢
      exact ⟨by omega, by omega, by omega⟩
    · rw [c] at hv hm hd ⊢
      have o1 := on_3
      have o2 := on_4
      rw [o1] at hv hm
      rw [show (3 : Nat) + 1 = 4 from rfl, o2]
      have p3 : (10 : Nat) ^ 3 = 1000 := by decide
      have p4 : (10 : Nat) ^ 4 = 10000 := by decide
      have p6 : (10 : Nat) ^ 6 = 1000000 := by decide
      simp only [p3, p4, p6] at hv hm hd ⊢
      exact ⟨by omega, by omega, by omega⟩
    · rw [c] at hv hm hd ⊢
      have o1 := on_4
      have o2 := on_5
      rw [o1] at hv hm
      rw [show (4 : Nat) + 1 = 5 from rfl, o2]
      have p4 : (10 : Nat) ^ 4 = 10000 := by decide
      have p5 : (10 : Nat) ^ 5 = 100000 := by decide
      have p6 : (10 : Nat) ^ 6 = 1000000 := by decide
      simp only [p4, p5, p6] at hv hm hd ⊢
      exact ⟨by omega, by omega, by omega⟩
    · rw [c] at hv hm hd ⊢
      have o1 := on_5
      have o2 := on_6
      rw [o1] at hv hm
      rw [show (5 : Nat) + 1 = 6 from rfl, o2]
      have p5 : (10 : Nat) ^ 5 = 100000 := by decide
      have p6 : (10 : Nat) ^ 6 = 1000000 := by decide
      simp only [p5, p6] at hv hm hd ⊢
      exact ⟨by omega, by omega, by omega⟩
    · rw [c] at hv hm hd ⊢
      have o1 := on_6
      have o2 := on_7
      rw [o1] at hv hm
      rw [show (6 : Nat) + 1 = 7 from rfl, o2]
      have p6 : (10 : Nat) ^ 6 = 1000000 := by decide
      have p7 : (10 : Nat) ^ 7 = 10000000 := by decide
      simp only [p6, p7] at hv hm hd ⊢
      omega
theorem on_le {f : Nat} : ∀ j, (∀ i, i < j → 1 ≤ f / 10 ^ i % 10) → on j ≤ f % 10 ^ j := by
  intro j
  induction j with
  | zero => intro _; exact Nat.zero_le _
  | succ j ih =>
    intro h
    have h1 := ih (fun i hi => h i (by omega))
    have h3 := Nat.mul_le_mul_right (10 ^ j) (h j (by omega))
    rw [Nat.one_mul] at h3
    have e : on (j + 1) = 10 ^ j + on j := rfl
    rw [e, md10]
    exact Nat.add_le_add h3 h1
theorem nf_f {B n v D f O : Nat} (hm : v % B = O) (hd : v / B % 10 = D) (hD : n < D) (g1 : 1 ≤ f / B % 10) (g2 : f / B % 10 ≤ n) (g3 : O ≤ f % B) (hvf : v ≤ f) : v + (B * (10 - D) + B) ≤ f := by
  have h1 : v / B ≤ f / B := Nat.div_le_div_right hvf
  have dv := Nat.div_add_mod v B
  have df := Nat.div_add_mod f B
  obtain ⟨p, ep⟩ : ∃ p, v / B = p := ⟨_, rfl⟩
  obtain ⟨q, eq⟩ : ∃ q, f / B = q := ⟨_, rfl⟩
  obtain ⟨u, eu⟩ : ∃ u, f % B = u := ⟨_, rfl⟩
  rw [ep, hm] at dv
  rw [ep] at hd
  rw [eq, eu] at df
  rw [eq] at g1 g2
  rw [ep, eq] at h1
  rw [eu] at g3
  have h2 : p + (10 - D) + 1 ≤ q := by clear dv df; omega
  have h3 := Nat.mul_le_mul_left B h2
  rw [Nat.mul_add, Nat.mul_add, Nat.mul_one] at h3
  obtain ⟨X, eX⟩ : ∃ X, B * (10 - D) = X := ⟨_, rfl⟩
  obtain ⟨Y, eY⟩ : ∃ Y, B * p = Y := ⟨_, rfl⟩
  obtain ⟨Z, eZ⟩ : ∃ Z, B * q = Z := ⟨_, rfl⟩
  rw [eX, eY, eZ] at h3
  rw [eY] at dv
  rw [eZ] at df
  rw [eX]
  omega
theorem nf_all {k j n v D : Nat} (hk : 1 ≤ k ∧ k ≤ 6) (hn : 1 ≤ n ∧ n ≤ 6) (hj : j ≤ k) (hv : v ≤ 10 ^ k + on j) (hm : v % 10 ^ j = on j) (hd : v / 10 ^ j % 10 = D) (hD : n < D) : j + 1 ≤ k ∧ v + (10 ^ j * (10 - D) + 10 ^ j) ≤ 10 ^ k + on (j + 1) ∧ (v + (10 ^ j * (10 - D) + 10 ^ j)) % 10 ^ (j + 1) = on (j + 1) ∧ ∀ f, (∀ i, i < k → 1 ≤ f / 10 ^ i % 10 ∧ f / 10 ^ i % 10 ≤ n) → v ≤ f → v + (10 ^ j * (10 - D) + 10 ^ j) ≤ f := by
  obtain ⟨h1, h2, h3⟩ := nf_all3 hk hn hj hv hm hd hD
  exact ⟨h1, h2, h3, fun f hf hvf => nf_f hm hd hD (hf j h1).1 (hf j h1).2 (on_le j (fun i hi => (hf i (Nat.lt_trans hi h1)).1)) hvf⟩
theorem pc_nextF {a0 n0 : Int32} {k n : Nat} (hk : 1 ≤ k ∧ k ≤ 6) (hn : 1 ≤ n ∧ n ≤ 6) (en : n0.toInt = n) (h0 : 0 ≤ a0.toInt) (h1 : a0.toInt < (10 ^ k : Nat)) : Pc (fun (v : Int32) => a0.toInt < v.toInt ∧ ∀ f : Nat, (∀ i, i < k → 1 ≤ f / 10 ^ i % 10 ∧ f / 10 ^ i % 10 ≤ n) → a0.toInt < (f : Int) → v.toInt ≤ (f : Int)) (f_X10_nextFigures a0 n0) := by
  have t1 := tl_1
  have t10 := tl_10
  have pk : 10 ^ k ≤ 10 ^ 6 := Nat.pow_le_pow_right (by decide) hk.2
  have pk6 : (10 : Nat) ^ 6 = 1000000 := by decide
  unfold f_X10_nextFigures
  simp only [bind_eta1]
  refine pc_lp (fun (s : Int32 × Int32) => a0.toInt < s.1.toInt ∧ ∃ j : Nat, j ≤ k ∧ s.2.toInt = (10 ^ j : Nat) ∧ s.1.toNatClampNeg ≤ 10 ^ k + on j ∧ s.1.toNatClampNeg % 10 ^ j = on j ∧ ∀ f : Nat, (∀ i, i < k → 1 ≤ f / 10 ^ i % 10 ∧ f / 10 ^ i % 10 ≤ n) → a0.toInt < (f : Int) → s.1.toNatClampNeg ≤ f) ?_ _ _ ?_
  · intro s hX
    obtain ⟨x1, j, x2, x3, x4, x5, x6⟩ := hX
    obtain ⟨v, ev⟩ : ∃ v, s.1.toNatClampNeg = v := ⟨_, rfl⟩
    have hv := i_clq (i := s.1) (by omega)
    rw [ev] at hv x4 x5 x6
    have oj : on j ≤ 111111 := by
      rcases (show j = 0 ∨ j = 1 ∨ j = 2 ∨ j = 3 ∨ j = 4 ∨ j = 5 ∨ j = 6 by omega) with c | c | c | c | c | c | c <;> rw [c] <;> decide
    have pj : 10 ^ j ≤ 10 ^ 6 := Nat.pow_le_pow_right (by decide) (by omega)
    have pj0 := p10_pos j
    have dg := dig_i (f := s.1) (y := s.2) (by omega) x3
    rw [ev] at dg
    obtain ⟨D, eD⟩ : ∃ D, v / 10 ^ j % 10 = D := ⟨_, rfl⟩
    rw [eD] at dg
    have hD : D < 10 := by rw [← eD]; exact Nat.mod_lt _ (by decide)
    refine pc_nz (fun _ => pc_ite (fun c => pc_nz (fun _ => pc_lt (pc_some ?_))) (fun c => pc_some ⟨x1, fun f hf h => ?_⟩))
    · rw [Int32.lt_iff_toInt_lt, dg, en] at c
      obtain ⟨k1, k2, k3, k4⟩ := nf_all hk hn x2 x4 x5 eD (by omega)
      have m1 : ((10 : Int32) - (s.1 / s.2 - s.1 / s.2 / 10 * 10)).toInt = 10 - (D : Int) := by rw [i_sub (by omega) (by omega), t10, dg]
      have hle : 10 ^ j * (10 - D) ≤ 10 ^ 6 * 10 := Nat.mul_le_mul pj (by omega)
      have m2 : s.2.toInt * ((10 : Int32) - (s.1 / s.2 - s.1 / s.2 / 10 * 10)).toInt = ((10 ^ j * (10 - D) : Nat) : Int) := by
        rw [x3, m1, Int.natCast_mul, show ((10 - D : Nat) : Int) = 10 - (D : Int) by omega]
      have m3 : (s.2 * ((10 : Int32) - (s.1 / s.2 - s.1 / s.2 / 10 * 10))).toInt = ((10 ^ j * (10 - D) : Nat) : Int) := by
        rw [i_mul (by omega) (by omega), m2]
      have m4 : (s.2 * ((10 : Int32) - (s.1 / s.2 - s.1 / s.2 / 10 * 10)) + s.2).toInt = ((10 ^ j * (10 - D) : Nat) : Int) + (10 ^ j : Nat) := by
        rw [i_add (by omega) (by omega), m3, x3]
      have m5 : (s.1 + (s.2 * ((10 : Int32) - (s.1 / s.2 - s.1 / s.2 / 10 * 10)) + s.2)).toInt = s.1.toInt + (((10 ^ j * (10 - D) : Nat) : Int) + (10 ^ j : Nat)) := by
        rw [i_add (by omega) (by omega), m4]
      obtain ⟨u, eu⟩ : ∃ u, u = s.1 + (s.2 * ((10 : Int32) - (s.1 / s.2 - s.1 / s.2 / 10 * 10)) + s.2) := ⟨_, rfl⟩
      rw [← eu] at m5 ⊢
      have cu := i_clq (i := u) (by omega)
      have eun : u.toNatClampNeg = v + (10 ^ j * (10 - D) + 10 ^ j) := by omega
      have em : (s.2 * 10).toInt = 10 * s.2.toInt := i_mulkr tl_10 (by omega) (by omega)
      refine ⟨by show a0.toInt < u.toInt; omega, j + 1, k1, ?_, ?_, ?_, ?_⟩
      · show (s.2 * 10).toInt = (10 ^ (j + 1) : Nat)
        rw [em, x3, Nat.pow_succ]
        omega
      · show u.toNatClampNeg ≤ 10 ^ k + on (j + 1)
        rw [eun]
        exact k2
      · show u.toNatClampNeg % 10 ^ (j + 1) = on (j + 1)
        rw [eun]
        exact k3
      · show ∀ f : Nat, (∀ i, i < k → 1 ≤ f / 10 ^ i % 10 ∧ f / 10 ^ i % 10 ≤ n) → a0.toInt < (f : Int) → u.toNatClampNeg ≤ f
        intro f hf h
        rw [eun]
        exact k4 f hf (x6 f hf h)
    · have h2 := x6 f hf h
      show s.1.toInt ≤ (f : Int)
      omega
  · have ea : (a0 + 1).toInt = a0.toInt + 1 := i_addk tl_1 (by omega) (by omega)
    have ca := i_clq (i := a0 + 1) (by omega)
    refine ⟨by show a0.toInt < (a0 + 1).toInt; omega, 0, by omega, by show (1 : Int32).toInt = (10 ^ 0 : Nat); rw [t1]; rfl, ?_, ?_, ?_⟩
    · show (a0 + 1).toNatClampNeg ≤ 10 ^ k + on 0
      rw [on_0]
      omega
    · show (a0 + 1).toNatClampNeg % 10 ^ 0 = on 0
      rw [on_0, Nat.pow_zero, Nat.mod_one]
    · show ∀ f : Nat, (∀ i, i < k → 1 ≤ f / 10 ^ i % 10 ∧ f / 10 ^ i % 10 ≤ n) → a0.toInt < (f : Int) → (a0 + 1).toNatClampNeg ≤ f
      intro f _ h
      omega
theorem pc_ones {S : Int32} {n : Nat} (h0 : 0 ≤ S.toInt) (h1 : S.toInt ≤ 63) (hn : 1 ≤ pb S.toNatClampNeg) : Pc (fun (r : Int32 × Int32) => r.1.toInt = (on (pb S.toNatClampNeg) : Nat) ∧ r.2.toInt = (10 ^ pb S.toNatClampNeg : Nat)) (lp (S := (Int32 × Int32 × Int32)) (T := (Int32 × Int32)) (fun s83 => (f_X10_bits S).bind fun r8 => (if s83.2.2 < r8 then lt ((((10 : Int32) * s83.1) + (1 : Int32))) fun t9 => some (Sum.inl (t9, (s83.2.1 * (10 : Int32)), (s83.2.2 + (1 : Int32)))) else some (Sum.inr (s83.1, s83.2.1)))) n ((1 : Int32), (10 : Int32), (1 : Int32))) := by
  have t1 := tl_1
  have t10 := tl_10
  have ps := pb_i (x := S) h0 (by omega)
  have hp6 := pb_6 h0 h1
  have i3 := i_ofnat (n := pb S.toNatClampNeg) (by omega)
  rw [ps.1]
  refine pc_lp (fun (q : Int32 × Int32 × Int32) => ∃ j : Nat, q.2.2.toInt = (j : Int) ∧ 1 ≤ j ∧ j ≤ pb S.toNatClampNeg ∧ q.1.toInt = (on j : Nat) ∧ q.2.1.toInt = (10 ^ j : Nat)) ?_ _ _ ⟨1, by show (1 : Int32).toInt = ((1 : Nat) : Int); rw [t1]; rfl, by omega, by omega, by show (1 : Int32).toInt = (on 1 : Nat); rw [t1]; rfl, by show (10 : Int32).toInt = (10 ^ 1 : Nat); rw [t10]; rfl⟩
  intro q hX
  obtain ⟨j, x1, x2, x3, x4, x5⟩ := hX
  rw [sb]
  refine pc_ite (fun c => pc_lt (pc_some ?_)) (fun c => pc_some ?_)
  · rw [Int32.lt_iff_toInt_lt, i3] at c
    have ea : (q.2.2 + 1).toInt = q.2.2.toInt + 1 := i_addk tl_1 (by omega) (by omega)
    have hp0 := p10_pos j
    have hs : on (j + 1) = 10 * on j + 1 ∧ on j ≤ 111111 ∧ 10 ^ j ≤ 1000000 := by
      rcases (show j = 1 ∨ j = 2 ∨ j = 3 ∨ j = 4 ∨ j = 5 ∨ j = 6 by omega) with e | e | e | e | e | e <;> rw [e] <;> decide
    have em : (q.2.1 * 10).toInt = 10 * q.2.1.toInt := i_mulkr tl_10 (by omega) (by omega)
    have eo : ((10 : Int32) * q.1).toInt = 10 * q.1.toInt := i_mulkl tl_10 (by omega) (by omega)
    have eo2 : ((10 : Int32) * q.1 + 1).toInt = ((10 : Int32) * q.1).toInt + 1 := i_addk tl_1 (by omega) (by omega)
    refine ⟨j + 1, ?_, by omega, by omega, ?_, ?_⟩
    · show (q.2.2 + 1).toInt = ((j + 1 : Nat) : Int)
      omega
    · show ((10 : Int32) * q.1 + 1).toInt = (on (j + 1) : Nat)
      omega
    · show (q.2.1 * 10).toInt = (10 ^ (j + 1) : Nat)
      rw [em, x5, Nat.pow_succ]
      omega
  · rw [Int32.lt_iff_toInt_lt, i3] at c
    have e : j = pb S.toNatClampNeg := by omega
    rw [← e]
    exact ⟨x4, x5⟩

