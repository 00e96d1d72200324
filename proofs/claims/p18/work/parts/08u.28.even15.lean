/-! a new evening -/
theorem allb_tab : ∀ n : Fin 7, ∀ t : Fin 6, ¬ t.1 < n.1 ∨ bt (AllI (Int32.ofNat n.1)) t.1 = 1 := by decide
theorem allb {n : Int32} {t : Nat} (h0 : 0 ≤ n.toInt) (h1 : n.toInt ≤ 6) (ht : (t : Int) < n.toInt) : bt (AllI n) t = 1 := by
  have h := allb_tab ⟨n.toInt.toNat, by omega⟩ ⟨t, by omega⟩
  have h' : ¬ t < n.toInt.toNat ∨ bt (AllI (Int32.ofNat n.toInt.toNat)) t = 1 := h
  rw [← i_nat2 h0] at h'
  rcases h' with q | q
  · omega
  · exact q
theorem bt0_tab : ∀ t : Fin 6, bt 0 t.1 = 0 := by decide
theorem bt0 {t : Nat} (ht : t < 6) : bt 0 t = 0 := bt0_tab ⟨t, ht⟩
def GaP (b : Nat) (w u : Mem) : Prop := (u 3 4 = -1 ∧ u 3 5 = 0 ∧ u 3 6 = -1 ∧ u 3 7 = AllI (w b 3) ∧ u 3 8 = 0 ∧ u 3 9 = 0) ∧ (∀ i : Nat, i < 6 → u 4 i = 0 ∧ u 5 i = 0) ∧ (∀ k i, ¬ (3 ≤ k ∧ k ≤ 5) → u k i = w k i) ∧ ∀ i, i < 4 → u 3 i = w 3 i
theorem pc_gather {b : Nat} (hb : BrO b) {w : Mem} : Pc (GaP b w) (f_X3_gather b w) := by
  have hbb : b = 112 ∨ b = 119 := hb
  have t0 := tl_0
  have t6 := tl_6
  unfold f_X3_gather
  simp only [bind_eta1]
  refine pc_bind (Q := fun v => v = wu (wu (wu w 3 4 (-1)) 3 5 0) 3 6 (-1)) (by unfold f_X3_emptySeat; exact pc_pw (pc_pw (pc_pw (pc_some rfl)))) (fun v _ hv => ?_)
  have V : ∀ k i, ¬ (k = 3 ∧ (i = 4 ∨ i = 5 ∨ i = 6)) → v k i = w k i := fun k i h => by rw [hv, wu_ne (by omega), wu_ne (by omega), wu_ne (by omega)]
  have V4 : v 3 4 = -1 := by rw [hv, wu_ne (by omega), wu_ne (by omega), wu_at]
  have V5 : v 3 5 = 0 := by rw [hv, wu_ne (by omega), wu_at]
  have V6 : v 3 6 = -1 := by rw [hv, wu_at]
  refine pc_bind (Q := fun r => r = AllI (w b 3)) (by unfold f_X9_setOfFirst; rw [V b 3 (by omega)]; exact pc_some rfl) (fun r _ hr => ?_)
  rw [hr]
  refine pc_pw (pc_pw (pc_pw ?_))
  obtain ⟨y, ey⟩ : ∃ y, y = wu (wu (wu v 3 7 (AllI (w b 3))) 3 8 0) 3 9 0 := ⟨_, rfl⟩
  rw [← ey]
  have Y : ∀ k i, ¬ (k = 3 ∧ 7 ≤ i ∧ i ≤ 9) → y k i = v k i := fun k i h => by rw [ey, wu_ne (by omega), wu_ne (by omega), wu_ne (by omega)]
  have Y7 : y 3 7 = AllI (w b 3) := by rw [ey, wu_ne (by omega), wu_ne (by omega), wu_at]
  have Y8 : y 3 8 = 0 := by rw [ey, wu_ne (by omega), wu_at]
  have Y9 : y 3 9 = 0 := by rw [ey, wu_at]
  refine pc_mono (Q := fun u => (∀ k i, ¬ (4 ≤ k ∧ k ≤ 5) → u k i = y k i) ∧ ∀ i : Nat, i < 6 → u 4 i = 0 ∧ u 5 i = 0) (pc_lp (fun (s : Int32 × Mem) => (0 ≤ s.1.toInt ∧ s.1.toInt ≤ 6) ∧ (∀ k i, ¬ (4 ≤ k ∧ k ≤ 5) → s.2 k i = y k i) ∧ ∀ i : Nat, (i : Int) < s.1.toInt → s.2 4 i = 0 ∧ s.2 5 i = 0) ?_ _ _ ⟨by show 0 ≤ (0 : Int32).toInt ∧ (0 : Int32).toInt ≤ 6; omega, fun _ _ _ => rfl, fun i hi => by have h' : (i : Int) < (0 : Int32).toInt := hi; omega⟩) (fun u _ hu => ?_)
  · intro s hX
    obtain ⟨x1, x2, x3⟩ := hX
    refine pc_ite (fun c => ?_) (fun c => pc_some ?_)
    · rw [Int32.lt_iff_toInt_lt] at c
      have ea : (s.1 + 1).toInt = s.1.toInt + 1 := i_addk tl_1 (by omega) (by omega)
      obtain ⟨j, ej⟩ : ∃ j, s.1.toNatClampNeg = j := ⟨_, rfl⟩
      have hj := i_clq x1.1
      rw [ej] at hj
      refine pc_wr (fun _ => pc_wr (fun _ => pc_some ?_))
      rw [ej]
      refine ⟨by show 0 ≤ (s.1 + 1).toInt ∧ (s.1 + 1).toInt ≤ 6; omega, fun k i h => ?_, fun i hi => ?_⟩
      · dsimp only
        rw [wu_ne (by omega), wu_ne (by omega)]
        exact x2 k i h
      · have hi' : (i : Int) < (s.1 + 1).toInt := hi
        dsimp only
        by_cases e : i = j
        · rw [e, wu_ne (by omega), wu_at, wu_at]
          exact ⟨rfl, rfl⟩
        · rw [wu_ne (by omega), wu_ne (by omega), wu_ne (by omega), wu_ne (by omega)]
          exact x3 i (by omega)
    · rw [Int32.lt_iff_toInt_lt] at c
      exact ⟨x2, fun i hi => x3 i (by omega)⟩
  · obtain ⟨u1, u2⟩ := hu
    refine ⟨⟨?_, ?_, ?_, ?_, ?_, ?_⟩, u2, fun k i h => ?_, fun i hi => ?_⟩
    · rw [u1 3 4 (by omega), Y 3 4 (by omega), V4]
    · rw [u1 3 5 (by omega), Y 3 5 (by omega), V5]
    · rw [u1 3 6 (by omega), Y 3 6 (by omega), V6]
    · rw [u1 3 7 (by omega), Y7]
    · rw [u1 3 8 (by omega), Y8]
    · rw [u1 3 9 (by omega), Y9]
    · rw [u1 k i (by omega), Y k i (by omega), V k i (by omega)]
    · rw [u1 3 i (by omega), Y 3 i (by omega), V 3 i (by omega)]
theorem evc_new {b : Nat} {c : Nat → Int32} {u : Mem} (hn : 0 ≤ (u b 3).toInt ∧ (u b 3).toInt ≤ 6) (hh : ∀ t : Nat, (t : Int) < (u b 3).toInt → 0 ≤ (u (b + 4) t).toInt ∧ (u (b + 4) t).toInt ≤ 9) (hM : 0 ≤ (u b 2).toInt) (h0 : u 3 0 = c 0 ∧ u 3 1 = c 1 ∧ u 3 2 = c 2 ∧ u 3 3 = c 3) (hr : (0 ≤ (c 1).toInt ∧ (c 1).toInt ≤ 9000) ∧ (0 ≤ (c 2).toInt ∧ (c 2).toInt ≤ 999999) ∧ (0 ≤ (c 3).toInt ∧ (c 3).toInt < (2 ^ (u b 2).toInt.toNat : Nat))) (h4 : u 3 4 = -1 ∧ u 3 5 = 0 ∧ u 3 6 = -1 ∧ u 3 7 = AllI (u b 3) ∧ u 3 8 = 0 ∧ u 3 9 = 0) (hu : ∀ i : Nat, i < 6 → u 4 i = 0 ∧ u 5 i = 0) (hc : c 4 = -1 ∧ c 5 = 0 ∧ c 6 = -1) (hct : ∀ t : Nat, (t : Int) < (u b 3).toInt → c (7 + t) = 0 ∧ c (13 + t) = 0 ∧ c (19 + t) = 0) : EvC 3 c b u := by
  have t0 := tl_0
  have tm := tl_m1
  have pz := Nat.two_pow_pos (u b 2).toInt.toNat
  have pn := Nat.two_pow_pos (u b 3).toInt.toNat
  obtain ⟨q4, q5, q6, q7, q8, q9⟩ := h4
  obtain ⟨c4, c5, c6⟩ := hc
  refine ⟨⟨h0.1, h0.2.1, h0.2.2.1, h0.2.2.2, by rw [q4, c4], by rw [q5, c5], by rw [q6, c6]⟩, ⟨hr.1, hr.2.1, hr.2.2, by rw [c4, tm]; omega, by rw [c5, t0]; omega, by rw [c6, tm]; omega⟩, fun _ => ⟨c5, c6⟩, ?_, fun t ht => ?_⟩
  · rw [q7, q8, q9, t0, all_val hn.1 (by omega)]
    refine ⟨⟨by omega, by omega⟩, ⟨by omega, by omega⟩, ⟨by omega, by omega⟩⟩
  · obtain ⟨z7, z13, z19⟩ := hct t ht
    obtain ⟨y4, y5⟩ := hu t (by omega)
    have y4' : u (3 + 1) t = 0 := y4
    have y5' : u (3 + 2) t = 0 := y5
    have hht := hh t ht
    rw [y4', y5', z7, z13, z19, c4, c5, q7, q8, q9, allb hn.1 hn.2 ht, bt0 (by omega)]
    exact ⟨⟨rfl, rfl⟩, Or.inl ⟨rfl, ⟨rfl, rfl, rfl⟩, by rw [tm]; omega, rfl, by rw [t0]; omega, by rw [t0]; omega⟩⟩
