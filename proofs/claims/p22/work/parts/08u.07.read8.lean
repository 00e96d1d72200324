/-! the bridge is settled -/
def AllI (m : Int32) : Int32 := ((1 : Int32) <<< (m &&& 31)) - 1
theorem nat_step {s : Int32} {i : Nat} (h0 : 0 ≤ s.toInt) (h1 : s.toInt < 1000) (hi : (i : Int) < (s + 1).toInt) : (i : Int) < s.toInt ∨ i = s.toNatClampNeg := by
  have e : (s + 1).toInt = s.toInt + 1 := i_addk tl_1 (by omega) (by omega)
  have e2 := i_clq h0
  omega
theorem and_loop {b c : Nat} {N : Nat} {A : Int32} {w : Mem} (hN : N < 1000) (hb : BrO b) (kc : Nat) (hc : 2 ≤ kc) (hn0 : 0 ≤ (w b c).toInt) (hn1 : (w b c).toInt < 1000) (n : Nat) : Pc (fun v => (∀ k i : Nat, ¬ (k = b + kc ∧ (i : Int) < (w b c).toInt) → v k i = w k i) ∧ ∀ i : Nat, (i : Int) < (w b c).toInt → v (b + kc) i = w (b + kc) i &&& A) (lp (S := (Int32 × Mem)) (T := Mem) (fun s => (if s.1 < (s.2 b c) then rd N (s.2 (b + kc)) s.1 fun x2 => wr N (b + kc) s.1 (x2 &&& A) s.2 fun w3 => some (Sum.inl ((s.1 + (1 : Int32)), w3)) else some (Sum.inr s.2))) n ((0 : Int32), w)) := by
  have hbb : b = 112 ∨ b = 119 := hb
  have t0 := tl_0
  refine pc_lp (fun s => 0 ≤ s.1.toInt ∧ s.1.toInt ≤ (w b c).toInt ∧ (∀ k i : Nat, ¬ (k = b + kc ∧ (i : Int) < s.1.toInt) → s.2 k i = w k i) ∧ ∀ i : Nat, (i : Int) < s.1.toInt → s.2 (b + kc) i = w (b + kc) i &&& A) ?_ _ _ ?_
  · intro s hs
    obtain ⟨h0, h1, h2, h3⟩ := hs
    have ec : s.2 b c = w b c := h2 b c (by omega)
    refine pc_ite (fun cc => ?_) (fun cc => pc_some ?_)
    · rw [Int32.lt_iff_toInt_lt, ec] at cc
      refine pc_rd (fun _ => pc_wr (fun _ => pc_some ?_))
      have e : (s.1 + 1).toInt = s.1.toInt + 1 := i_addk tl_1 (by omega) (by omega)
      have e2 := i_clq h0
      refine ⟨by show 0 ≤ (s.1 + 1).toInt; omega, by show (s.1 + 1).toInt ≤ _; omega, fun k i hk => ?_, fun i hi => ?_⟩
      · show wu s.2 (b + kc) s.1.toNatClampNeg _ k i = w k i
        have hk2 : ¬ (k = b + kc ∧ (i : Int) < (s.1 + 1).toInt) := hk
        rw [wu_ne (by omega)]
        exact h2 k i (by omega)
      · show wu s.2 (b + kc) s.1.toNatClampNeg _ (b + kc) i = _
        rcases nat_step h0 (by omega) hi with hi2 | hi2
        · rw [wu_ne (by omega)]
          exact h3 i hi2
        · rw [hi2, wu_at, h2 (b + kc) s.1.toNatClampNeg (by omega)]
    · rw [Int32.lt_iff_toInt_lt, ec] at cc
      have e : s.1.toInt = (w b c).toInt := by omega
      rw [e] at h2 h3
      exact ⟨h2, h3⟩
  · refine ⟨by show 0 ≤ (0 : Int32).toInt; omega, by show (0 : Int32).toInt ≤ _; omega, fun k i _ => rfl, fun i hi => ?_⟩
    have hi2 : (i : Int) < (0 : Int32).toInt := hi
    omega
def SeP (b : Nat) (w v : Mem) : Prop := (∀ k i : Nat, ¬ (k = b + 2 ∧ (i : Int) < (w b 2).toInt) → ¬ (k = b + 5 ∧ (i : Int) < (w b 3).toInt) → ¬ k = b + 6 → v k i = w k i) ∧ (∀ i : Nat, (i : Int) < (w b 2).toInt → v (b + 2) i = w (b + 2) i &&& AllI (w b 2)) ∧ (∀ i : Nat, (i : Int) < (w b 3).toInt → v (b + 5) i = w (b + 5) i &&& AllI (w b 2))
theorem pc_settle {b : Nat} (hb : BrO b) {w : Mem} (h2 : 0 ≤ (w b 2).toInt ∧ (w b 2).toInt ≤ 8) (h3 : 0 ≤ (w b 3).toInt ∧ (w b 3).toInt ≤ 6) : Pc (SeP b w) (f_X1_settle b w) := by
  have hbb : b = 112 ∨ b = 119 := hb
  unfold f_X1_settle
  simp only [bind_eta1]
  refine pc_bind (Q := fun r => r = AllI (w b 2)) (by unfold f_X9_setOfFirst; exact pc_some rfl) (fun r1 _ hr1 => ?_)
  rw [hr1]
  refine pc_bind (and_loop (by omega) hb 2 (by omega) h2.1 (by omega) _) (fun v4 _ h4 => ?_)
  have e3 : v4 b 3 = w b 3 := h4.1 b 3 (by omega)
  refine pc_bind (and_loop (by omega) hb 5 (by omega) (by rw [e3]; exact h3.1) (by rw [e3]; omega) _) (fun v7 _ h7 => ?_)
  rw [e3] at h7
  refine pc_mono (Q := fun v => ∀ k i, ¬ k = b + 6 → v k i = v7 k i) (pc_lp (fun s => ∀ k i, ¬ k = b + 6 → s.2 k i = v7 k i) ?_ _ _ (fun k i _ => rfl)) (fun v _ hv => ?_)
  · intro s hs
    refine pc_ite (fun _ => pc_some hs) (fun _ => ?_)
    refine pc_bind (pc_any _) (fun r8 _ _ => pc_wr (fun _ => pc_some ?_))
    intro k i hk
    show wu s.2 (b + 6) s.1.toNatClampNeg r8 k i = v7 k i
    rw [wu_ne (by omega)]
    exact hs k i hk
  · refine ⟨fun k i k1 k2 k3 => ?_, fun i hi => ?_, fun i hi => ?_⟩
    · rw [hv k i k3, h7.1 k i k2, h4.1 k i k1]
    · rw [hv (b + 2) i (by omega), h7.1 (b + 2) i (by omega), h4.2 i hi]
    · rw [hv (b + 5) i (by omega), h7.2 i hi, h4.1 (b + 5) i (by omega)]
