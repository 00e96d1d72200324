/-! drift -/
theorem rc_draw {w w' : Mem} {n : Int32} (hd : DrC (w 0 10) (w' 134 28)) (hn : 1 ≤ n.toInt) : Rc (fun q q2 => (q.1 = q2.1 ∧ 0 ≤ q.1.toInt ∧ q.1.toInt < n.toInt) ∧ DrC (q.2 0 10) (q2.2 134 28) ∧ (∀ k i, ¬ (k = 0 ∧ i = 10) → q.2 k i = w k i) ∧ ∀ k i, ¬ (k = 134 ∧ i = 28) → q2.2 k i = w' k i) (f_X9_drawOf n w) (f_X10_draw n w') := by
  obtain ⟨d1, d2⟩ := hd
  have t1 := tl_1
  unfold f_X9_drawOf f_X10_draw
  rw [d1]
  obtain ⟨E, eE⟩ : ∃ E, E = ((w' 134 28).toInt64 * (1103515245 : Int64) + (12345 : Int64)) - ((w' 134 28).toInt64 * (1103515245 : Int64) + (12345 : Int64)) / (2147483648 : Int64) * (2147483648 : Int64) := ⟨_, rfl⟩
  rw [← eE]
  refine rcl_pw (rcr_pl (fun hE => ?_))
  rw [if_neg (show ¬ n < 1 by rw [Int32.lt_iff_toInt_lt]; omega), wu_at, wu_at]
  refine rcl_nz (fun _ => rcr_nzl (fun _ => rc_some ?_))
  dsimp only
  have s1 := l_seed d2
  have hi28 : (w' 134 28).toInt ≤ 2147483647 := Int32.toInt_le _
  have sE : E.toInt = ((w' 134 28).toInt64 * (1103515245 : Int64) + (12345 : Int64)).toInt % (2147483648 : Int64).toInt := by rw [eE]; exact l_remp (by omega) (by decide)
  have k31 : (2147483648 : Int64).toInt = 2147483648 := by decide
  rw [k31] at sE
  have hE0 : 0 ≤ E.toInt ∧ E.toInt < 2147483648 := by omega
  have hl := (l_lok hE0.1 hE0.2).1
  obtain ⟨D, eD⟩ : ∃ D, D = E.toInt32 := ⟨_, rfl⟩
  rw [← eD] at hl
  rw [← eD]
  have i1 : (D / 65536).toInt = D.toInt / (65536 : Nat) := i_divk (k := 65536) (by decide) (by decide) (by omega)
  have i2 : (D / 65536 - D / 65536 / n * n).toInt = (D / 65536).toInt % (n.toInt.toNat : Nat) := i_remk (k := n.toInt.toNat) (by omega) (by omega) (by omega)
  have e64 : D.toInt64.toInt = D.toInt := Int32.toInt_toInt64 _
  have n64 : n.toInt64.toInt = n.toInt := Int32.toInt_toInt64 _
  have k65 : (65536 : Int64).toInt = 65536 := by decide
  have j1 : (D.toInt64 / 65536).toInt = D.toInt / 65536 := by rw [l_divp (by omega) (by omega), k65, e64]
  have j2 : (D.toInt64 / 65536 - D.toInt64 / 65536 / n.toInt64 * n.toInt64).toInt = (D.toInt64 / 65536).toInt % n.toInt64.toInt := l_remp (by omega) (by omega)
  have b0 : 0 ≤ (D / 65536).toInt % (n.toInt.toNat : Nat) := Int.emod_nonneg _ (by omega)
  have b1 : (D / 65536).toInt % (n.toInt.toNat : Nat) < (n.toInt.toNat : Nat) := Int.emod_lt_of_pos _ (by omega)
  have ni : n.toInt ≤ 2147483647 := Int32.toInt_le _
  have enn : ((n.toInt.toNat : Nat) : Int) = n.toInt := by omega
  have ej : (D.toInt64 / 65536 - D.toInt64 / 65536 / n.toInt64 * n.toInt64).toInt = (D / 65536).toInt % (n.toInt.toNat : Nat) := by
    rw [j2, j1, n64, i1, enn]
    rfl
  have jl := (l_lok (x := D.toInt64 / 65536 - D.toInt64 / 65536 / n.toInt64 * n.toInt64) (by omega) (by omega)).1
  refine ⟨⟨?_, by omega, by omega⟩, ?_, fun k i h => wu_ne h, fun k i h => wu_ne h⟩
  · rw [i_eq_iff, i2, jl, ej]
  · rw [wu_at, wu_at]
    exact ⟨rfl, by omega⟩
