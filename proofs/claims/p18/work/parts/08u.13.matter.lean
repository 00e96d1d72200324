/-! what a matter leads on to -/
theorem i_nat2 {t : Int32} (h0 : 0 ≤ t.toInt) : t = Int32.ofNat t.toInt.toNat := by
  have h1 : t.toInt ≤ 2147483647 := Int32.toInt_le t
  apply Int32.toInt_inj.mp
  rw [Int32.toInt_ofNat_of_lt (by omega)]
  omega
theorem all_tab : ∀ j : Fin 9, (AllI (Int32.ofNat j.1)).toInt = (2 ^ j.1 : Nat) - 1 := by decide
theorem all_val {m : Int32} (h0 : 0 ≤ m.toInt) (h1 : m.toInt ≤ 8) : (AllI m).toInt = (2 ^ m.toInt.toNat : Nat) - 1 := by
  have := all_tab ⟨m.toInt.toNat, by omega⟩
  rw [← i_nat2 h0] at this
  exact this
theorem lt_all {x m : Int32} (h0 : 0 ≤ m.toInt) (h1 : m.toInt ≤ 8) (h : x &&& AllI m = x) : 0 ≤ x.toInt ∧ x.toInt < (2 ^ m.toInt.toNat : Nat) := by
  have h2 := all_rng h0 h1
  have h3 := i_and_r (x := x) h2.1
  have h4 := all_val h0 h1
  rw [h] at h3
  omega
def pb (n : Nat) : Nat := (n.testBit 0).toNat + (n.testBit 1).toNat + (n.testBit 2).toNat + (n.testBit 3).toNat + (n.testBit 4).toNat + (n.testBit 5).toNat + (n.testBit 6).toNat + (n.testBit 7).toNat
theorem pb_step (a b i : Nat) : ((a ||| b).testBit i).toNat = (a.testBit i).toNat + 1 ∨ ((a ||| b).testBit i).toNat = (a.testBit i).toNat ∧ (a ||| b).testBit i = a.testBit i := by
  rw [Nat.testBit_or]
  cases a.testBit i <;> cases b.testBit i <;> simp
theorem pb_or {a b : Nat} (ha : a < 256) (hb : b < 256) : a ||| b = a ∨ pb a + 1 ≤ pb (a ||| b) := by
  by_cases h : pb a + 1 ≤ pb (a ||| b)
  · exact Or.inr h
  · left
    unfold pb at h
    have h0 := pb_step a b 0
    have h1 := pb_step a b 1
    have h2 := pb_step a b 2
    have h3 := pb_step a b 3
    have h4 := pb_step a b 4
    have h5 := pb_step a b 5
    have h6 := pb_step a b 6
    have h7 := pb_step a b 7
    have hor : a ||| b < 2 ^ 8 := Nat.or_lt_two_pow ha hb
    apply Nat.eq_of_testBit_eq
    intro i
    by_cases hi : i < 8
    · have g0 : (a ||| b).testBit 0 = a.testBit 0 := by
        rcases h0 with q | q
        · omega
        · exact q.2
      have g1 : (a ||| b).testBit 1 = a.testBit 1 := by
        rcases h1 with q | q
        · omega
        · exact q.2
      have g2 : (a ||| b).testBit 2 = a.testBit 2 := by
        rcases h2 with q | q
        · omega
        · exact q.2
      have g3 : (a ||| b).testBit 3 = a.testBit 3 := by
        rcases h3 with q | q
        · omega
        · exact q.2
      have g4 : (a ||| b).testBit 4 = a.testBit 4 := by
        rcases h4 with q | q
        · omega
        · exact q.2
      have g5 : (a ||| b).testBit 5 = a.testBit 5 := by
        rcases h5 with q | q
        · omega
        · exact q.2
      have g6 : (a ||| b).testBit 6 = a.testBit 6 := by
        rcases h6 with q | q
        · omega
        · exact q.2
      have g7 : (a ||| b).testBit 7 = a.testBit 7 := by
        rcases h7 with q | q
        · omega
        · exact q.2
      rcases (by omega : i = 0 ∨ i = 1 ∨ i = 2 ∨ i = 3 ∨ i = 4 ∨ i = 5 ∨ i = 6 ∨ i = 7) with rfl | rfl | rfl | rfl | rfl | rfl | rfl | rfl
      · exact g0
      · exact g1
      · exact g2
      · exact g3
      · exact g4
      · exact g5
      · exact g6
      · exact g7
    · have p : 2 ^ 8 ≤ 2 ^ i := Nat.pow_le_pow_right (by decide) (by omega)
      rw [Nat.testBit_lt_two_pow (by omega), Nat.testBit_lt_two_pow (show a < 2 ^ i by omega)]
set_option maxRecDepth 100000 in
theorem pb_le : ∀ M : Fin 9, ∀ S : Fin 256, ¬ S.1 < 2 ^ M.1 ∨ pb S.1 ≤ M.1 := by decide +kernel
set_option maxRecDepth 100000 in
theorem pb_pos : ∀ S : Fin 256, S.1 = 0 ∨ 1 ≤ pb S.1 := by decide +kernel
def pI (x : Int32) : Nat := pb x.toBitVec.toNat
theorem pI_or {x y : Int32} (h0 : 0 ≤ x.toInt) (h1 : x.toInt ≤ 255) (h2 : 0 ≤ y.toInt) (h3 : y.toInt ≤ 255) : x ||| y = x ∨ pI x + 1 ≤ pI (x ||| y) := by
  have e1 := i_tn h0
  have e2 := i_tn h2
  unfold pI
  have e3 : (x ||| y).toBitVec.toNat = x.toBitVec.toNat ||| y.toBitVec.toNat := by rw [Int32.toBitVec_or, BitVec.toNat_or]
  rw [e3]
  rcases pb_or (a := x.toBitVec.toNat) (b := y.toBitVec.toNat) (by omega) (by omega) with h | h
  · left
    apply Int32.toBitVec_inj.mp
    apply BitVec.eq_of_toNat_eq
    rw [e3, h]
  · exact Or.inr h
theorem pI_le {x : Int32} {M : Nat} (hM : M ≤ 8) (h0 : 0 ≤ x.toInt) (h1 : x.toInt < (2 ^ M : Nat)) : pI x ≤ M := by
  have e1 := i_tn h0
  have p : 2 ^ M ≤ 2 ^ 8 := Nat.pow_le_pow_right (by decide) hM
  rcases pb_le ⟨M, by omega⟩ ⟨x.toBitVec.toNat, by omega⟩ with h | h
  · exfalso
    apply h
    show x.toBitVec.toNat < 2 ^ M
    omega
  · exact h
theorem pI_pos {x : Int32} (h0 : 0 ≤ x.toInt) (h1 : x.toInt ≤ 255) : x = 0 ∨ 1 ≤ pI x := by
  have e1 := i_tn h0
  rcases pb_pos ⟨x.toBitVec.toNat, by omega⟩ with h | h
  · left
    have h' : x.toBitVec.toNat = 0 := h
    rw [i_eq_iff, tl_0]
    omega
  · exact Or.inr h
theorem rc_step {b : Nat} {w w' : Mem} {set : Int32} (hB : BrC b w w') : Rc (fun (u v : Int32) => u = v ∧ 0 ≤ u.toInt ∧ u.toInt < (2 ^ (w b 2).toInt.toNat : Nat)) (f_X1_oneStepFrom b set w) (f_X10_onward set w') := by
  unfold f_X1_oneStepFrom f_X10_onward
  simp only [bind_eta1]
  have t0 := tl_0
  have b3 := hB.2.2.1
  have eM : w b 2 = w' 134 17 := hB.1.2.2.1
  have hp := Nat.two_pow_pos (w b 2).toInt.toNat
  rw [← eM]
  refine rc_lp (fun (s s2 : Int32 × Int32) => s = s2 ∧ (0 ≤ s.2.toInt ∧ s.2.toInt ≤ 8) ∧ 0 ≤ s.1.toInt ∧ s.1.toInt < (2 ^ (w b 2).toInt.toNat : Nat)) ?_ _ _ _ _ ⟨rfl, by show 0 ≤ (0 : Int32).toInt ∧ (0 : Int32).toInt ≤ 8; omega, by show 0 ≤ (0 : Int32).toInt; omega, by show (0 : Int32).toInt < _; omega⟩
  intro s s2 hX
  obtain ⟨rfl, x1, x2⟩ := hX
  by_cases c : s.2 < w b 2
  · rw [if_pos c, if_pos c]
    rw [Int32.lt_iff_toInt_lt] at c
    have ea : (s.2 + 1).toInt = s.2.toInt + 1 := i_addk tl_1 (by omega) (by omega)
    refine rcl_bind (pc_holds x1.1 (by omega)) (fun r2 _ h2 => rcr_bind pc_has (fun r3 _ h3 => ?_))
    obtain ⟨j, ej⟩ : ∃ j, s.2.toNatClampNeg = j := ⟨_, rfl⟩
    have hj := i_clq x1.1
    rw [ej] at hj
    obtain ⟨⟨E1, E2⟩, g1, g2⟩ := hB.2.2.2.1 j (by omega)
    have g3 := lt_all b3.1.1 b3.1.2 g2
    rw [E2] at g3
    rcases hbI_01 set s.2 with e | e
    · rw [if_pos (show r2 = 0 by rw [h2, e]), if_pos (show r3 = 0 by rw [h3, e]), sb, sb, Int32.or_zero]
      exact rc_some ⟨rfl, by show 0 ≤ (s.2 + 1).toInt ∧ (s.2 + 1).toInt ≤ 8; omega, x2⟩
    · rw [if_neg (show ¬ r2 = 0 by rw [h2, e]; decide), if_neg (show ¬ r3 = 0 by rw [h3, e]; decide)]
      refine rcl_bind (Q := fun v => v = s.1 ||| w' 142 j) (pc_rd (fun _ => pc_some (by rw [ej, E2]))) (fun v _ hv => ?_)
      refine rcr_bind (Q := fun v => v = w' 142 j) (pc_rd (fun _ => pc_some (by rw [ej]))) (fun v2 _ hv2 => ?_)
      rw [hv, hv2]
      have so := i_or (k := (w b 2).toInt.toNat) (by omega) x2.1 x2.2 g3.1 g3.2
      exact rc_some ⟨rfl, by show 0 ≤ (s.2 + 1).toInt ∧ (s.2 + 1).toInt ≤ 8; omega, so⟩
  · rw [if_neg c, if_neg c]
    exact rc_some ⟨rfl, x2⟩
theorem pc_onward0 {w' : Mem} : Pc (fun r => r = 0) (f_X10_onward 0 w') := by
  unfold f_X10_onward
  simp only [bind_eta1]
  refine pc_lp (fun (s : Int32 × Int32) => s.1 = 0) ?_ _ _ rfl
  intro s hX
  refine pc_ite (fun c => ?_) (fun c => pc_some hX)
  refine pc_bind pc_has (fun r _ hr => ?_)
  have z : hbI 0 s.2 = 0 := by
    unfold hbI
    rw [Int32.zero_shiftRight, Int32.zero_and]
    rfl
  rw [if_pos (show r = 0 by rw [hr, z]), sb]
  refine pc_some ?_
  show s.1 ||| 0 = 0
  rw [hX]
  decide
theorem pc_onwardR {b : Nat} {w w' : Mem} {set : Int32} (hB : BrC b w w') : Pc (fun (r : Int32) => 0 ≤ r.toInt ∧ r.toInt < (2 ^ (w b 2).toInt.toNat : Nat)) (f_X10_onward set w') := by
  unfold f_X10_onward
  simp only [bind_eta1]
  have t0 := tl_0
  have b3 := hB.2.2.1
  have eM : w b 2 = w' 134 17 := hB.1.2.2.1
  have hp := Nat.two_pow_pos (w b 2).toInt.toNat
  rw [← eM]
  refine pc_lp (fun (s : Int32 × Int32) => (0 ≤ s.2.toInt ∧ s.2.toInt ≤ 8) ∧ 0 ≤ s.1.toInt ∧ s.1.toInt < (2 ^ (w b 2).toInt.toNat : Nat)) ?_ _ _ ⟨by show 0 ≤ (0 : Int32).toInt ∧ (0 : Int32).toInt ≤ 8; omega, by show 0 ≤ (0 : Int32).toInt; omega, by show (0 : Int32).toInt < _; omega⟩
  intro s hX
  obtain ⟨x1, x2⟩ := hX
  refine pc_ite (fun c => ?_) (fun c => pc_some x2)
  rw [Int32.lt_iff_toInt_lt] at c
  have ea : (s.2 + 1).toInt = s.2.toInt + 1 := i_addk tl_1 (by omega) (by omega)
  obtain ⟨j, ej⟩ : ∃ j, s.2.toNatClampNeg = j := ⟨_, rfl⟩
  have hj := i_clq x1.1
  rw [ej] at hj
  obtain ⟨⟨E1, E2⟩, g1, g2⟩ := hB.2.2.2.1 j (by omega)
  have g3 := lt_all b3.1.1 b3.1.2 g2
  rw [E2] at g3
  refine pc_bind (pc_any _) (fun r _ _ => pc_bind (Q := fun (v : Int32) => 0 ≤ v.toInt ∧ v.toInt < (2 ^ (w b 2).toInt.toNat : Nat)) (pc_ite (fun _ => pc_some (by omega)) (fun _ => pc_rd (fun _ => pc_some (by rw [ej]; exact g3)))) (fun v _ hv => pc_some ?_))
  have so := i_or (k := (w b 2).toInt.toNat) (by omega) x2.1 x2.2 hv.1 hv.2
  exact ⟨by show 0 ≤ (s.2 + 1).toInt ∧ (s.2 + 1).toInt ≤ 8; omega, so⟩
theorem rc_leadsFrom {b : Nat} {w w' : Mem} {m : Int32} (hB : BrC b w w') (hm : 0 ≤ m.toInt ∧ m.toInt < (w b 2).toInt) : Rc (fun u v => u = v) (f_X1_leadsFrom b m w) (f_X10_leadsFrom m w') := by
  unfold f_X1_leadsFrom f_X10_leadsFrom
  simp only [bind_eta1]
  have t0 := tl_0
  have t1 := tl_1
  have b3 := hB.2.2.1
  have eM : w b 2 = w' 134 17 := hB.1.2.2.1
  have p8 : 2 ^ (w b 2).toInt.toNat ≤ 2 ^ 8 := Nat.pow_le_pow_right (by decide) (by omega)
  refine rcl_bind (pc_hasM b3.1.2) (fun r1 _ h1 => ?_)
  rcases h1 with ⟨e1, _⟩ | ⟨_, n⟩
  · rw [if_neg (show ¬ r1 = 0 by rw [e1]; decide)]
    obtain ⟨j, ej⟩ : ∃ j, m.toNatClampNeg = j := ⟨_, rfl⟩
    have hj := i_clq hm.1
    rw [ej] at hj
    obtain ⟨⟨E1, E2⟩, g1, g2⟩ := hB.2.2.2.1 j (by omega)
    have g3 := lt_all b3.1.1 b3.1.2 g2
    rw [E2] at g3
    refine rcl_bind (Q := fun v => v = w' 142 j) (pc_rd (fun _ => pc_some (by rw [ej, E2]))) (fun v _ hv => rcr_rd (fun _ => ?_))
    rw [hv, ej, ← eM]
    refine rc_lp2 (fun (s s2 : Int32 × Int32) => s.1 = s2.1 ∧ s.2.toInt = s2.2.toInt + 1 ∧ (1 ≤ s.2.toInt ∧ s.2.toInt ≤ (w b 2).toInt) ∧ (0 ≤ s.1.toInt ∧ s.1.toInt < (2 ^ (w b 2).toInt.toNat : Nat)) ∧ ((∀ r, f_X10_onward s.1 w' = some r → s.1 ||| r = s.1) ∨ s.2.toInt ≤ (pI s.1 : Int))) (fun (r : Int32) (s2 : Int32 × Int32) => s2.1 = r ∧ ¬ s2.2 < w b 2) ?_ ?_ _ _ _ _ ?_
    · intro s s2 hX
      obtain ⟨x1, x2, x3, x4, x5⟩ := hX
      rw [← x1]
      have ea : (s.2 + 1).toInt = s.2.toInt + 1 := i_addk tl_1 (by omega) (by omega)
      have eb : (s2.2 + 1).toInt = s2.2.toInt + 1 := i_addk tl_1 (by omega) (by omega)
      rw [if_pos (show s2.2 < w b 2 by rw [Int32.lt_iff_toInt_lt]; omega)]
      have key : ∀ r, f_X10_onward s.1 w' = some r → 0 ≤ r.toInt → r.toInt < (2 ^ (w b 2).toInt.toNat : Nat) → s.1 ||| r = s.1 ∨ s.2.toInt + 1 ≤ (pI (s.1 ||| r) : Int) := by
        intro r hr hr0 hr1
        rcases pI_or (x := s.1) (y := r) x4.1 (by omega) hr0 (by omega) with q | q
        · exact Or.inl q
        · rcases x5 with x5 | x5
          · exact Or.inl (x5 r hr)
          · exact Or.inr (by omega)
      by_cases c : s.2 < w b 2
      · rw [if_pos c]
        rw [Int32.lt_iff_toInt_lt] at c
        refine rc_bind (rc_step hB) (fun r r2 _ hr2 hr => ?_)
        obtain ⟨rfl, y1, y2⟩ := hr
        have so := i_or (k := (w b 2).toInt.toNat) (by omega) x4.1 x4.2 y1 y2
        refine rc_some ⟨rfl, by show (s.2 + 1).toInt = (s2.2 + 1).toInt + 1; omega, by show 1 ≤ (s.2 + 1).toInt ∧ (s.2 + 1).toInt ≤ _; omega, so, ?_⟩
        show (∀ r', f_X10_onward (s.1 ||| r) w' = some r' → (s.1 ||| r) ||| r' = s.1 ||| r) ∨ (s.2 + 1).toInt ≤ (pI (s.1 ||| r) : Int)
        rcases key r hr2 y1 y2 with q | q
        · left
          rw [q]
          intro r' hr'
          rw [hr2] at hr'
          cases hr'
          exact q
        · right
          omega
      · rw [if_neg c]
        rw [Int32.lt_iff_toInt_lt] at c
        refine rcr_bind (Q := fun r => s.1 ||| r = s.1) (fun r hr => ?_) (fun r _ hr => rc_some ⟨hr, by show ¬ s2.2 + 1 < w b 2; rw [Int32.lt_iff_toInt_lt]; omega⟩)
        have hr3 := pc_onwardR hB r hr
        rcases key r hr hr3.1 hr3.2 with q | q
        · exact q
        · exfalso
          have so := i_or (k := (w b 2).toInt.toNat) (by omega) x4.1 x4.2 hr3.1 hr3.2
          have h9 := pI_le (x := s.1 ||| r) (M := (w b 2).toInt.toNat) (by omega) so.1 so.2
          omega
    · intro r s2 hY
      obtain ⟨y1, y2⟩ := hY
      rw [if_neg y2]
      exact pc_some y1.symm
    · refine ⟨rfl, by show (1 : Int32).toInt = (0 : Int32).toInt + 1; omega, by show 1 ≤ (1 : Int32).toInt ∧ (1 : Int32).toInt ≤ _; omega, g3, ?_⟩
      show (∀ r, f_X10_onward (w' 142 j) w' = some r → w' 142 j ||| r = w' 142 j) ∨ (1 : Int32).toInt ≤ (pI (w' 142 j) : Int)
      rcases pI_pos (x := w' 142 j) g3.1 (by omega) with q | q
      · left
        rw [q]
        intro r hr
        rw [pc_onward0 r hr]
        decide
      · right
        omega
  · exact absurd hm n
theorem bit_tab : ∀ a : Fin 8, ∀ b : Fin 8, hbI ((1 : Int32) <<< (Int32.ofNat a.1 &&& 31)) (Int32.ofNat b.1) = if a.1 = b.1 then 1 else 0 := by decide
theorem bit_one {m k : Int32} (h0 : 0 ≤ m.toInt) (h1 : m.toInt ≤ 7) (h2 : 0 ≤ k.toInt) (h3 : k.toInt ≤ 7) : hbI ((1 : Int32) <<< (m &&& 31)) k = if m.toInt = k.toInt then 1 else 0 := by
  have := bit_tab ⟨m.toInt.toNat, by omega⟩ ⟨k.toInt.toNat, by omega⟩
  rw [← i_nat2 h0, ← i_nat2 h2] at this
  rw [this]
  by_cases e : m.toInt = k.toInt
  · rw [if_pos e, if_pos (by show m.toInt.toNat = k.toInt.toNat; omega)]
  · rw [if_neg e, if_neg (by show ¬ m.toInt.toNat = k.toInt.toNat; omega)]
theorem pc_onward1 {w' : Mem} {m : Int32} (hm : 0 ≤ m.toInt ∧ m.toInt < (w' 134 17).toInt) (hM : (w' 134 17).toInt ≤ 8) : Pc (fun r => r = w' 142 m.toNatClampNeg) (f_X10_onward ((1 : Int32) <<< (m &&& 31)) w') := by
  unfold f_X10_onward
  simp only [bind_eta1]
  have t0 := tl_0
  refine pc_lp (fun (s : Int32 × Int32) => (0 ≤ s.2.toInt ∧ s.2.toInt ≤ 8) ∧ ((s.2.toInt ≤ m.toInt ∧ s.1 = 0) ∨ (m.toInt < s.2.toInt ∧ s.1 = w' 142 m.toNatClampNeg))) ?_ _ _ ⟨by show 0 ≤ (0 : Int32).toInt ∧ (0 : Int32).toInt ≤ 8; omega, Or.inl ⟨by show (0 : Int32).toInt ≤ _; omega, rfl⟩⟩
  intro s hX
  obtain ⟨x1, x2⟩ := hX
  refine pc_ite (fun c => ?_) (fun c => pc_some ?_)
  · rw [Int32.lt_iff_toInt_lt] at c
    have ea : (s.2 + 1).toInt = s.2.toInt + 1 := i_addk tl_1 (by omega) (by omega)
    refine pc_bind pc_has (fun r _ hr => ?_)
    rw [bit_one hm.1 (by omega) x1.1 (by omega)] at hr
    by_cases e : m.toInt = s.2.toInt
    · rw [if_pos e] at hr
      rw [if_neg (show ¬ r = 0 by rw [hr]; decide)]
      have e2 : s.2 = m := by rw [i_eq_iff]; exact e.symm
      refine pc_bind (Q := fun v => v = w' 142 m.toNatClampNeg) (pc_rd (fun _ => pc_some (by rw [e2]))) (fun v _ hv => pc_some ⟨by show 0 ≤ (s.2 + 1).toInt ∧ (s.2 + 1).toInt ≤ 8; omega, Or.inr ⟨by show m.toInt < (s.2 + 1).toInt; omega, ?_⟩⟩)
      show s.1 ||| v = _
      rcases x2 with ⟨_, q⟩ | ⟨q, _⟩
      · rw [q, hv, Int32.zero_or]
      · omega
    · rw [if_neg e] at hr
      rw [if_pos hr, sb]
      refine pc_some ⟨by show 0 ≤ (s.2 + 1).toInt ∧ (s.2 + 1).toInt ≤ 8; omega, ?_⟩
      show ((s.2 + 1).toInt ≤ m.toInt ∧ s.1 ||| 0 = 0) ∨ (m.toInt < (s.2 + 1).toInt ∧ s.1 ||| 0 = _)
      rw [Int32.or_zero]
      rcases x2 with ⟨q1, q⟩ | ⟨q1, q⟩
      · exact Or.inl ⟨by omega, q⟩
      · exact Or.inr ⟨by omega, q⟩
  · rw [Int32.lt_iff_toInt_lt] at c
    rcases x2 with ⟨q1, q⟩ | ⟨q1, q⟩
    · omega
    · exact q
theorem rc_round {b : Nat} {w w' : Mem} {m : Int32} (hB : BrC b w w') (hm : 0 ≤ m.toInt ∧ m.toInt < (w b 2).toInt) : Rc (fun u v => u = v) (f_X1_stepsRound b m w) (f_X10_roundOf m w') := by
  unfold f_X1_stepsRound f_X10_roundOf
  have t0 := tl_0
  have t1 := tl_1
  have b3 := hB.2.2.1
  have eM : w b 2 = w' 134 17 := hB.1.2.2.1
  refine rcl_bind (pc_hasM b3.1.2) (fun r1 _ h1 => ?_)
  rcases h1 with ⟨e1, _⟩ | ⟨_, n⟩
  · rw [if_neg (show ¬ r1 = 0 by rw [e1]; decide)]
    obtain ⟨j, ej⟩ : ∃ j, m.toNatClampNeg = j := ⟨_, rfl⟩
    have hj := i_clq hm.1
    rw [ej] at hj
    obtain ⟨⟨E1, E2⟩, g1, g2⟩ := hB.2.2.2.1 j (by omega)
    refine rcl_bind (Q := fun v => v = w' 142 j) (pc_rd (fun _ => pc_some (by rw [ej, E2]))) (fun v _ hv => rcr_lt ?_)
    rw [hv]
    refine rc_lp (fun (s s2 : Int32 × Int32) => s.2 = s2.2 ∧ ∀ r, f_X10_onward s2.1 w' = some r → r = s.1) ?_ _ _ _ _ ⟨rfl, fun r hr => ?_⟩
    · intro s s2 hX
      obtain ⟨x1, x2⟩ := hX
      rw [← x1, ← eM]
      by_cases c : w b 2 < s.2
      · rw [if_pos c, if_pos c]
        exact rc_some rfl
      · rw [if_neg c, if_neg c]
        refine rcr_bind (Q := fun r => r = s.1) x2 (fun r _ hr => ?_)
        rw [hr]
        refine rcl_bind (pc_holds hm.1 (by omega)) (fun r2 _ h2 => rcr_bind pc_has (fun r3 _ h3 => ?_))
        rw [h2, h3]
        by_cases e : hbI s.1 m = 0
        · rw [if_pos e, if_pos e]
          refine rcl_bind (Q := fun r4 => f_X1_oneStepFrom b s.1 w = some r4) (fun r h => h) (fun r4 _ h4 => rc_some ⟨rfl, fun r hr => ?_⟩)
          exact (rc_step hB r4 r h4 hr).1.symm
        · rw [if_neg e, if_neg e]
          exact rc_some rfl
    · have h9 := pc_onward1 (w' := w') (m := m) (by rw [← eM]; exact hm) (by rw [← eM]; exact b3.1.2) r hr
      rw [h9, ej]
  · exact absurd hm n
theorem eq_matter {w w' : Mem} {m k : Int32} (h : SimB w w') : Rc (fun x y => x = y) (f_X9_matter m k w) (f_X10_matter m k w') := by
  have hB := h.2.1
  obtain ⟨b1, b2, b3, b4, b5⟩ := h.2.1
  unfold f_X9_matter f_X10_matter
  simp only [bind_eta1]
  refine rcl_bind (pc_hasM b3.1.2) (fun r1 _ h1 => ?_)
  refine rcr_bind (pc_isM (by rw [← b1.2.2.1]; exact b3.1.1)) (fun s1 _ g1 => ?_)
  rw [← b1.2.2.1] at g1
  rcases h1 with ⟨e1, hm⟩ | ⟨e1, n⟩
  · rcases g1 with ⟨e2, _⟩ | ⟨_, n⟩
    · rw [if_neg (show ¬ r1 = 0 by rw [e1]; decide), if_neg (show ¬ s1 = 0 by rw [e2]; decide)]
      obtain ⟨j, ej⟩ : ∃ j, m.toNatClampNeg = j := ⟨_, rfl⟩
      have hj := i_clq hm.1
      rw [ej] at hj
      obtain ⟨⟨E1, E2⟩, _, _⟩ := b4 j (by omega)
      by_cases k0 : k = 0
      · rw [if_pos k0, if_pos k0]
        refine rcl_rd (fun _ => rcr_rd (fun _ => rc_some ?_))
        rw [ej, E1]
      · rw [if_neg k0, if_neg k0]
        by_cases k1 : k = 1
        · rw [if_pos k1, if_pos k1]
          refine rcl_rd (fun _ => rcr_rd (fun _ => rc_some ?_))
          rw [ej, E2]
        · rw [if_neg k1, if_neg k1]
          by_cases k2 : k = 2
          · rw [if_pos k2, if_pos k2]
            exact rc_leadsFrom hB hm
          · rw [if_neg k2, if_neg k2]
            by_cases k3 : k = 3
            · rw [if_pos k3, if_pos k3]
              exact rc_round hB hm
            · rw [if_neg k3, if_neg k3]
              exact rc_some rfl
    · exact absurd hm n
  · rcases g1 with ⟨e2, hm⟩ | ⟨e2, _⟩
    · exact absurd hm n
    · rw [if_pos e1, if_pos e2]
      exact rc_some rfl
