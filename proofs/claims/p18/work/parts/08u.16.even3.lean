/-! the evening on both sides -/
def TrC (h c4 c5 : Int32) (t : Nat) (b7 b8 b9 wt st is sa wa : Int32) : Prop := (wt = wa ∧ st = sa) ∧ ((is = 0 ∧ (b7 = 1 ∧ b8 = 0 ∧ b9 = 0) ∧ ¬ c4.toInt = t ∧ sa = 0 ∧ 0 ≤ wa.toInt ∧ wa.toInt ≤ 60 - 5 * h.toInt) ∨ (is = 1 ∧ (b7 = 0 ∧ b8 = 0 ∧ b9 = 0) ∧ c4.toInt = t ∧ 0 ≤ sa.toInt ∧ sa.toInt ≤ 300 * (pI c5 : Int)) ∨ (is = 2 ∧ (b7 = 0 ∧ b8 = 1 ∧ b9 = 0) ∧ ¬ c4.toInt = t ∧ 0 ≤ sa.toInt ∧ sa.toInt ≤ 2400) ∨ (is = 3 ∧ (b7 = 0 ∧ b8 = 0 ∧ b9 = 1) ∧ ¬ c4.toInt = t ∧ 0 ≤ sa.toInt ∧ sa.toInt ≤ 2400))
def EvC (o : Nat) (c : Nat → Int32) (b : Nat) (w : Mem) : Prop :=
  (w o 0 = c 0 ∧ w o 1 = c 1 ∧ w o 2 = c 2 ∧ w o 3 = c 3 ∧ w o 4 = c 4 ∧ w o 5 = c 5 ∧ w o 6 = c 6) ∧
  ((0 ≤ (c 1).toInt ∧ (c 1).toInt ≤ 9000) ∧ (0 ≤ (c 2).toInt ∧ (c 2).toInt ≤ 999999) ∧ (0 ≤ (c 3).toInt ∧ (c 3).toInt < (2 ^ (w b 2).toInt.toNat : Nat)) ∧ (-1 ≤ (c 4).toInt ∧ (c 4).toInt < (w b 3).toInt) ∧ (0 ≤ (c 5).toInt ∧ (c 5).toInt < (2 ^ (w b 2).toInt.toNat : Nat)) ∧ (-1 ≤ (c 6).toInt ∧ (c 6).toInt < (w b 2).toInt)) ∧
  (c 4 = -1 → c 5 = 0 ∧ c 6 = -1) ∧
  ((0 ≤ (w o 7).toInt ∧ (w o 7).toInt < (2 ^ (w b 3).toInt.toNat : Nat)) ∧ (0 ≤ (w o 8).toInt ∧ (w o 8).toInt < (2 ^ (w b 3).toInt.toNat : Nat)) ∧ (0 ≤ (w o 9).toInt ∧ (w o 9).toInt < (2 ^ (w b 3).toInt.toNat : Nat))) ∧
  ∀ t : Nat, (t : Int) < (w b 3).toInt → TrC (w (b + 4) t) (c 4) (c 5) t (bt (w o 7) t) (bt (w o 8) t) (bt (w o 9) t) (w (o + 1) t) (w (o + 2) t) (c (7 + t)) (c (13 + t)) (c (19 + t))
/-! the same evening at another place, or in another memory -/
theorem evc_mv {o p b : Nat} {c d : Nat → Int32} {w u : Mem} (h : EvC o c b w) (h6 : (w b 3).toInt ≤ 6) (hf : ∀ i, i < 10 → u p i = w o i) (h1 : ∀ i, i < 6 → u (p + 1) i = w (o + 1) i) (h2 : ∀ i, i < 6 → u (p + 2) i = w (o + 2) i) (hd : ∀ i, i < 25 → d i = c i) (hb2 : u b 2 = w b 2) (hb3 : u b 3 = w b 3) (hb4 : ∀ i, i < 6 → u (b + 4) i = w (b + 4) i) : EvC p d b u := by
  obtain ⟨a1, a2, a3, a4, a5⟩ := h
  refine ⟨?_, ?_, ?_, ?_, fun t ht => ?_⟩
  · rw [hf 0 (by omega), hf 1 (by omega), hf 2 (by omega), hf 3 (by omega), hf 4 (by omega), hf 5 (by omega), hf 6 (by omega), hd 0 (by omega), hd 1 (by omega), hd 2 (by omega), hd 3 (by omega), hd 4 (by omega), hd 5 (by omega), hd 6 (by omega)]
    exact a1
  · rw [hd 1 (by omega), hd 2 (by omega), hd 3 (by omega), hd 4 (by omega), hd 5 (by omega), hd 6 (by omega), hb2, hb3]
    exact a2
  · rw [hd 4 (by omega), hd 5 (by omega), hd 6 (by omega)]
    exact a3
  · rw [hf 7 (by omega), hf 8 (by omega), hf 9 (by omega), hb3]
    exact a4
  · rw [hb3] at ht
    rw [hb4 t (by omega), hf 7 (by omega), hf 8 (by omega), hf 9 (by omega), h1 t (by omega), h2 t (by omega), hd 4 (by omega), hd 5 (by omega), hd (7 + t) (by omega), hd (13 + t) (by omega), hd (19 + t) (by omega)]
    exact a5 t ht
/-! copyFrom copies an evening -/
theorem pc_copyEv {o p : Nat} (ho : EvO o) (hp : EvO p) (hne : o + 3 ≤ p ∨ p + 3 ≤ o) {w : Mem} : Pc (fun u => (∀ i, i < 10 → u p i = w o i) ∧ (∀ i, i < 6 → u (p + 1) i = w (o + 1) i) ∧ (∀ i, i < 6 → u (p + 2) i = w (o + 2) i) ∧ ∀ k i, ¬ (p ≤ k ∧ k ≤ p + 2) → u k i = w k i) (f_X3_copyFrom p o w) := by
  intro u hu
  have fr := fr_X3_copyFrom p hp o ho w u hu
  refine (?_ : Pc (fun u => (∀ i, i < 10 → u p i = w o i) ∧ (∀ i, i < 6 → u (p + 1) i = w (o + 1) i) ∧ (∀ i, i < 6 → u (p + 2) i = w (o + 2) i)) (f_X3_copyFrom p o w)) u hu |> fun h => ⟨h.1, h.2.1, h.2.2, fun k i hk => fr k i (by omega)⟩
  have t0 := tl_0
  have t6 := tl_6
  unfold f_X3_copyFrom
  simp only [bind_eta1]
  refine pc_pw (pc_pw (pc_pw (pc_pw (pc_pw (pc_pw (pc_pw (pc_pw (pc_pw (pc_pw ?_)))))))))
  have rn : ∀ (x : Mem) (k i j : Nat) (v : Int32), ¬ k = o → wu x k i v o j = x o j := fun x k i j v h => wu_ne (by omega)
  have po : ¬ p = o := by omega
  simp only [rn _ _ _ _ _ po]
  obtain ⟨y, ey⟩ : ∃ y, y = wu (wu (wu (wu (wu (wu (wu (wu (wu (wu w p 0 (w o 0)) p 1 (w o 1)) p 2 (w o 2)) p 3 (w o 3)) p 4 (w o 4)) p 5 (w o 5)) p 6 (w o 6)) p 7 (w o 7)) p 8 (w o 8)) p 9 (w o 9) := ⟨_, rfl⟩
  rw [← ey]
  have Y : ∀ k i, ¬ k = p → y k i = w k i := by
    intro k i h
    rw [ey]
    simp only [wu_ap, h, false_and, if_false]
  have Yp : ∀ i, i < 10 → y p i = w o i := by
    intro i hi
    rw [ey]
    rcases (by omega : i = 0 ∨ i = 1 ∨ i = 2 ∨ i = 3 ∨ i = 4 ∨ i = 5 ∨ i = 6 ∨ i = 7 ∨ i = 8 ∨ i = 9) with rfl | rfl | rfl | rfl | rfl | rfl | rfl | rfl | rfl | rfl <;> simp [wu_ap]
  refine pc_lp (fun (s : Int32 × Mem) => (0 ≤ s.1.toInt ∧ s.1.toInt ≤ 6) ∧ (∀ k i, ¬ (p + 1 ≤ k ∧ k ≤ p + 2) → s.2 k i = y k i) ∧ ∀ i : Nat, (i : Int) < s.1.toInt → s.2 (p + 1) i = w (o + 1) i ∧ s.2 (p + 2) i = w (o + 2) i) ?_ _ _ ⟨by show 0 ≤ (0 : Int32).toInt ∧ (0 : Int32).toInt ≤ 6; omega, fun _ _ _ => rfl, fun i hi => by have h' : (i : Int) < (0 : Int32).toInt := hi; omega⟩
  intro s hX
  obtain ⟨x1, x2, x3⟩ := hX
  refine pc_ite (fun c => ?_) (fun c => pc_some ?_)
  · rw [Int32.lt_iff_toInt_lt] at c
    have ea : (s.1 + 1).toInt = s.1.toInt + 1 := i_addk tl_1 (by omega) (by omega)
    obtain ⟨j, ej⟩ : ∃ j, s.1.toNatClampNeg = j := ⟨_, rfl⟩
    have hj := i_clq x1.1
    rw [ej] at hj
    refine pc_rd (fun _ => pc_wr (fun _ => pc_rd (fun _ => pc_wr (fun _ => pc_some ?_))))
    rw [ej, wu_ne (show ¬ (o + 2 = p + 1 ∧ j = j) by omega), x2 (o + 1) j (by omega), x2 (o + 2) j (by omega), Y (o + 1) j (by omega), Y (o + 2) j (by omega)]
    refine ⟨by show 0 ≤ (s.1 + 1).toInt ∧ (s.1 + 1).toInt ≤ 6; omega, fun k i h => ?_, fun i hi => ?_⟩
    · dsimp only
      rw [wu_ne (by omega), wu_ne (by omega)]
      exact x2 k i h
    · have hi' : (i : Int) < (s.1 + 1).toInt := hi
      dsimp only
      by_cases e : i = j
      · rw [e, wu_ne (by omega), wu_at, wu_at]
        exact ⟨rfl, rfl⟩
      · rw [wu_ne (by omega), wu_ne (by omega), wu_ne (by omega), wu_ne (by omega)]
        exact x3 i (by omega)
  · rw [Int32.lt_iff_toInt_lt] at c
    exact ⟨fun i hi => by rw [x2 p i (by omega)]; exact Yp i hi, fun i hi => (x3 i (by omega)).1, fun i hi => (x3 i (by omega)).2⟩
