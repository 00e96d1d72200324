/-! bridge() on both sides -/
theorem cl_0 : (0 : Int32).toNatClampNeg = 0 := by decide
theorem cl_1 : (1 : Int32).toNatClampNeg = 1 := by decide
theorem cl_3 : (3 : Int32).toNatClampNeg = 3 := by decide
theorem cl_4 : (4 : Int32).toNatClampNeg = 4 := by decide
theorem cl_6 : (6 : Int32).toNatClampNeg = 6 := by decide
theorem pc_beginB {w : Mem} : Pc (fun v => v 106 2 = 0 ∧ v 109 2 = 0 ∧ v 126 2 = 0 ∧ v 130 2 = 0 ∧ v 6 1 = 0) (f_X9_beginBridge w) := by
  unfold f_X9_beginBridge f_X6_forget f_X2_forget_106 f_X2_forget_109
  simp only [bind_eta1]
  refine pc_bind (pc_any _) (fun w1 _ _ => ?_)
  refine pc_bind (Q := fun v => v = wu w1 6 1 0) (pc_pw (pc_some rfl)) (fun w2 _ h2 => ?_)
  refine pc_bind (Q := fun v => v = wu w2 106 2 0) (pc_pw (pc_some rfl)) (fun w3 _ h3 => ?_)
  refine pc_bind (Q := fun v => v = wu w3 109 2 0) (pc_pw (pc_some rfl)) (fun w4 _ h4 => ?_)
  have a1 : w4 106 2 = 0 := by rw [h4, wu_ne (by omega), h3, wu_at]
  have a2 : w4 109 2 = 0 := by rw [h4, wu_at]
  have a3 : w4 6 1 = 0 := by rw [h4, wu_ne (by omega), h3, wu_ne (by omega), h2, wu_at]
  refine pc_lp (fun s => (s.1 = 0 ∧ s.2 = w4) ∨ (s.1 = 1 ∧ s.2 = wu w4 126 2 0) ∨ (s.1 = 2 ∧ s.2 = wu (wu w4 126 2 0) 130 2 0)) ?_ _ _ (Or.inl ⟨rfl, rfl⟩)
  intro s hs
  rcases hs with ⟨e1, e2⟩ | ⟨e1, e2⟩ | ⟨e1, e2⟩
  · rw [e1, e2, if_pos (by decide)]
    refine pc_ri (fun _ => pc_pw (pc_some (Or.inr (Or.inl ⟨by show (0 + 1 : Int32) = 1; decide, ?_⟩))))
    show wu w4 (126 + 4 * (0 : Int32).toNatClampNeg) 2 0 = _
    rw [cl_0]
  · rw [e1, e2, if_pos (by decide)]
    refine pc_ri (fun _ => pc_pw (pc_some (Or.inr (Or.inr ⟨by show (1 + 1 : Int32) = 2; decide, ?_⟩))))
    show wu (wu w4 126 2 0) (126 + 4 * (1 : Int32).toNatClampNeg) 2 0 = _
    rw [cl_1]
  · rw [e1, e2, if_neg (by decide)]
    refine pc_some ?_
    show wu (wu w4 126 2 0) 130 2 0 106 2 = 0 ∧ wu (wu w4 126 2 0) 130 2 0 109 2 = 0 ∧ wu (wu w4 126 2 0) 130 2 0 126 2 = 0 ∧ wu (wu w4 126 2 0) 130 2 0 130 2 = 0 ∧ wu (wu w4 126 2 0) 130 2 0 6 1 = 0
    refine ⟨?_, ?_, ?_, ?_, ?_⟩
    · rw [wu_ne (by omega), wu_ne (by omega), a1]
    · rw [wu_ne (by omega), wu_ne (by omega), a2]
    · rw [wu_ne (by omega), wu_at]
    · rw [wu_at]
    · rw [wu_ne (by omega), wu_ne (by omega), a3]
theorem brp_if {b : Nat} (h : b = 112 ∨ b = 119) : brp (if b = 112 then 0 else 1) = b := by
  rcases h with rfl | rfl
  · rfl
  · rfl
def CbG (v : Mem) (q : Int32 × Mem) : Prop := q.1 = v (brp (v 0 9)) 3 ∧ brp (q.2 0 8) = brp (v 0 9) ∧ brp (q.2 0 9) = brp (v 0 8) ∧ q.2 1 1 = 0 ∧ q.2 0 11 = v 1 4 ∧ (∀ k i, 112 ≤ k → k ≤ 125 → q.2 k i = v k i) ∧ q.2 106 2 = 0 ∧ q.2 109 2 = 0 ∧ q.2 126 2 = 0 ∧ q.2 130 2 = 0 ∧ q.2 6 1 = 0
def CbP (w : Mem) (q : Int32 × Mem) : Prop := ∃ v, f_X7_readInto (brp (w 0 9)) w = some v ∧ ((¬ v 1 3 = 0 ∧ q.1 = -10 - v 1 3 ∧ q.2 = wu (wu v 1 1 0) 0 11 (v 1 4)) ∨ (v 1 3 = 0 ∧ CbG v q))
theorem pc_cbridge {w : Mem} : Pc (CbP w) (f_X9_bridge w) := by
  unfold f_X9_bridge
  refine pc_bind (Q := fun v => f_X7_readInto (brp (w 0 9)) w = some v) (fun v h => h) (fun v _ hv => ?_)
  refine pc_bind (Q := fun u => u = wu v 1 1 0) (by unfold f_X7_empty; exact pc_pw (pc_some rfl)) (fun u _ hu => ?_)
  refine pc_pw ?_
  obtain ⟨x, ex⟩ : ∃ x, x = wu u 0 11 (u 1 4) := ⟨_, rfl⟩
  rw [← ex]
  have x13 : x 1 3 = v 1 3 := by rw [ex, wu_ne (by omega), hu, wu_ne (by omega)]
  have xq : x = wu (wu v 1 1 0) 0 11 (v 1 4) := by rw [ex, hu, wu_ne (show ¬ (1 = 1 ∧ 4 = 1) by omega)]
  have X : ∀ k i, ¬ (k = 1 ∧ i = 1) → ¬ (k = 0 ∧ i = 11) → x k i = v k i := by
    intro k i h1 h2
    rw [xq, wu_ne h2, wu_ne h1]
  by_cases c : x 1 3 = 0
  · rw [if_pos c]
    refine pc_pr (fun h8 => pc_pr (fun h9 => ?_))
    obtain ⟨y, ey⟩ : ∃ y, y = wu (wu x 0 8 (if brp (x 0 9) = 112 then 0 else 1)) 0 9 (if brp (x 0 8) = 112 then 0 else 1) := ⟨_, rfl⟩
    rw [← ey]
    refine pc_bind pc_beginB (fun z hz hz2 => pc_some ?_)
    have fz := fr_X9_beginBridge y z hz
    have Y : ∀ k i, ¬ (k = 0 ∧ 8 ≤ i ∧ i ≤ 9) → y k i = x k i := by
      intro k i h1
      rw [ey, wu_ne (by omega), wu_ne (by omega)]
    have z8 : brp (z 0 8) = brp (v 0 9) := by
      rw [fz 0 8 (by omega), ey, wu_ne (by omega), wu_at, brp_if h8, X 0 9 (by omega) (by omega)]
    have z9 : brp (z 0 9) = brp (v 0 8) := by
      rw [fz 0 9 (by omega), ey, wu_at, brp_if h9, X 0 8 (by omega) (by omega)]
    have Zc : ∀ k i, 112 ≤ k → k ≤ 125 → z k i = v k i := fun k i k1 k2 => by
      rw [fz k i (by omega), Y k i (by omega), X k i (by omega) (by omega)]
    have hb9 : brp (v 0 9) = 112 ∨ brp (v 0 9) = 119 := brp_or _
    refine ⟨v, hv, Or.inr ⟨by rw [← x13]; exact c, ?_, z8, z9, ?_, ?_, Zc, hz2.1, hz2.2.1, hz2.2.2.1, hz2.2.2.2.1, hz2.2.2.2.2⟩⟩
    · show z (brp (z 0 8)) 3 = v (brp (v 0 9)) 3
      rw [z8, Zc _ 3 (by omega) (by omega)]
    · show z 1 1 = 0
      rw [fz 1 1 (by omega), Y 1 1 (by omega), xq, wu_ne (by omega), wu_at]
    · show z 0 11 = v 1 4
      rw [fz 0 11 (by omega), Y 0 11 (by omega), xq, wu_at]
  · rw [if_neg c]
    refine pc_some ⟨v, hv, Or.inl ⟨by rw [← x13]; exact c, ?_, xq⟩⟩
    show -10 - x 1 3 = -10 - v 1 3
    rw [x13]
def RbG (W : Mem) (q : Int32 × Mem) : Prop := q.1 = W 134 9 ∧ q.2 134 0 = 0 ∧ q.2 134 5 = -1 ∧ (q.2 134 15 = W 134 6 ∧ q.2 134 16 = W 134 7 ∧ q.2 134 17 = W 134 8 ∧ q.2 134 18 = W 134 9) ∧ (∀ i : Nat, (i : Int) < (W 134 8).toInt → q.2 141 i = W 136 i ∧ q.2 142 i = W 137 i &&& AllI (W 134 8)) ∧ (∀ i : Nat, (i : Int) < (W 134 9).toInt → q.2 143 i = W 138 i ∧ q.2 144 i = W 139 i ∧ q.2 145 i = W 140 i &&& AllI (W 134 8)) ∧ (q.2 134 25 = 0 ∧ q.2 134 34 = 0 ∧ q.2 134 37 = 0 ∧ q.2 154 0 = 0 ∧ q.2 154 1 = 0) ∧ (q.2 146 4 = -1 ∧ q.2 146 6 = -1 ∧ q.2 146 3 = (if 0 < W 134 8 then 1 else 0)) ∧ ∀ i : Nat, i < 25 → ¬ i = 3 → ¬ i = 4 → ¬ i = 6 → q.2 146 i = 0
def RbP (w' : Mem) (q : Int32 × Mem) : Prop := ∃ r, f_X10_readsBridge w' = some r ∧ ((r.1 = 0 ∧ q.1 = -10 - r.2 134 4 ∧ q.2 = wu (wu r.2 134 0 0) 134 5 (r.2 134 2)) ∨ (¬ r.1 = 0 ∧ RbG r.2 q))
theorem pc_copy1 {A : Int32} {w : Mem} (h0 : 0 ≤ (w 134 17).toInt) (h1 : (w 134 17).toInt ≤ 8) (n : Nat) : Pc (fun v => (∀ k i, ¬ k = 141 → ¬ k = 142 → v k i = w k i) ∧ ∀ i : Nat, (i : Int) < (w 134 17).toInt → v 141 i = w 136 i ∧ v 142 i = w 137 i &&& A) (lp (S := (Int32 × Mem)) (T := Mem) (fun s81 => (if s81.1 < (s81.2 134 17) then rd 8 (s81.2 136) s81.1 fun x10 => wr 8 141 s81.1 x10 s81.2 fun w11 => rd 8 (w11 137) s81.1 fun x12 => wr 8 142 s81.1 (x12 &&& A) w11 fun w13 => some (Sum.inl ((s81.1 + (1 : Int32)), w13)) else some (Sum.inr s81.2))) n ((0 : Int32), w)) := by
  have t0 := tl_0
  refine pc_lp (fun s => 0 ≤ s.1.toInt ∧ s.1.toInt ≤ (w 134 17).toInt ∧ (∀ k i, ¬ k = 141 → ¬ k = 142 → s.2 k i = w k i) ∧ ∀ i : Nat, (i : Int) < s.1.toInt → s.2 141 i = w 136 i ∧ s.2 142 i = w 137 i &&& A) ?_ _ _ ?_
  · intro s hs
    obtain ⟨a0, a1, a2, a3⟩ := hs
    have ec : s.2 134 17 = w 134 17 := a2 134 17 (by omega) (by omega)
    refine pc_ite (fun cc => ?_) (fun cc => pc_some ?_)
    · rw [Int32.lt_iff_toInt_lt, ec] at cc
      refine pc_rd (fun _ => pc_wr (fun _ => pc_rd (fun _ => pc_wr (fun _ => pc_some ?_))))
      have e : (s.1 + 1).toInt = s.1.toInt + 1 := i_addk tl_1 (by omega) (by omega)
      refine ⟨by show 0 ≤ (s.1 + 1).toInt; omega, by show (s.1 + 1).toInt ≤ _; omega, fun k i k1 k2 => ?_, fun i hi => ?_⟩
      · show wu (wu s.2 141 s.1.toNatClampNeg _) 142 s.1.toNatClampNeg _ k i = w k i
        rw [wu_ne (by omega), wu_ne (by omega)]
        exact a2 k i k1 k2
      · dsimp only
        rcases nat_step a0 (by omega) hi with hi2 | hi2
        · have e2 := i_clq a0
          rw [wu_ne (by omega), wu_ne (by omega), wu_ne (by omega), wu_ne (by omega)]
          exact a3 i hi2
        · rw [hi2, wu_ne (by omega), wu_at, wu_at, wu_ne (by omega), a2 136 _ (by omega) (by omega), a2 137 _ (by omega) (by omega)]
          exact ⟨rfl, rfl⟩
    · rw [Int32.lt_iff_toInt_lt, ec] at cc
      have e : s.1.toInt = (w 134 17).toInt := by omega
      rw [e] at a3
      exact ⟨a2, a3⟩
  · refine ⟨by show 0 ≤ (0 : Int32).toInt; omega, by show (0 : Int32).toInt ≤ _; omega, fun k i _ _ => rfl, fun i hi => ?_⟩
    have hi2 : (i : Int) < (0 : Int32).toInt := hi
    omega
theorem pc_copy2 {A : Int32} {w : Mem} (h0 : 0 ≤ (w 134 18).toInt) (h1 : (w 134 18).toInt ≤ 6) (n : Nat) : Pc (fun v => (∀ k i, ¬ (143 ≤ k ∧ k ≤ 145) → v k i = w k i) ∧ ∀ i : Nat, (i : Int) < (w 134 18).toInt → v 143 i = w 138 i ∧ v 144 i = w 139 i ∧ v 145 i = w 140 i &&& A) (lp (S := (Int32 × Mem)) (T := Mem) (fun s123 => (if s123.1 < (s123.2 134 18) then rd 6 (s123.2 138) s123.1 fun x15 => wr 6 143 s123.1 x15 s123.2 fun w16 => rd 6 (w16 139) s123.1 fun x17 => wr 6 144 s123.1 x17 w16 fun w18 => rd 6 (w18 140) s123.1 fun x19 => wr 6 145 s123.1 (x19 &&& A) w18 fun w20 => some (Sum.inl ((s123.1 + (1 : Int32)), w20)) else some (Sum.inr s123.2))) n ((0 : Int32), w)) := by
  have t0 := tl_0
  refine pc_lp (fun s => 0 ≤ s.1.toInt ∧ s.1.toInt ≤ (w 134 18).toInt ∧ (∀ k i, ¬ (143 ≤ k ∧ k ≤ 145) → s.2 k i = w k i) ∧ ∀ i : Nat, (i : Int) < s.1.toInt → s.2 143 i = w 138 i ∧ s.2 144 i = w 139 i ∧ s.2 145 i = w 140 i &&& A) ?_ _ _ ?_
  · intro s hs
    obtain ⟨a0, a1, a2, a3⟩ := hs
    have ec : s.2 134 18 = w 134 18 := a2 134 18 (by omega)
    refine pc_ite (fun cc => ?_) (fun cc => pc_some ?_)
    · rw [Int32.lt_iff_toInt_lt, ec] at cc
      refine pc_rd (fun _ => pc_wr (fun _ => pc_rd (fun _ => pc_wr (fun _ => pc_rd (fun _ => pc_wr (fun _ => pc_some ?_))))))
      have e : (s.1 + 1).toInt = s.1.toInt + 1 := i_addk tl_1 (by omega) (by omega)
      obtain ⟨j, ej⟩ : ∃ j, s.1.toNatClampNeg = j := ⟨_, rfl⟩
      have e2 := i_clq a0
      rw [ej] at e2
      rw [ej]
      refine ⟨by show 0 ≤ (s.1 + 1).toInt; omega, by show (s.1 + 1).toInt ≤ _; omega, fun k i k1 => ?_, fun i hi => ?_⟩
      · show wu (wu (wu s.2 143 j _) 144 j _) 145 j _ k i = w k i
        rw [wu_ne (by omega), wu_ne (by omega), wu_ne (by omega)]
        exact a2 k i k1
      · dsimp only
        rcases nat_step a0 (by omega) hi with hi2 | hi2
        · have n1 : ¬ i = j := by omega
          simp only [wu_ap, n1, and_false, if_false]
          exact a3 i hi2
        · rw [ej] at hi2
          rw [hi2]
          simp only [wu_ap]
          refine ⟨?_, ?_, ?_⟩
          · simpa using a2 138 j (by omega)
          · simpa using a2 139 j (by omega)
          · simpa using congrArg (fun t => t &&& A) (a2 140 j (by omega))
    · rw [Int32.lt_iff_toInt_lt, ec] at cc
      have e : s.1.toInt = (w 134 18).toInt := by omega
      rw [e] at a3
      exact ⟨a2, a3⟩
  · refine ⟨by show 0 ≤ (0 : Int32).toInt; omega, by show (0 : Int32).toInt ≤ _; omega, fun k i _ => rfl, fun i hi => ?_⟩
    have hi2 : (i : Int) < (0 : Int32).toInt := hi
    omega
theorem pc_zero {w : Mem} (n : Nat) : Pc (fun v => (∀ k i, ¬ k = 146 → v k i = w k i) ∧ ∀ i : Nat, i < 25 → v 146 i = 0) (lp (S := (Int32 × Mem)) (T := Mem) (fun s177 => (if s177.1 < (25 : Int32) then wr 25 146 s177.1 (0 : Int32) s177.2 fun w22 => some (Sum.inl ((s177.1 + (1 : Int32)), w22)) else some (Sum.inr s177.2))) n ((0 : Int32), w)) := by
  have t0 := tl_0
  have t25 := tl_25
  refine pc_lp (fun s => 0 ≤ s.1.toInt ∧ s.1.toInt ≤ 25 ∧ (∀ k i, ¬ k = 146 → s.2 k i = w k i) ∧ ∀ i : Nat, (i : Int) < s.1.toInt → s.2 146 i = 0) ?_ _ _ ?_
  · intro s hs
    obtain ⟨a0, a1, a2, a3⟩ := hs
    refine pc_ite (fun cc => ?_) (fun cc => pc_some ?_)
    · rw [Int32.lt_iff_toInt_lt] at cc
      refine pc_wr (fun _ => pc_some ?_)
      have e : (s.1 + 1).toInt = s.1.toInt + 1 := i_addk tl_1 (by omega) (by omega)
      refine ⟨by show 0 ≤ (s.1 + 1).toInt; omega, by show (s.1 + 1).toInt ≤ _; omega, fun k i k1 => ?_, fun i hi => ?_⟩
      · show wu s.2 146 s.1.toNatClampNeg 0 k i = w k i
        rw [wu_ne (by omega)]
        exact a2 k i k1
      · show wu s.2 146 s.1.toNatClampNeg 0 146 i = 0
        rcases nat_step a0 (by omega) hi with hi2 | hi2
        · have e2 := i_clq a0
          rw [wu_ne (by omega)]
          exact a3 i hi2
        · rw [hi2, wu_at]
    · rw [Int32.lt_iff_toInt_lt] at cc
      exact ⟨a2, fun i hi => a3 i (by omega)⟩
  · refine ⟨by show 0 ≤ (0 : Int32).toInt; omega, by show (0 : Int32).toInt ≤ _; omega, fun k i _ => rfl, fun i hi => ?_⟩
    have hi2 : (i : Int) < (0 : Int32).toInt := hi
    omega
theorem pc_rbridge {w' : Mem} (hc : ∀ r, f_X10_readsBridge w' = some r → (0 ≤ (r.2 134 8).toInt ∧ (r.2 134 8).toInt ≤ 8) ∧ (0 ≤ (r.2 134 9).toInt ∧ (r.2 134 9).toInt ≤ 6)) : Pc (RbP w') (f_X10_bridge w') := by
  unfold f_X10_bridge
  refine pc_bind (Q := fun r => f_X10_readsBridge w' = some r) (fun v h => h) (fun r _ hr => ?_)
  obtain ⟨hm, hn⟩ := hc r hr
  refine pc_pw ?_
  by_cases c : r.1 = 0
  · rw [if_pos c, sb]
    refine pc_pw ?_
    rw [if_pos c]
    refine pc_some ⟨r, hr, Or.inl ⟨c, ?_, ?_⟩⟩
    · show -10 - wu (wu r.2 134 0 0) 134 5 _ 134 4 = _
      rw [wu_ne (by omega), wu_ne (by omega)]
    · show wu (wu r.2 134 0 0) 134 5 (wu r.2 134 0 0 134 2) = _
      rw [wu_ne (show ¬ (134 = 134 ∧ 2 = 0) by omega)]
  · rw [if_neg c, sb]
    refine pc_pw ?_
    rw [if_neg c]
    refine pc_pw (pc_pw (pc_pw (pc_pw ?_)))
    obtain ⟨x, ex⟩ : ∃ x, x = wu (wu r.2 134 0 0) 134 5 (-1) := ⟨_, rfl⟩
    rw [← ex]
    have X : ∀ k i, ¬ (k = 134 ∧ i = 0) → ¬ (k = 134 ∧ i = 5) → x k i = r.2 k i := by
      intro k i h1 h2
      rw [ex, wu_ne h2, wu_ne h1]
    have x0 : x 134 0 = 0 := by rw [ex, wu_ne (by omega), wu_at]
    have x5 : x 134 5 = -1 := by rw [ex, wu_at]
    have s1 : wu x 134 15 (x 134 6) 134 7 = x 134 7 := wu_ne (by omega)
    rw [s1]
    have s2 : wu (wu x 134 15 (x 134 6)) 134 16 (x 134 7) 134 8 = x 134 8 := by rw [wu_ne (by omega), wu_ne (by omega)]
    rw [s2]
    have s3 : wu (wu (wu x 134 15 (x 134 6)) 134 16 (x 134 7)) 134 17 (x 134 8) 134 9 = x 134 9 := by rw [wu_ne (by omega), wu_ne (by omega), wu_ne (by omega)]
    rw [s3]
    obtain ⟨y, ey⟩ : ∃ y, y = wu (wu (wu (wu x 134 15 (x 134 6)) 134 16 (x 134 7)) 134 17 (x 134 8)) 134 18 (x 134 9) := ⟨_, rfl⟩
    rw [← ey]
    have Y : ∀ k i, ¬ (k = 134 ∧ 15 ≤ i ∧ i ≤ 18) → y k i = x k i := by
      intro k i h1
      rw [ey, wu_ne (by omega), wu_ne (by omega), wu_ne (by omega), wu_ne (by omega)]
    have y15 : y 134 15 = r.2 134 6 := by rw [ey, wu_ne (by omega), wu_ne (by omega), wu_ne (by omega), wu_at, X 134 6 (by omega) (by omega)]
    have y16 : y 134 16 = r.2 134 7 := by rw [ey, wu_ne (by omega), wu_ne (by omega), wu_at, X 134 7 (by omega) (by omega)]
    have y17 : y 134 17 = r.2 134 8 := by rw [ey, wu_ne (by omega), wu_at, X 134 8 (by omega) (by omega)]
    have y18 : y 134 18 = r.2 134 9 := by rw [ey, wu_at, X 134 9 (by omega) (by omega)]
    refine pc_lt ?_
    rw [y17]
    refine (pc_bind (pc_copy1 (w := y) (A := AllI (r.2 134 8)) (by rw [y17]; exact hm.1) (by rw [y17]; exact hm.2) _) (fun v14 _ h14 => ?_) : Pc _ _)
    rw [y17] at h14
    have e18 : v14 134 18 = r.2 134 9 := by rw [h14.1 134 18 (by omega) (by omega), y18]
    refine (pc_bind (pc_copy2 (w := v14) (A := AllI (r.2 134 8)) (by rw [e18]; exact hn.1) (by rw [e18]; exact hn.2) _) (fun v21 _ h21 => ?_) : Pc _ _)
    rw [e18] at h21
    refine pc_bind (pc_zero _) (fun v23 _ h23 => ?_)
    refine pc_wr (fun _ => pc_wr (fun _ => ?_))
    rw [cl_4, cl_6]
    obtain ⟨z, ez⟩ : ∃ z, z = wu (wu v23 146 4 (-1)) 146 6 (-1) := ⟨_, rfl⟩
    rw [← ez]
    have Z : ∀ k i, ¬ k = 146 → z k i = v23 k i := by
      intro k i h1
      rw [ez, wu_ne (by omega), wu_ne (by omega)]
    have z17 : z 134 17 = r.2 134 8 := by rw [Z 134 17 (by omega), h23.1 134 17 (by omega), h21.1 134 17 (by omega), h14.1 134 17 (by omega) (by omega), y17]
    rw [z17]
    refine pc_bind (Q := fun v => v = if 0 < r.2 134 8 then 1 else 0) (pc_ite (fun c => pc_some (by rw [if_pos c])) (fun c => pc_some (by rw [if_neg c]))) (fun v26 _ h26 => ?_)
    refine pc_wr (fun _ => pc_pw (pc_pw (pc_pw (pc_wr (fun _ => pc_wr (fun _ => pc_some ?_))))))
    rw [cl_0, cl_1, cl_3]
    obtain ⟨t, et⟩ : ∃ t, t = wu (wu (wu (wu (wu (wu z 146 3 v26) 134 25 0) 134 34 0) 134 37 0) 154 0 0) 154 1 0 := ⟨_, rfl⟩
    rw [← et]
    have F : ∀ k i, ¬ (k = 146 ∧ i = 3) → ¬ (k = 134 ∧ i = 25) → ¬ (k = 134 ∧ i = 34) → ¬ (k = 134 ∧ i = 37) → ¬ (k = 154 ∧ i ≤ 1) → t k i = z k i := by
      intro k i h1 h2 h3 h4 h5
      rw [et, wu_ne (by omega), wu_ne (by omega), wu_ne h4, wu_ne h3, wu_ne h2, wu_ne h1]
    have F2 : ∀ k i, ¬ k = 146 → ¬ (k = 134 ∧ 25 ≤ i) → ¬ k = 154 → ¬ (143 ≤ k ∧ k ≤ 145) → ¬ (k = 141) → ¬ (k = 142) → t k i = y k i := by
      intro k i h1 h2 h3 h4 h5 h6
      rw [F k i (by omega) (by omega) (by omega) (by omega) (by omega), Z k i h1, h23.1 k i h1, h21.1 k i h4, h14.1 k i h5 h6]
    have Fn : ∀ k i, ¬ k = 146 → ¬ k = 134 → ¬ k = 154 → t k i = v21 k i := by
      intro k i h1 h2 h3
      rw [F k i (by omega) (by omega) (by omega) (by omega) (by omega), Z k i h1, h23.1 k i h1]
    have V14 : ∀ k i, ¬ (k = 134 ∧ i = 0) → ¬ (k = 134 ∧ i = 5) → ¬ (k = 134 ∧ 15 ≤ i ∧ i ≤ 18) → ¬ k = 141 → ¬ k = 142 → v14 k i = r.2 k i := by
      intro k i h1 h2 h3 h4 h5
      rw [h14.1 k i h4 h5, Y k i h3, X k i h1 h2]
    refine ⟨r, hr, Or.inr ⟨c, ?_, ?_, ?_, ⟨?_, ?_, ?_, ?_⟩, fun i hi => ⟨?_, ?_⟩, fun i hi => ⟨?_, ?_, ?_⟩, ⟨?_, ?_, ?_, ?_, ?_⟩, ⟨?_, ?_, ?_⟩, fun i h1 h2 h3 h4 => ?_⟩⟩
    · show t 134 18 = _
      rw [F2 134 18 (by omega) (by omega) (by omega) (by omega) (by omega) (by omega), y18]
    · show t 134 0 = 0
      rw [F2 134 0 (by omega) (by omega) (by omega) (by omega) (by omega) (by omega), Y 134 0 (by omega), x0]
    · show t 134 5 = -1
      rw [F2 134 5 (by omega) (by omega) (by omega) (by omega) (by omega) (by omega), Y 134 5 (by omega), x5]
    · show t 134 15 = _
      rw [F2 134 15 (by omega) (by omega) (by omega) (by omega) (by omega) (by omega), y15]
    · show t 134 16 = _
      rw [F2 134 16 (by omega) (by omega) (by omega) (by omega) (by omega) (by omega), y16]
    · show t 134 17 = _
      rw [F2 134 17 (by omega) (by omega) (by omega) (by omega) (by omega) (by omega), y17]
    · show t 134 18 = _
      rw [F2 134 18 (by omega) (by omega) (by omega) (by omega) (by omega) (by omega), y18]
    · show t 141 i = _
      rw [Fn 141 i (by omega) (by omega) (by omega), h21.1 141 i (by omega), (h14.2 i hi).1, Y 136 i (by omega), X 136 i (by omega) (by omega)]
    · show t 142 i = _
      rw [Fn 142 i (by omega) (by omega) (by omega), h21.1 142 i (by omega), (h14.2 i hi).2, Y 137 i (by omega), X 137 i (by omega) (by omega)]
    · show t 143 i = _
      rw [Fn 143 i (by omega) (by omega) (by omega), (h21.2 i hi).1, V14 138 i (by omega) (by omega) (by omega) (by omega) (by omega)]
    · show t 144 i = _
      rw [Fn 144 i (by omega) (by omega) (by omega), (h21.2 i hi).2.1, V14 139 i (by omega) (by omega) (by omega) (by omega) (by omega)]
    · show t 145 i = _
      rw [Fn 145 i (by omega) (by omega) (by omega), (h21.2 i hi).2.2, V14 140 i (by omega) (by omega) (by omega) (by omega) (by omega)]
    · show t 134 25 = 0
      rw [et, wu_ne (by omega), wu_ne (by omega), wu_ne (by omega), wu_ne (by omega), wu_at]
    · show t 134 34 = 0
      rw [et, wu_ne (by omega), wu_ne (by omega), wu_ne (by omega), wu_at]
    · show t 134 37 = 0
      rw [et, wu_ne (by omega), wu_ne (by omega), wu_at]
    · show t 154 0 = 0
      rw [et, wu_ne (by omega), wu_at]
    · show t 154 1 = 0
      rw [et, wu_at]
    · show t 146 4 = -1
      rw [F 146 4 (by omega) (by omega) (by omega) (by omega) (by omega), ez, wu_ne (by omega), wu_at]
    · show t 146 6 = -1
      rw [F 146 6 (by omega) (by omega) (by omega) (by omega) (by omega), ez, wu_at]
    · show t 146 3 = _
      rw [et, wu_ne (by omega), wu_ne (by omega), wu_ne (by omega), wu_ne (by omega), wu_ne (by omega), wu_at, h26]
    · show t 146 i = 0
      rw [F 146 i (by omega) (by omega) (by omega) (by omega) (by omega), ez, wu_ne (by omega), wu_ne (by omega)]
      exact h23.2 i h1
