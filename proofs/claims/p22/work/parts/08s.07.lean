set_option maxRecDepth 20000 in
set_option maxHeartbeats 2000000 in
theorem sr_X10_bridge {g : Nat → Int} (w : Mem) (hI : Inv g w) : Sf (fun (q : Int32 × Mem) => ((Inv g q.2 ∧ (q.2 134 0).toInt = 0) ∨ (((q.2 134 0).toInt = 0) ∧ (0 ≤ (q.2 134 2).toInt) ∧ ((q.2 134 2).toInt ≤ 241) ∧ (0 ≤ (q.2 134 8).toInt) ∧ ((q.2 134 8).toInt ≤ 8) ∧ (0 ≤ (q.2 134 9).toInt) ∧ ((q.2 134 9).toInt ≤ 6) ∧ (((q.2 134 15).toInt = 0 ∧ (q.2 134 16).toInt = 0 ∧ (q.2 134 17).toInt = 0 ∧ (q.2 134 18).toInt = 0) ∨ (1 ≤ (q.2 134 15).toInt ∧ (q.2 134 15).toInt ≤ 60 ∧ 1 ≤ (q.2 134 16).toInt ∧ (q.2 134 16).toInt ≤ 9 ∧ 0 ≤ (q.2 134 17).toInt ∧ (q.2 134 17).toInt ≤ 8 ∧ 0 ≤ (q.2 134 18).toInt ∧ (q.2 134 18).toInt ≤ 6)) ∧ ((q.2 134 25).toInt = 0) ∧ ((q.2 134 34).toInt = 0) ∧ ((q.2 134 37).toInt = 0) ∧ ((q.2 146 4).toInt = -1) ∧ ((q.2 146 6).toInt = -1) ∧ ((q.2 154 0).toInt = 0) ∧ ((q.2 154 1).toInt = 0)))) (f_X10_bridge w) := by
  have l0 : (0 : Int32).toInt = 0 := by decide
  have l1 : (1 : Int32).toInt = 1 := by decide
  have l25 : (25 : Int32).toInt = 25 := by decide
  have lm : (-1 : Int32).toInt = -1 := by decide
  have c0 : (0 : Int32).toNatClampNeg = 0 := by decide
  have c1 : (1 : Int32).toNatClampNeg = 1 := by decide
  have c3 : (3 : Int32).toNatClampNeg = 3 := by decide
  have c4 : (4 : Int32).toNatClampNeg = 4 := by decide
  have c6 : (6 : Int32).toNatClampNeg = 6 := by decide
  have l3 : (3 : Int32).toInt = 3 := by decide
  have l4 : (4 : Int32).toInt = 4 := by decide
  have l6 : (6 : Int32).toInt = 6 := by decide
  unfold f_X10_bridge
  refine sf_bind (sf_X10_readsBridge w hI) (fun q1 hq1 hp => ?_)
  obtain ⟨hIq, hb01, hsound⟩ := hp
  refine sf_pw (fun w2 ew2 => ?_)
  refine sf_bind (Q := fun _ => True) (sf_ite (fun _ => sf_some trivial) (fun _ => sf_some trivial)) (fun v3 _ _ => ?_)
  refine sf_pw (fun w4 ew4 => ?_)
  refine sf_ite (fun c => ?_) (fun c => ?_)
  · have hI4 : Inv g w4 := by rw [ew4]; exact uq_134_5 (by rw [ew2]; exact up_134_0 hIq (by decide))
    have e0 : (w4 134 0).toInt = 0 := by rw [ew4, wu_ne (by omega), ew2, wu_at]; exact l0
    exact sf_some (Or.inl ⟨hI4, e0⟩)
  rw [i_eq_iff] at c
  refine sf_pw (fun w5 ew5 => ?_)
  refine sf_pw (fun w6 ew6 => ?_)
  refine sf_pw (fun w7 ew7 => ?_)
  refine sf_pw (fun w8 ew8 => ?_)
  refine sf_lt (fun t9 et9 => ?_)
  have hw8 : ∀ i, ¬ (i = 0 ∨ i = 5 ∨ i = 15 ∨ i = 16 ∨ i = 17 ∨ i = 18) → w8 134 i = q1.2 134 i := by
    intro i hi
    rw [ew8, wu_ne (by omega), ew7, wu_ne (by omega), ew6, wu_ne (by omega), ew5, wu_ne (by omega), ew4, wu_ne (by omega), ew2, wu_ne (by omega)]
  have r0 : w8 134 0 = 0 := by rw [ew8, wu_ne (by omega), ew7, wu_ne (by omega), ew6, wu_ne (by omega), ew5, wu_ne (by omega), ew4, wu_ne (by omega), ew2, wu_at]
  have r15 : w8 134 15 = q1.2 134 6 := by rw [ew8, wu_ne (by omega), ew7, wu_ne (by omega), ew6, wu_ne (by omega), ew5, wu_at, ew4, wu_ne (by omega), ew2, wu_ne (by omega)]
  have r16 : w8 134 16 = q1.2 134 7 := by rw [ew8, wu_ne (by omega), ew7, wu_ne (by omega), ew6, wu_at, ew5, wu_ne (by omega), ew4, wu_ne (by omega), ew2, wu_ne (by omega)]
  have r17 : w8 134 17 = q1.2 134 8 := by rw [ew8, wu_ne (by omega), ew7, wu_at, ew6, wu_ne (by omega), ew5, wu_ne (by omega), ew4, wu_ne (by omega), ew2, wu_ne (by omega)]
  have r18 : w8 134 18 = q1.2 134 9 := by rw [ew8, wu_at, ew7, wu_ne (by omega), ew6, wu_ne (by omega), ew5, wu_ne (by omega), ew4, wu_ne (by omega), ew2, wu_ne (by omega)]
  have b17 : 0 ≤ (w8 134 17).toInt ∧ (w8 134 17).toInt ≤ 8 := by rw [r17]; exact iv_134_8 hIq
  have b18 : 0 ≤ (w8 134 18).toInt ∧ (w8 134 18).toInt ≤ 6 := by rw [r18]; exact iv_134_9 hIq
  clear ew2 ew4 ew5 ew6 ew7 ew8
  refine sf_bind (Q := fun (v : Mem) => ∀ k i, ¬ (k = 141 ∨ k = 142) → v k i = w8 k i) ?_ (fun v14 _ h14 => ?_)
  · refine sf_lp (fun (s : Int32 × Mem) => 0 ≤ s.1.toInt ∧ s.1.toInt ≤ 8 ∧ ∀ k i, ¬ (k = 141 ∨ k = 142) → s.2 k i = w8 k i) (fun (s : Int32 × Mem) => (9 - s.1.toInt).toNat) (fun s hs => ?_) _ _ ⟨show 0 ≤ (0 : Int32).toInt by decide, show (0 : Int32).toInt ≤ 8 by decide, fun _ _ _ => rfl⟩ (by show (9 - (0 : Int32).toInt).toNat < 5000000000; decide)
    obtain ⟨h0, h1, h2⟩ := hs
    refine (?_ : Sf (lpP _ _ (9 - s.1.toInt).toNat _) _)
    refine sf_ite (fun c => ?_) (fun c => sf_some (show ∀ k i, ¬ (k = 141 ∨ k = 142) → s.2 k i = w8 k i from h2))
    rw [Int32.lt_iff_toInt_lt, h2 134 17 (by omega)] at c
    refine sf_rd (by omega) (by omega) (fun x10 _ => ?_)
    refine sf_wr (by omega) (by omega) (fun w11 e11 => ?_)
    refine sf_rd (by omega) (by omega) (fun x12 _ => ?_)
    refine sf_wr (by omega) (by omega) (fun w13 e13 => ?_)
    have e1 : (s.1 + (1 : Int32)).toInt = s.1.toInt + 1 := i_addk l1 (by omega) (by omega)
    exact sf_some (show (0 ≤ (s.1 + (1 : Int32)).toInt ∧ (s.1 + (1 : Int32)).toInt ≤ 8 ∧ ∀ k i, ¬ (k = 141 ∨ k = 142) → w13 k i = w8 k i) ∧ (9 - (s.1 + (1 : Int32)).toInt).toNat < (9 - s.1.toInt).toNat from ⟨⟨by omega, by omega, fun k i hk => by rw [e13, wu_ne (by omega), e11, wu_ne (by omega)]; exact h2 k i hk⟩, by omega⟩)
  refine sf_bind (Q := fun (v : Mem) => ∀ k i, ¬ (k = 143 ∨ k = 144 ∨ k = 145) → v k i = v14 k i) ?_ (fun v21 _ h21 => ?_)
  · refine sf_lp (fun (s : Int32 × Mem) => 0 ≤ s.1.toInt ∧ s.1.toInt ≤ 6 ∧ ∀ k i, ¬ (k = 143 ∨ k = 144 ∨ k = 145) → s.2 k i = v14 k i) (fun (s : Int32 × Mem) => (7 - s.1.toInt).toNat) (fun s hs => ?_) _ _ ⟨show 0 ≤ (0 : Int32).toInt by decide, show (0 : Int32).toInt ≤ 6 by decide, fun _ _ _ => rfl⟩ (by show (7 - (0 : Int32).toInt).toNat < 5000000000; decide)
    obtain ⟨h0, h1, h2⟩ := hs
    refine (?_ : Sf (lpP _ _ (7 - s.1.toInt).toNat _) _)
    refine sf_ite (fun c => ?_) (fun c => sf_some (show ∀ k i, ¬ (k = 143 ∨ k = 144 ∨ k = 145) → s.2 k i = v14 k i from h2))
    rw [Int32.lt_iff_toInt_lt, h2 134 18 (by omega), h14 134 18 (by omega)] at c
    refine sf_rd (by omega) (by omega) (fun x15 _ => ?_)
    refine sf_wr (by omega) (by omega) (fun w16 e16 => ?_)
    refine sf_rd (by omega) (by omega) (fun x17 _ => ?_)
    refine sf_wr (by omega) (by omega) (fun w18 e18 => ?_)
    refine sf_rd (by omega) (by omega) (fun x19 _ => ?_)
    refine sf_wr (by omega) (by omega) (fun w20 e20 => ?_)
    have e1 : (s.1 + (1 : Int32)).toInt = s.1.toInt + 1 := i_addk l1 (by omega) (by omega)
    exact sf_some (show (0 ≤ (s.1 + (1 : Int32)).toInt ∧ (s.1 + (1 : Int32)).toInt ≤ 6 ∧ ∀ k i, ¬ (k = 143 ∨ k = 144 ∨ k = 145) → w20 k i = v14 k i) ∧ (7 - (s.1 + (1 : Int32)).toInt).toNat < (7 - s.1.toInt).toNat from ⟨⟨by omega, by omega, fun k i hk => by rw [e20, wu_ne (by omega), e18, wu_ne (by omega), e16, wu_ne (by omega)]; exact h2 k i hk⟩, by omega⟩)
  refine sf_bind (Q := fun (v : Mem) => ∀ k i, ¬ k = 146 → v k i = v21 k i) ?_ (fun v23 _ h23 => ?_)
  · refine sf_lp (fun (s : Int32 × Mem) => 0 ≤ s.1.toInt ∧ s.1.toInt ≤ 25 ∧ ∀ k i, ¬ k = 146 → s.2 k i = v21 k i) (fun (s : Int32 × Mem) => (26 - s.1.toInt).toNat) (fun s hs => ?_) _ _ ⟨show 0 ≤ (0 : Int32).toInt by decide, show (0 : Int32).toInt ≤ 25 by decide, fun _ _ _ => rfl⟩ (by show (26 - (0 : Int32).toInt).toNat < 5000000000; decide)
    obtain ⟨h0, h1, h2⟩ := hs
    refine (?_ : Sf (lpP _ _ (26 - s.1.toInt).toNat _) _)
    refine sf_ite (fun c => ?_) (fun c => sf_some (show ∀ k i, ¬ k = 146 → s.2 k i = v21 k i from h2))
    rw [Int32.lt_iff_toInt_lt] at c
    refine sf_wr (by omega) (by omega) (fun w22 e22 => ?_)
    have e1 : (s.1 + (1 : Int32)).toInt = s.1.toInt + 1 := i_addk l1 (by omega) (by omega)
    exact sf_some (show (0 ≤ (s.1 + (1 : Int32)).toInt ∧ (s.1 + (1 : Int32)).toInt ≤ 25 ∧ ∀ k i, ¬ k = 146 → w22 k i = v21 k i) ∧ (26 - (s.1 + (1 : Int32)).toInt).toNat < (26 - s.1.toInt).toNat from ⟨⟨by omega, by omega, fun k i hk => by rw [e22, wu_ne (by omega)]; exact h2 k i hk⟩, by omega⟩)
  refine sf_wr (by omega) (by omega) (fun w24 e24 => ?_)
  refine sf_wr (by omega) (by omega) (fun w25 e25 => ?_)
  refine sf_bind (Q := fun _ => True) (sf_ite (fun _ => sf_some trivial) (fun _ => sf_some trivial)) (fun v26 _ _ => ?_)
  refine sf_wr (by omega) (by omega) (fun w27 e27 => ?_)
  refine sf_pw (fun w28 e28 => ?_)
  refine sf_pw (fun w29 e29 => ?_)
  refine sf_pw (fun w30 e30 => ?_)
  refine sf_wr (by omega) (by omega) (fun w31 e31 => ?_)
  refine sf_wr (by omega) (by omega) (fun w32 e32 => ?_)
  rw [c4] at e24
  rw [c6] at e25
  rw [c3] at e27
  rw [c0] at e31
  rw [c1] at e32
  have hrow : ∀ i, ¬ (i = 25 ∨ i = 34 ∨ i = 37) → w32 134 i = w8 134 i := by
    intro i hi
    rw [e32, wu_ne (by omega), e31, wu_ne (by omega), e30, wu_ne (by omega), e29, wu_ne (by omega), e28, wu_ne (by omega), e27, wu_ne (by omega), e25, wu_ne (by omega), e24, wu_ne (by omega), h23 134 i (by omega), h21 134 i (by omega), h14 134 i (by omega)]
  have r25 : w32 134 25 = 0 := by rw [e32, wu_ne (by omega), e31, wu_ne (by omega), e30, wu_ne (by omega), e29, wu_ne (by omega), e28, wu_at]
  have r34 : w32 134 34 = 0 := by rw [e32, wu_ne (by omega), e31, wu_ne (by omega), e30, wu_ne (by omega), e29, wu_at]
  have r37 : w32 134 37 = 0 := by rw [e32, wu_ne (by omega), e31, wu_ne (by omega), e30, wu_at]
  have n4 : w32 146 4 = -1 := by rw [e32, wu_ne (by omega), e31, wu_ne (by omega), e30, wu_ne (by omega), e29, wu_ne (by omega), e28, wu_ne (by omega), e27, wu_ne (by omega), e25, wu_ne (by omega), e24, wu_at]
  have n6 : w32 146 6 = -1 := by rw [e32, wu_ne (by omega), e31, wu_ne (by omega), e30, wu_ne (by omega), e29, wu_ne (by omega), e28, wu_ne (by omega), e27, wu_ne (by omega), e25, wu_at]
  have k0 : w32 154 0 = 0 := by rw [e32, wu_ne (by omega), e31, wu_at]
  have k1 : w32 154 1 = 0 := by rw [e32, wu_at]
  have a2 := iv_134_2 hIq
  have a8 := iv_134_8 hIq
  have a9 := iv_134_9 hIq
  rw [← hw8 2 (by omega), ← hrow 2 (by omega)] at a2
  rw [← hw8 8 (by omega), ← hrow 8 (by omega)] at a8
  rw [← hw8 9 (by omega), ← hrow 9 (by omega)] at a9
  have s15 := (hrow 15 (by omega)).trans r15
  have s16 := (hrow 16 (by omega)).trans r16
  have s17 := (hrow 17 (by omega)).trans r17
  have s18 := (hrow 18 (by omega)).trans r18
  have t8 := iv_134_8 hIq
  have t9' := iv_134_9 hIq
  have hs2 : ((w32 134 15).toInt = 0 ∧ (w32 134 16).toInt = 0 ∧ (w32 134 17).toInt = 0 ∧ (w32 134 18).toInt = 0) ∨ (1 ≤ (w32 134 15).toInt ∧ (w32 134 15).toInt ≤ 60 ∧ 1 ≤ (w32 134 16).toInt ∧ (w32 134 16).toInt ≤ 9 ∧ 0 ≤ (w32 134 17).toInt ∧ (w32 134 17).toInt ≤ 8 ∧ 0 ≤ (w32 134 18).toInt ∧ (w32 134 18).toInt ≤ 6) := by
    rw [s15, s16, s17, s18]
    rcases hsound with h | h | h
    · omega
    · exact Or.inl h
    · exact Or.inr (by omega)
  exact sf_some (Or.inr ⟨by show (w32 134 0).toInt = 0; rw [hrow 0 (by omega), r0]; exact l0, a2.1, a2.2, a8.1, a8.2, a9.1, a9.2, hs2, by show (w32 134 25).toInt = 0; rw [r25]; exact l0, by show (w32 134 34).toInt = 0; rw [r34]; exact l0, by show (w32 134 37).toInt = 0; rw [r37]; exact l0, by show (w32 146 4).toInt = -1; rw [n4]; exact lm, by show (w32 146 6).toInt = -1; rw [n6]; exact lm, by show (w32 154 0).toInt = 0; rw [k0]; exact l0, by show (w32 154 1).toInt = 0; rw [k1]; exact l0⟩)
theorem sf_X10_bridge {g : Nat → Int} (w : Mem) (hI : Inv g w) : Sf (fun (q : Int32 × Mem) => (∃ g2 : Nat → Int, Inv g2 q.2) ∧ (q.2 134 0).toInt = 0) (f_X10_bridge w) := by
  refine sf_mono (sr_X10_bridge w hI) (fun q hq h => ?_)
  rcases h with ⟨h1, h2⟩ | ⟨a0, a2, a2', a8, a8', a9, a9', ab, a25, a34, a37, n4, n6, k0, k1⟩
  · exact ⟨⟨g, h1⟩, h2⟩
  have hfr := fr_X10_bridge w q hq
  refine ⟨⟨fun j => if j = 0 then (if (q.2 134 16).toInt = 0 then 0 else 1) else 0, ?_, ?_⟩, a0⟩
  · show 0 ≤ (if (q.2 134 16).toInt = 0 then (0 : Int) else 1) ∧ (if (q.2 134 16).toInt = 0 then (0 : Int) else 1) ≤ 1
    by_cases e : (q.2 134 16).toInt = 0
    · rw [if_pos e]; decide
    · rw [if_neg e]; decide
  · obtain ⟨b, hb⟩ : ∃ b : Int, b = (if (q.2 134 16).toInt = 0 then (0 : Int) else 1) := ⟨_, rfl⟩
    have hbb : (b = 0 ∧ (q.2 134 15).toInt = 0 ∧ (q.2 134 16).toInt = 0 ∧ (q.2 134 17).toInt = 0 ∧ (q.2 134 18).toInt = 0) ∨ (b = 1 ∧ 1 ≤ (q.2 134 15).toInt ∧ (q.2 134 15).toInt ≤ 60 ∧ 1 ≤ (q.2 134 16).toInt ∧ (q.2 134 16).toInt ≤ 9 ∧ 0 ≤ (q.2 134 17).toInt ∧ (q.2 134 17).toInt ≤ 8 ∧ 0 ≤ (q.2 134 18).toInt ∧ (q.2 134 18).toInt ≤ 6) := by
      rcases ab with ab | ab
      · left; rw [hb, if_pos ab.2.1]; exact ⟨rfl, ab⟩
      · right; rw [hb, if_neg (by omega)]; exact ⟨rfl, ab⟩
    rw [← hb]
    intro k i
    by_cases e134 : k = 134
    · subst e134
      have f26 : q.2 134 26 = w 134 26 := hfr 134 26 (by omega)
      have f28 : q.2 134 28 = w 134 28 := hfr 134 28 (by omega)
      have g26 := iv_134_26 hI
      have g28 := iv_134_28 hI
      rw [← f26] at g26
      rw [← f28] at g28
      refine rg_134 ?_ ?_ ?_ ?_ ?_ ?_ ?_ ?_ ?_ ?_ ?_ ?_ ?_
      all_goals (intro e; subst e; first | omega | exact g26 | exact g28 | (show b ≤ _ ∧ _ ≤ _ * b; omega) | (show _ ≤ _ ∧ _ ≤ _ * b; omega))
    by_cases e146 : k = 146
    · subst e146
      show ((i : Int) = 4 → -1 ≤ _ ∧ _ ≤ 6 * b - 1) ∧ ((i : Int) = 6 → -1 ≤ _ ∧ _ ≤ 7)
      refine ⟨fun e => ?_, fun e => ?_⟩
      · have e' : i = 4 := by omega
        subst e'; omega
      · have e' : i = 6 := by omega
        subst e'; omega
    by_cases e154 : k = 154
    · subst e154
      show ((i : Int) = 0 → _ = (0 : Int)) ∧ ((i : Int) = 1 → _ = (0 : Int)) ∧ ((i : Int) < 2 → _)
      refine ⟨fun e => ?_, fun e => ?_, fun e => ?_⟩
      · have e' : i = 0 := by omega
        subst e'; omega
      · have e' : i = 1 := by omega
        subst e'; omega
      · have e' : i = 0 ∨ i = 1 := by omega
        rcases e' with rfl | rfl <;> omega
    by_cases e155 : k = 155
    · subst e155
      have h5 := ia_155 (j := i) hI
      rw [hfr 155 i (by omega)]
      show ((i : Int) % 25 = 4 → _) ∧ ((i : Int) % 25 = 6 → _) ∧ ((i : Int) = 4 → _ ≤ 6 * b + 5 - 6 * (0 : Int)) ∧ ((i : Int) = 29 → _ ≤ 6 * b + 5 - 6 * (0 : Int))
      refine ⟨h5.1, h5.2.1, fun e => ?_, fun e => ?_⟩
      · have := h5.1 (by omega); omega
      · have := h5.1 (by omega); omega
    by_cases hU : 136 ≤ k ∧ k ≤ 145
    · have : k = 136 ∨ k = 137 ∨ k = 138 ∨ k = 139 ∨ k = 140 ∨ k = 141 ∨ k = 142 ∨ k = 143 ∨ k = 144 ∨ k = 145 := by omega
      rcases this with rfl | rfl | rfl | rfl | rfl | rfl | rfl | rfl | rfl | rfl <;> exact trivial
    · rw [hfr k i (by omega)]
      exact rg_nog e134 e146 e154 e155 (hI.2 k i)
set_option maxRecDepth 20000 in
set_option maxHeartbeats 2000000 in
theorem sf_X10_fault {g : Nat → Int} (w : Mem) (hI : Inv g w) : Sf (fun (q : Int32) => (True)) (f_X10_fault w) := by
  obtain ⟨hg0, hg1⟩ := hI.1
  unfold f_X10_fault
  have zz1_l : -2147483648 ≤ (w 134 5).toInt := Int32.le_toInt (w 134 5)
  have zz1_h : (w 134 5).toInt ≤ 2147483647 := Int32.toInt_le (w 134 5)
  exact sf_some (show (True) from trivial)
set_option maxRecDepth 20000 in
set_option maxHeartbeats 2000000 in
theorem sf_X10_are {g : Nat → Int} (a1 : Int32) (w : Mem) (hI : Inv g w) : Sf (fun (q : Int32) => (0 ≤ q.toInt) ∧ (q.toInt ≤ 63) ∧ (q.toInt = 0 ∨ 1 ≤ (w 134 18).toInt)) (f_X10_are a1 w) := by
  obtain ⟨hg0, hg1⟩ := hI.1
  unfold f_X10_are
  refine sf_bind (Q := fun (v3 : Int32) => (0 ≤ v3.toInt) ∧ (v3.toInt ≤ 63) ∧ (v3.toInt = 0 ∨ 1 ≤ (w 134 18).toInt)) ?_ (fun v3 hqv3 hvv3 => ?_)
  · have l_0 : (0 : Int32).toInt = 0 := by decide
    have h1_ : 0 ≤ (w 134 18).toInt ∧ (w 134 18).toInt ≤ 6 * g 0 := iv_134_18 hI
    refine sf_lp (fun (s4 : (Int32 × Int32)) => (0 ≤ s4.1.toInt) ∧ (s4.1.toInt ≤ 63) ∧ (0 ≤ s4.2.toInt) ∧ (s4.2.toInt ≤ 6) ∧ (s4.1.toInt = 0 ∨ (1 ≤ s4.2.toInt ∧ s4.2.toInt ≤ (w 134 18).toInt))) (fun (s4 : (Int32 × Int32)) => (7 - s4.2.toInt).toNat) (fun s4 hss4 => ?_) _ _ (show (0 ≤ (0 : Int32).toInt) ∧ ((0 : Int32).toInt ≤ 63) ∧ (0 ≤ (0 : Int32).toInt) ∧ ((0 : Int32).toInt ≤ 6) ∧ ((0 : Int32).toInt = 0 ∨ (1 ≤ (0 : Int32).toInt ∧ (0 : Int32).toInt ≤ (w 134 18).toInt)) from ⟨by omega, by omega, by omega, by omega, by omega⟩) (show (7 - (0 : Int32).toInt).toNat < 5000000000 from by omega)
    obtain ⟨hss4_0, hss4_1, hss4_2, hss4_3, hss4_4⟩ := hss4
    refine (?_ : Sf (lpP _ _ (7 - s4.2.toInt).toNat _) _)
    refine sf_ite (fun c2_ => ?_) (fun c2_ => ?_)
    · have rc2_ : s4.2.toInt < (w 134 18).toInt := by rw [Int32.lt_iff_toInt_lt] at c2_; omega
      have l_7 : (7 : Int32).toInt = 7 := by decide
      have e3_ : ((7 : Int32) + s4.2).toInt = (7 : Int32).toInt + s4.2.toInt := i_add (by omega) (by omega)
      refine sf_rd (by omega) (by omega) (fun x1 ex1 => ?_)
      refine sf_bind (Q := fun (v2 : Int32) => (0 ≤ v2.toInt) ∧ (v2.toInt ≤ 32)) ?_ (fun v2 hqv2 hvv2 => ?_)
      · have zz4_l : -2147483648 ≤ x1.toInt := Int32.le_toInt x1
        have zz4_h : x1.toInt ≤ 2147483647 := Int32.toInt_le x1
        have zz5_l : -2147483648 ≤ a1.toInt := Int32.le_toInt a1
        have zz5_h : a1.toInt ≤ 2147483647 := Int32.toInt_le a1
        refine sf_ite (fun c6_ => ?_) (fun c6_ => ?_)
        · have rc6_ : x1.toInt = a1.toInt := by rw [i_eq_iff] at c6_; omega
          have l_1 : (1 : Int32).toInt = 1 := by decide
          have e7_ : 1 ≤ ((1 : Int32) <<< (s4.2 &&& 31)).toInt ∧ ((1 : Int32) <<< (s4.2 &&& 31)).toInt ≤ 32 := i_shl1 (k := 5) (by decide) (by omega) (show _ ≤ 5 from by omega)
          exact sf_some (show (0 ≤ ((1 : Int32) <<< (s4.2 &&& 31)).toInt) ∧ (((1 : Int32) <<< (s4.2 &&& 31)).toInt ≤ 32) from ⟨by omega, by omega⟩)
        · have rc6_ : ¬ x1.toInt = a1.toInt := by rw [i_eq_iff] at c6_; omega
          exact sf_some (show (0 ≤ (0 : Int32).toInt) ∧ ((0 : Int32).toInt ≤ 32) from ⟨by omega, by omega⟩)
      · obtain ⟨hvv2_0, hvv2_1⟩ := hvv2
        have e8_ : 0 ≤ (s4.1 ||| v2).toInt ∧ (s4.1 ||| v2).toInt < 64 := i_or (k := 6) (by decide) (by omega) (show _ < 64 from by omega) (by omega) (show _ < 64 from by omega)
        have l_1 : (1 : Int32).toInt = 1 := by decide
        have e9_ : (s4.2 + (1 : Int32)).toInt = s4.2.toInt + (1 : Int32).toInt := i_add (by omega) (by omega)
        exact sf_some (show ((0 ≤ (s4.1 ||| v2).toInt) ∧ ((s4.1 ||| v2).toInt ≤ 63) ∧ (0 ≤ (s4.2 + (1 : Int32)).toInt) ∧ ((s4.2 + (1 : Int32)).toInt ≤ 6) ∧ ((s4.1 ||| v2).toInt = 0 ∨ (1 ≤ (s4.2 + (1 : Int32)).toInt ∧ (s4.2 + (1 : Int32)).toInt ≤ (w 134 18).toInt))) ∧ (7 - (s4.2 + (1 : Int32)).toInt).toNat < (7 - s4.2.toInt).toNat from ⟨⟨by omega, by omega, by omega, by omega, by omega⟩, by omega⟩)
    · have rc2_ : ¬ s4.2.toInt < (w 134 18).toInt := by rw [Int32.lt_iff_toInt_lt] at c2_; omega
      exact sf_some (show (0 ≤ s4.1.toInt) ∧ (s4.1.toInt ≤ 63) ∧ (s4.1.toInt = 0 ∨ 1 ≤ (w 134 18).toInt) from ⟨by omega, by omega, by omega⟩)
  · obtain ⟨hvv3_0, hvv3_1, hvv3_2⟩ := hvv3
    have h10_ : 0 ≤ (w 134 18).toInt ∧ (w 134 18).toInt ≤ 6 * g 0 := iv_134_18 hI
    exact sf_some (show (0 ≤ v3.toInt) ∧ (v3.toInt ≤ 63) ∧ (v3.toInt = 0 ∨ 1 ≤ (w 134 18).toInt) from ⟨by omega, by omega, by omega⟩)
set_option maxRecDepth 20000 in
set_option maxHeartbeats 2000000 in
theorem sf_X10_nobodys {g : Nat → Int} (w : Mem) (hI : Inv g w) : Sf (fun (q : Int32) => (True)) (f_X10_nobodys w) := by
  obtain ⟨hg0, hg1⟩ := hI.1
  unfold f_X10_nobodys
  refine sf_lt (fun t1 et1 => ?_)
  have ft1 : (0 ≤ t1.toInt) ∧ (t1.toInt ≤ 255) := by
    have l_1 : (1 : Int32).toInt = 1 := by decide
    have h1_ : 0 ≤ (w 134 17).toInt ∧ (w 134 17).toInt ≤ 8 * g 0 := iv_134_17 hI
    have e2_ : 1 ≤ ((1 : Int32) <<< ((w 134 17) &&& 31)).toInt ∧ ((1 : Int32) <<< ((w 134 17) &&& 31)).toInt ≤ 256 := i_shl1 (k := 8) (by decide) (by omega) (show _ ≤ 8 from by omega)
    have e3_ : (((1 : Int32) <<< ((w 134 17) &&& 31)) - (1 : Int32)).toInt = ((1 : Int32) <<< ((w 134 17) &&& 31)).toInt - (1 : Int32).toInt := i_sub (by omega) (by omega)
    have f9 : t1.toInt = (((1 : Int32) <<< ((w 134 17) &&& 31)) - (1 : Int32)).toInt := by rw [et1]
    exact ⟨by omega, by omega⟩
  refine sf_bind (Q := fun (v4 : Int32) => (0 ≤ v4.toInt) ∧ (v4.toInt ≤ 255)) ?_ (fun v4 hqv4 hvv4 => ?_)
  · have l_0 : (0 : Int32).toInt = 0 := by decide
    refine sf_lp (fun (s11 : (Int32 × Int32)) => (0 ≤ s11.1.toInt) ∧ (s11.1.toInt ≤ 255) ∧ (0 ≤ s11.2.toInt) ∧ (s11.2.toInt ≤ 6)) (fun (s11 : (Int32 × Int32)) => (7 - s11.2.toInt).toNat) (fun s11 hss11 => ?_) _ _ (show (0 ≤ t1.toInt) ∧ (t1.toInt ≤ 255) ∧ (0 ≤ (0 : Int32).toInt) ∧ ((0 : Int32).toInt ≤ 6) from ⟨by omega, by omega, by omega, by omega⟩) (show (7 - (0 : Int32).toInt).toNat < 5000000000 from by omega)
    obtain ⟨hss11_0, hss11_1, hss11_2, hss11_3⟩ := hss11
    refine (?_ : Sf (lpP _ _ (7 - s11.2.toInt).toNat _) _)
    have h4_ : 0 ≤ (w 134 18).toInt ∧ (w 134 18).toInt ≤ 6 * g 0 := iv_134_18 hI
    refine sf_ite (fun c5_ => ?_) (fun c5_ => ?_)
    · have rc5_ : s11.2.toInt < (w 134 18).toInt := by rw [Int32.lt_iff_toInt_lt] at c5_; omega
      refine sf_rd (by omega) (by omega) (fun x2 ex2 => ?_)
      refine sf_lt (fun t3 et3 => ?_)
      have ft3 : (0 ≤ t3.toInt) ∧ (t3.toInt ≤ 255) := by
        have e6_ : 0 ≤ (s11.1 &&& (x2 ^^^ (-1 : Int32))).toInt ∧ (s11.1 &&& (x2 ^^^ (-1 : Int32))).toInt ≤ s11.1.toInt := i_and_l (by omega)
        have f9 : t3.toInt = (s11.1 &&& (x2 ^^^ (-1 : Int32))).toInt := by rw [et3]
        exact ⟨by omega, by omega⟩
      have l_1 : (1 : Int32).toInt = 1 := by decide
      have e7_ : (s11.2 + (1 : Int32)).toInt = s11.2.toInt + (1 : Int32).toInt := i_add (by omega) (by omega)
      exact sf_some (show ((0 ≤ t3.toInt) ∧ (t3.toInt ≤ 255) ∧ (0 ≤ (s11.2 + (1 : Int32)).toInt) ∧ ((s11.2 + (1 : Int32)).toInt ≤ 6)) ∧ (7 - (s11.2 + (1 : Int32)).toInt).toNat < (7 - s11.2.toInt).toNat from ⟨⟨by omega, by omega, by omega, by omega⟩, by omega⟩)
    · have rc5_ : ¬ s11.2.toInt < (w 134 18).toInt := by rw [Int32.lt_iff_toInt_lt] at c5_; omega
      exact sf_some (show (0 ≤ s11.1.toInt) ∧ (s11.1.toInt ≤ 255) from ⟨by omega, by omega⟩)
  · obtain ⟨hvv4_0, hvv4_1⟩ := hvv4
    exact sf_some (show (True) from trivial)
set_option maxRecDepth 20000 in
set_option maxHeartbeats 2000000 in
theorem sf_X10_longestSat {g : Nat → Int} (w : Mem) (hI : Inv g w) : Sf (fun (q : Int32) => (True)) (f_X10_longestSat w) := by
  obtain ⟨hg0, hg1⟩ := hI.1
  unfold f_X10_longestSat
  refine sf_bind (Q := fun (v6 : Int32) => (-1 ≤ v6.toInt) ∧ (v6.toInt ≤ 5)) ?_ (fun v6 hqv6 hvv6 => ?_)
  · have l_m1 : (-1 : Int32).toInt = -1 := by decide
    have l_0 : (0 : Int32).toInt = 0 := by decide
    refine sf_lp (fun (s6 : (Int32 × Int32 × Int32)) => (-1 ≤ s6.1.toInt) ∧ (s6.1.toInt ≤ 5) ∧ (0 ≤ s6.2.2.toInt) ∧ (s6.2.2.toInt ≤ 6)) (fun (s6 : (Int32 × Int32 × Int32)) => (7 - s6.2.2.toInt).toNat) (fun s6 hss6 => ?_) _ _ (show (-1 ≤ (-1 : Int32).toInt) ∧ ((-1 : Int32).toInt ≤ 5) ∧ (0 ≤ (0 : Int32).toInt) ∧ ((0 : Int32).toInt ≤ 6) from ⟨by omega, by omega, by omega, by omega⟩) (show (7 - (0 : Int32).toInt).toNat < 5000000000 from by omega)
    obtain ⟨hss6_0, hss6_1, hss6_2, hss6_3⟩ := hss6
    refine (?_ : Sf (lpP _ _ (7 - s6.2.2.toInt).toNat _) _)
    have h1_ : 0 ≤ (w 134 18).toInt ∧ (w 134 18).toInt ≤ 6 * g 0 := iv_134_18 hI
    refine sf_ite (fun c2_ => ?_) (fun c2_ => ?_)
    · have rc2_ : s6.2.2.toInt < (w 134 18).toInt := by rw [Int32.lt_iff_toInt_lt] at c2_; omega
      have l_13 : (13 : Int32).toInt = 13 := by decide
      have e3_ : ((13 : Int32) + s6.2.2).toInt = (13 : Int32).toInt + s6.2.2.toInt := i_add (by omega) (by omega)
      refine sf_rd (by omega) (by omega) (fun x1 ex1 => ?_)
      refine sf_bind (Q := fun (v2 : Int32) => (-1 ≤ v2.toInt) ∧ (v2.toInt ≤ 5)) ?_ (fun v2 hqv2 hvv2 => ?_)
      · have zz4_l : -2147483648 ≤ s6.2.1.toInt := Int32.le_toInt s6.2.1
        have zz4_h : s6.2.1.toInt ≤ 2147483647 := Int32.toInt_le s6.2.1
        have zz5_l : -2147483648 ≤ x1.toInt := Int32.le_toInt x1
        have zz5_h : x1.toInt ≤ 2147483647 := Int32.toInt_le x1
        refine sf_ite (fun c6_ => ?_) (fun c6_ => ?_)
        · have rc6_ : s6.2.1.toInt < x1.toInt := by rw [Int32.lt_iff_toInt_lt] at c6_; omega
          exact sf_some (show (-1 ≤ s6.2.2.toInt) ∧ (s6.2.2.toInt ≤ 5) from ⟨by omega, by omega⟩)
        · have rc6_ : ¬ s6.2.1.toInt < x1.toInt := by rw [Int32.lt_iff_toInt_lt] at c6_; omega
          exact sf_some (show (-1 ≤ s6.1.toInt) ∧ (s6.1.toInt ≤ 5) from ⟨by omega, by omega⟩)
      · obtain ⟨hvv2_0, hvv2_1⟩ := hvv2
        refine sf_rd (by omega) (by omega) (fun x3 ex3 => ?_)
        refine sf_bind (Q := fun (v4 : Int32) => (True)) ?_ (fun v4 hqv4 hvv4 => ?_)
        · have zz7_l : -2147483648 ≤ s6.2.1.toInt := Int32.le_toInt s6.2.1
          have zz7_h : s6.2.1.toInt ≤ 2147483647 := Int32.toInt_le s6.2.1
          have zz8_l : -2147483648 ≤ x3.toInt := Int32.le_toInt x3
          have zz8_h : x3.toInt ≤ 2147483647 := Int32.toInt_le x3
          refine sf_ite (fun c9_ => ?_) (fun c9_ => ?_)
          · have rc9_ : s6.2.1.toInt < x3.toInt := by rw [Int32.lt_iff_toInt_lt] at c9_; omega
            refine sf_rd (by omega) (by omega) (fun x5 ex5 => ?_)
            have zz10_l : -2147483648 ≤ x5.toInt := Int32.le_toInt x5
            have zz10_h : x5.toInt ≤ 2147483647 := Int32.toInt_le x5
            exact sf_some (show (True) from trivial)
          · have rc9_ : ¬ s6.2.1.toInt < x3.toInt := by rw [Int32.lt_iff_toInt_lt] at c9_; omega
            exact sf_some (show (True) from trivial)
        · have hvv4_0 := hvv4
          have zz11_l : -2147483648 ≤ v4.toInt := Int32.le_toInt v4
          have zz11_h : v4.toInt ≤ 2147483647 := Int32.toInt_le v4
          have l_1 : (1 : Int32).toInt = 1 := by decide
          have e12_ : (s6.2.2 + (1 : Int32)).toInt = s6.2.2.toInt + (1 : Int32).toInt := i_add (by omega) (by omega)
          exact sf_some (show ((-1 ≤ v2.toInt) ∧ (v2.toInt ≤ 5) ∧ (0 ≤ (s6.2.2 + (1 : Int32)).toInt) ∧ ((s6.2.2 + (1 : Int32)).toInt ≤ 6)) ∧ (7 - (s6.2.2 + (1 : Int32)).toInt).toNat < (7 - s6.2.2.toInt).toNat from ⟨⟨by omega, by omega, by omega, by omega⟩, by omega⟩)
    · have rc2_ : ¬ s6.2.2.toInt < (w 134 18).toInt := by rw [Int32.lt_iff_toInt_lt] at c2_; omega
      exact sf_some (show (-1 ≤ s6.1.toInt) ∧ (s6.1.toInt ≤ 5) from ⟨by omega, by omega⟩)
  · obtain ⟨hvv6_0, hvv6_1⟩ := hvv6
    exact sf_some (show (True) from trivial)
set_option maxRecDepth 20000 in
set_option maxHeartbeats 2000000 in
theorem sf_X10_has (a0 : Int32) (a1 : Int32) : Sf (fun (q : Int32) => (0 ≤ q.toInt ∧ q.toInt ≤ 1) ∧ (q.toInt = 0 ∨ ¬ (0 ≤ a0.toInt ∧ a0.toInt ≤ 63 ∧ 0 ≤ a1.toInt ∧ a1.toInt ≤ 8) ∨ a1.toInt ≤ 5)) (f_X10_has a0 a1) := by
  unfold f_X10_has
  refine sf_ite (fun c => sf_some ⟨by decide, ?_⟩) (fun c => sf_some ⟨by decide, Or.inl (by decide)⟩)
  by_cases h : (0 ≤ a0.toInt ∧ a0.toInt ≤ 63 ∧ 0 ≤ a1.toInt ∧ a1.toInt ≤ 8)
  · obtain ⟨h1, h2, h3, h4⟩ := h
    obtain ⟨k, hk, e, e2⟩ := i_nat h1
    obtain ⟨j, hj, e3, e4⟩ := i_nat h3
    rcases has_tab ⟨k, by omega⟩ ⟨j, by omega⟩ with h5 | h5
    · exact absurd c (by rw [e, e3]; exact h5)
    · refine Or.inr (Or.inr ?_)
      have h6 : j ≤ 5 := h5
      omega
  · exact Or.inr (Or.inl h)
set_option maxRecDepth 20000 in
set_option maxHeartbeats 2000000 in
theorem sf_X10_layTalks {g : Nat → Int} (a1 : Int32) (w : Mem) (hI : Inv g w) : Sf (fun (q : Mem) => (Inv g q)) (f_X10_layTalks a1 w) := by
  obtain ⟨hg0, hg1⟩ := hI.1
  unfold f_X10_layTalks
  refine sf_bind (Q := fun (v2 : Mem) => (Inv g v2) ∧ ((v2 134 17).toInt = (w 134 17).toInt)) ?_ (fun v2 hqv2 hvv2 => ?_)
  · have l_0 : (0 : Int32).toInt = 0 := by decide
    have h1_ : 0 ≤ (w 134 17).toInt ∧ (w 134 17).toInt ≤ 8 * g 0 := iv_134_17 hI
    refine sf_lp (fun (s2 : (Int32 × Mem)) => (Inv g s2.2) ∧ (0 ≤ s2.1.toInt) ∧ (s2.1.toInt ≤ 2048) ∧ ((s2.2 134 17).toInt = (w 134 17).toInt)) (fun (s2 : (Int32 × Mem)) => (2049 - s2.1.toInt).toNat) (fun s2 hss2 => ?_) _ _ (show (Inv g w) ∧ (0 ≤ (0 : Int32).toInt) ∧ ((0 : Int32).toInt ≤ 2048) ∧ ((w 134 17).toInt = (w 134 17).toInt) from ⟨hI, by omega, by omega, rfl⟩) (show (2049 - (0 : Int32).toInt).toNat < 5000000000 from by omega)
    obtain ⟨hIs2, hss2_1, hss2_2, hss2_3⟩ := hss2
    refine (?_ : Sf (lpP _ _ (2049 - s2.1.toInt).toNat _) _)
    have h2_ : 0 ≤ (s2.2 134 17).toInt ∧ (s2.2 134 17).toInt ≤ 8 * g 0 := iv_134_17 hIs2
    have l_2048 : (2048 : Int32).toInt = 2048 := by decide
    refine sf_ite (fun c3_ => ?_) (fun c3_ => ?_)
    · have rc3_ : s2.1.toInt < 2048 := by rw [Int32.lt_iff_toInt_lt] at c3_; omega
      refine sf_wr (by omega) (by omega) (fun w1 ew1 => ?_)
      have n4_ : (s2.1.toNatClampNeg : Int) = s2.1.toInt := i_clq (by omega)
      have hIw1 : Inv g w1 := by rw [ew1]; exact ub_148 hIs2
      have l_1 : (1 : Int32).toInt = 1 := by decide
      have e5_ : (s2.1 + (1 : Int32)).toInt = s2.1.toInt + (1 : Int32).toInt := i_add (by omega) (by omega)
      have h6_ : 0 ≤ (w1 134 17).toInt ∧ (w1 134 17).toInt ≤ 8 * g 0 := iv_134_17 hIw1
      have k7_ : (w1 134 17).toInt = (s2.2 134 17).toInt := by rw [ew1, wu_ne (by omega)]
      exact sf_some (show ((Inv g w1) ∧ (0 ≤ (s2.1 + (1 : Int32)).toInt) ∧ ((s2.1 + (1 : Int32)).toInt ≤ 2048) ∧ ((w1 134 17).toInt = (w 134 17).toInt)) ∧ (2049 - (s2.1 + (1 : Int32)).toInt).toNat < (2049 - s2.1.toInt).toNat from ⟨⟨hIw1, by omega, by omega, by omega⟩, by omega⟩)
    · have rc3_ : ¬ s2.1.toInt < 2048 := by rw [Int32.lt_iff_toInt_lt] at c3_; omega
      exact sf_some (show (Inv g s2.2) ∧ ((s2.2 134 17).toInt = (w 134 17).toInt) from ⟨hIs2, by omega⟩)
  · obtain ⟨hIv2, hvv2_1⟩ := hvv2
    have h8_ : 0 ≤ (w 134 17).toInt ∧ (w 134 17).toInt ≤ 8 * g 0 := iv_134_17 hI
    have h9_ : 0 ≤ (v2 134 17).toInt ∧ (v2 134 17).toInt ≤ 8 * g 0 := iv_134_17 hIv2
    refine sf_bind (Q := fun (v15 : Mem) => (Inv g v15) ∧ ((v15 134 17).toInt = (v2 134 17).toInt)) ?_ (fun v15 hqv15 hvv15 => ?_)
    · have l_1 : (1 : Int32).toInt = 1 := by decide
      refine sf_lp (fun (s24 : (Int32 × Mem)) => (Inv g s24.2) ∧ (1 ≤ s24.1.toInt) ∧ (s24.1.toInt ≤ 256) ∧ ((s24.2 134 17).toInt = (v2 134 17).toInt)) (fun (s24 : (Int32 × Mem)) => (257 - s24.1.toInt).toNat) (fun s24 hss24 => ?_) _ _ (show (Inv g v2) ∧ (1 ≤ (1 : Int32).toInt) ∧ ((1 : Int32).toInt ≤ 256) ∧ ((v2 134 17).toInt = (v2 134 17).toInt) from ⟨hIv2, by omega, by omega, rfl⟩) (show (257 - (1 : Int32).toInt).toNat < 5000000000 from by omega)
      obtain ⟨hIs24, hss24_1, hss24_2, hss24_3⟩ := hss24
      refine (?_ : Sf (lpP _ _ (257 - s24.1.toInt).toNat _) _)
      have h10_ : 0 ≤ (s24.2 134 17).toInt ∧ (s24.2 134 17).toInt ≤ 8 * g 0 := iv_134_17 hIs24
      have l_256 : (256 : Int32).toInt = 256 := by decide
      refine sf_ite (fun c11_ => ?_) (fun c11_ => ?_)
      · have rc11_ : s24.1.toInt < 256 := by rw [Int32.lt_iff_toInt_lt] at c11_; omega
        refine sf_bind (Q := fun (v14 : Mem) => (Inv g v14) ∧ ((v14 134 17).toInt = (s24.2 134 17).toInt)) ?_ (fun v14 hqv14 hvv14 => ?_)
        · have l_0 : (0 : Int32).toInt = 0 := by decide
          refine sf_lp (fun (s33 : (Int32 × Mem)) => (Inv g s33.2) ∧ (0 ≤ s33.1.toInt) ∧ (s33.1.toInt ≤ 8) ∧ ((s33.2 134 17).toInt = (s24.2 134 17).toInt)) (fun (s33 : (Int32 × Mem)) => (9 - s33.1.toInt).toNat) (fun s33 hss33 => ?_) _ _ (show (Inv g s24.2) ∧ (0 ≤ (0 : Int32).toInt) ∧ ((0 : Int32).toInt ≤ 8) ∧ ((s24.2 134 17).toInt = (s24.2 134 17).toInt) from ⟨hIs24, by omega, by omega, rfl⟩) (show (9 - (0 : Int32).toInt).toNat < 5000000000 from by omega)
          obtain ⟨hIs33, hss33_1, hss33_2, hss33_3⟩ := hss33
          refine (?_ : Sf (lpP _ _ (9 - s33.1.toInt).toNat _) _)
          have h12_ : 0 ≤ (s33.2 134 17).toInt ∧ (s33.2 134 17).toInt ≤ 8 * g 0 := iv_134_17 hIs33
          refine sf_ite (fun c13_ => ?_) (fun c13_ => ?_)
          · have rc13_ : s33.1.toInt < (s33.2 134 17).toInt := by rw [Int32.lt_iff_toInt_lt] at c13_; omega
            have e14_ : 0 ≤ (s24.1 &&& (a1 ^^^ (-1 : Int32))).toInt ∧ (s24.1 &&& (a1 ^^^ (-1 : Int32))).toInt ≤ s24.1.toInt := i_and_l (by omega)
            refine sf_ite (fun c15_ => ?_) (fun c15_ => ?_)
            · have rc15_ : (s24.1 &&& (a1 ^^^ (-1 : Int32))).toInt = 0 := by rw [i_eq_iff] at c15_; omega
              refine sf_bind (sf_X10_has s24.1 s33.1) (fun r3 hqr3 hpr3 => ?_)
              obtain ⟨hpr3_0, hpr3_1⟩ := hpr3
              refine sf_bind (Q := fun (v4 : Mem) => (Inv g v4) ∧ ((v4 134 17).toInt = (s33.2 134 17).toInt)) ?_ (fun v4 hqv4 hvv4 => ?_)
              · refine sf_ite (fun c16_ => ?_) (fun c16_ => ?_)
                · have rc16_ : r3.toInt = 0 := by rw [i_eq_iff] at c16_; omega
                  exact sf_some (show (Inv g s33.2) ∧ ((s33.2 134 17).toInt = (s33.2 134 17).toInt) from ⟨hIs33, rfl⟩)
                · have rc16_ : ¬ r3.toInt = 0 := by rw [i_eq_iff] at c16_; omega
                  refine sf_lt (fun t5 et5 => ?_)
                  have ft5 : (0 ≤ t5.toInt) ∧ (t5.toInt ≤ 255) := by
                    have e17_ : 0 ≤ (s24.1 &&& (((1 : Int32) <<< (s33.1 &&& 31)) ^^^ (-1 : Int32))).toInt ∧ (s24.1 &&& (((1 : Int32) <<< (s33.1 &&& 31)) ^^^ (-1 : Int32))).toInt ≤ s24.1.toInt := i_and_l (by omega)
                    have f9 : t5.toInt = (s24.1 &&& (((1 : Int32) <<< (s33.1 &&& 31)) ^^^ (-1 : Int32))).toInt := by rw [et5]
                    exact ⟨by omega, by omega⟩
                  refine sf_bind (Q := fun (v6 : Int32) => (0 ≤ v6.toInt) ∧ (v6.toInt ≤ 128)) ?_ (fun v6 hqv6 hvv6 => ?_)
                  · refine sf_ite (fun c18_ => ?_) (fun c18_ => ?_)
                    · have rc18_ : t5.toInt = 0 := by rw [i_eq_iff] at c18_; omega
                      have e19_ : 1 ≤ ((1 : Int32) <<< (s33.1 &&& 31)).toInt ∧ ((1 : Int32) <<< (s33.1 &&& 31)).toInt ≤ 128 := i_shl1 (k := 7) (by decide) (by omega) (show _ ≤ 7 from by omega)
                      exact sf_some (show (0 ≤ ((1 : Int32) <<< (s33.1 &&& 31)).toInt) ∧ (((1 : Int32) <<< (s33.1 &&& 31)).toInt ≤ 128) from ⟨by omega, by omega⟩)
                    · have rc18_ : ¬ t5.toInt = 0 := by rw [i_eq_iff] at c18_; omega
                      exact sf_some (show (0 ≤ (0 : Int32).toInt) ∧ ((0 : Int32).toInt ≤ 128) from ⟨by omega, by omega⟩)
                  · obtain ⟨hvv6_0, hvv6_1⟩ := hvv6
                    refine sf_bind (Q := fun (v12 : Int32) => (True)) ?_ (fun v12 hqv12 hvv12 => ?_)
                    · refine sf_lp (fun (s83 : (Int32 × Int32)) => (0 ≤ s83.2.toInt) ∧ (s83.2.toInt ≤ 8)) (fun (s83 : (Int32 × Int32)) => (9 - s83.2.toInt).toNat) (fun s83 hss83 => ?_) _ _ (show (0 ≤ (0 : Int32).toInt) ∧ ((0 : Int32).toInt ≤ 8) from ⟨by omega, by omega⟩) (show (9 - (0 : Int32).toInt).toNat < 5000000000 from by omega)
                      obtain ⟨hss83_0, hss83_1⟩ := hss83
                      refine (?_ : Sf (lpP _ _ (9 - s83.2.toInt).toNat _) _)
                      refine sf_ite (fun c20_ => ?_) (fun c20_ => ?_)
                      · have rc20_ : s83.2.toInt < (s33.2 134 17).toInt := by rw [Int32.lt_iff_toInt_lt] at c20_; omega
                        refine sf_bind (sf_X10_has t5 s83.2) (fun r7 hqr7 hpr7 => ?_)
                        obtain ⟨hpr7_0, hpr7_1⟩ := hpr7
                        refine sf_bind (Q := fun (v8 : Int32) => (True)) ?_ (fun v8 hqv8 hvv8 => ?_)
                        · refine sf_ite (fun c21_ => ?_) (fun c21_ => ?_)
                          · have rc21_ : r7.toInt = 0 := by rw [i_eq_iff] at c21_; omega
                            exact sf_some (show (True) from trivial)
                          · have rc21_ : ¬ r7.toInt = 0 := by rw [i_eq_iff] at c21_; omega
                            refine sf_rd (by omega) (by omega) (fun x9 ex9 => ?_)
                            have zz22_l : -2147483648 ≤ x9.toInt := Int32.le_toInt x9
                            have zz22_h : x9.toInt ≤ 2147483647 := Int32.toInt_le x9
                            refine sf_bind (sf_X10_has x9 s33.1) (fun r10 hqr10 hpr10 => ?_)
                            obtain ⟨hpr10_0, hpr10_1⟩ := hpr10
                            refine sf_ite (fun c23_ => ?_) (fun c23_ => ?_)
                            · have rc23_ : r10.toInt = 0 := by rw [i_eq_iff] at c23_; omega
                              exact sf_some (show (True) from trivial)
                            · have rc23_ : ¬ r10.toInt = 0 := by rw [i_eq_iff] at c23_; omega
                              have l_8 : (8 : Int32).toInt = 8 := by decide
                              have e24_ : ((8 : Int32) * t5).toInt = 8 * t5.toInt := i_mulkl (by decide) (by omega) (by omega)
                              have e25_ : (((8 : Int32) * t5) + s83.2).toInt = ((8 : Int32) * t5).toInt + s83.2.toInt := i_add (by omega) (by omega)
                              refine sf_rd (by omega) (by omega) (fun x11 ex11 => ?_)
                              have zz26_l : -2147483648 ≤ x11.toInt := Int32.le_toInt x11
                              have zz26_h : x11.toInt ≤ 2147483647 := Int32.toInt_le x11
                              exact sf_some (show (True) from trivial)
                        · have hvv8_0 := hvv8
                          have zz27_l : -2147483648 ≤ s83.1.toInt := Int32.le_toInt s83.1
                          have zz27_h : s83.1.toInt ≤ 2147483647 := Int32.toInt_le s83.1
                          have zz28_l : -2147483648 ≤ v8.toInt := Int32.le_toInt v8
                          have zz28_h : v8.toInt ≤ 2147483647 := Int32.toInt_le v8
                          have e29_ : (s83.2 + (1 : Int32)).toInt = s83.2.toInt + (1 : Int32).toInt := i_add (by omega) (by omega)
                          exact sf_some (show ((0 ≤ (s83.2 + (1 : Int32)).toInt) ∧ ((s83.2 + (1 : Int32)).toInt ≤ 8)) ∧ (9 - (s83.2 + (1 : Int32)).toInt).toNat < (9 - s83.2.toInt).toNat from ⟨⟨by omega, by omega⟩, by omega⟩)
                      · have rc20_ : ¬ s83.2.toInt < (s33.2 134 17).toInt := by rw [Int32.lt_iff_toInt_lt] at c20_; omega
                        have zz30_l : -2147483648 ≤ s83.1.toInt := Int32.le_toInt s83.1
                        have zz30_h : s83.1.toInt ≤ 2147483647 := Int32.toInt_le s83.1
                        exact sf_some (show (True) from trivial)
                    · have hvv12_0 := hvv12
                      have l_8 : (8 : Int32).toInt = 8 := by decide
                      have e31_ : ((8 : Int32) * s24.1).toInt = 8 * s24.1.toInt := i_mulkl (by decide) (by omega) (by omega)
                      have e32_ : (((8 : Int32) * s24.1) + s33.1).toInt = ((8 : Int32) * s24.1).toInt + s33.1.toInt := i_add (by omega) (by omega)
                      have zz33_l : -2147483648 ≤ v12.toInt := Int32.le_toInt v12
                      have zz33_h : v12.toInt ≤ 2147483647 := Int32.toInt_le v12
                      refine sf_wr (by omega) (by omega) (fun w13 ew13 => ?_)
                      have n34_ : ((((8 : Int32) * s24.1) + s33.1).toNatClampNeg : Int) = (((8 : Int32) * s24.1) + s33.1).toInt := i_clq (by omega)
                      have hIw13 : Inv g w13 := by rw [ew13]; exact ub_148 hIs33
                      have h35_ : 0 ≤ (w13 134 17).toInt ∧ (w13 134 17).toInt ≤ 8 * g 0 := iv_134_17 hIw13
                      have k36_ : (w13 134 17).toInt = (s33.2 134 17).toInt := by rw [ew13, wu_ne (by omega)]
                      exact sf_some (show (Inv g w13) ∧ ((w13 134 17).toInt = (s33.2 134 17).toInt) from ⟨hIw13, by omega⟩)
              · obtain ⟨hIv4, hvv4_1⟩ := hvv4
                have h37_ : 0 ≤ (v4 134 17).toInt ∧ (v4 134 17).toInt ≤ 8 * g 0 := iv_134_17 hIv4
                have e38_ : (s33.1 + (1 : Int32)).toInt = s33.1.toInt + (1 : Int32).toInt := i_add (by omega) (by omega)
                exact sf_some (show ((Inv g v4) ∧ (0 ≤ (s33.1 + (1 : Int32)).toInt) ∧ ((s33.1 + (1 : Int32)).toInt ≤ 8) ∧ ((v4 134 17).toInt = (s24.2 134 17).toInt)) ∧ (9 - (s33.1 + (1 : Int32)).toInt).toNat < (9 - s33.1.toInt).toNat from ⟨⟨hIv4, by omega, by omega, by omega⟩, by omega⟩)
            · have rc15_ : ¬ (s24.1 &&& (a1 ^^^ (-1 : Int32))).toInt = 0 := by rw [i_eq_iff] at c15_; omega
              exact sf_some (show (Inv g s33.2) ∧ ((s33.2 134 17).toInt = (s24.2 134 17).toInt) from ⟨hIs33, by omega⟩)
          · have rc13_ : ¬ s33.1.toInt < (s33.2 134 17).toInt := by rw [Int32.lt_iff_toInt_lt] at c13_; omega
            exact sf_some (show (Inv g s33.2) ∧ ((s33.2 134 17).toInt = (s24.2 134 17).toInt) from ⟨hIs33, by omega⟩)
        · obtain ⟨hIv14, hvv14_1⟩ := hvv14
          have h39_ : 0 ≤ (v14 134 17).toInt ∧ (v14 134 17).toInt ≤ 8 * g 0 := iv_134_17 hIv14
          have e40_ : (s24.1 + (1 : Int32)).toInt = s24.1.toInt + (1 : Int32).toInt := i_add (by omega) (by omega)
          exact sf_some (show ((Inv g v14) ∧ (1 ≤ (s24.1 + (1 : Int32)).toInt) ∧ ((s24.1 + (1 : Int32)).toInt ≤ 256) ∧ ((v14 134 17).toInt = (v2 134 17).toInt)) ∧ (257 - (s24.1 + (1 : Int32)).toInt).toNat < (257 - s24.1.toInt).toNat from ⟨⟨hIv14, by omega, by omega, by omega⟩, by omega⟩)
      · have rc11_ : ¬ s24.1.toInt < 256 := by rw [Int32.lt_iff_toInt_lt] at c11_; omega
        exact sf_some (show (Inv g s24.2) ∧ ((s24.2 134 17).toInt = (v2 134 17).toInt) from ⟨hIs24, by omega⟩)
    · obtain ⟨hIv15, hvv15_1⟩ := hvv15
      have h41_ : 0 ≤ (v15 134 17).toInt ∧ (v15 134 17).toInt ≤ 8 * g 0 := iv_134_17 hIv15
      exact sf_some (show (Inv g v15) from hIv15)
def bcI (x : Int32) : Int := ((f_X10_bits x).getD 0).toInt
theorem sr_X10_bits (a0 : Int32) : Sf (fun (q : Int32) => 0 ≤ q.toInt ∧ q.toInt ≤ 32 ∧ (a0.toBitVec.toNat < 64 → q.toInt ≤ 6)) (f_X10_bits a0) := by
  unfold f_X10_bits
  refine sf_bind (Q := fun (q : Int32) => 0 ≤ q.toInt ∧ q.toInt ≤ 32 ∧ (a0.toBitVec.toNat < 64 → q.toInt ≤ 6)) ?_ (fun v _ hv => sf_some hv)
  refine sf_lp (fun (s : Int32 × Int32) => 0 ≤ s.1.toInt ∧ s.1.toInt ≤ 32 ∧ 2 ^ s.1.toInt.toNat ∣ s.2.toBitVec.toNat ∧ s.2.toBitVec.toNat ≤ a0.toBitVec.toNat ∧ (a0.toBitVec.toNat < 64 → s.1.toInt ≤ 6)) (fun (s : Int32 × Int32) => (33 - s.1.toInt).toNat) (fun s hs => ?_) _ _ ⟨show 0 ≤ (0 : Int32).toInt by decide, show (0 : Int32).toInt ≤ 32 by decide, ?_, Nat.le_refl _, fun _ => show (0 : Int32).toInt ≤ 6 by decide⟩ (by show (33 - (0 : Int32).toInt).toNat < 5000000000; decide)
  · obtain ⟨h0, h1, h2, h3, h4⟩ := hs
    refine (?_ : Sf (lpP _ _ (33 - s.1.toInt).toNat _) _)
    refine sf_ite (fun c => sf_some (show 0 ≤ s.1.toInt ∧ s.1.toInt ≤ 32 ∧ (a0.toBitVec.toNat < 64 → s.1.toInt ≤ 6) from ⟨h0, h1, h4⟩)) (fun c => ?_)
    refine sf_lt (fun t et => ?_)
    have hn : s.2.toBitVec.toNat ≠ 0 := by
      intro e1
      apply c
      apply Int32.toBitVec_inj.mp
      exact BitVec.eq_of_toNat_eq (by rw [e1]; rfl)
    have hs1 : (s.2 - (1 : Int32)).toBitVec.toNat = s.2.toBitVec.toNat - 1 := by
      rw [Int32.toBitVec_sub, BitVec.toNat_sub]
      have h4 := s.2.toBitVec.isLt
      rw [show ((1 : Int32).toBitVec).toNat = 1 from rfl]
      omega
    have ht : t.toBitVec.toNat = s.2.toBitVec.toNat &&& (s.2.toBitVec.toNat - 1) := by rw [et, Int32.toBitVec_and, BitVec.toNat_and, hs1]
    have hle : 2 ^ s.1.toInt.toNat ≤ s.2.toBitVec.toNat := Nat.le_of_dvd (by omega) h2
    have hj : s.1.toInt.toNat < 32 := by
      apply (Nat.pow_lt_pow_iff_right (a := 2) (by decide)).mp
      have := s.2.toBitVec.isLt
      omega
    have l1 : (1 : Int32).toInt = 1 := by decide
    have e1 : (s.1 + (1 : Int32)).toInt = s.1.toInt + 1 := i_addk l1 (by omega) (by omega)
    have e2 : (s.1 + (1 : Int32)).toInt.toNat = s.1.toInt.toNat + 1 := by omega
    have h6 : a0.toBitVec.toNat < 64 → s.1.toInt.toNat < 6 := fun h => (Nat.pow_lt_pow_iff_right (a := 2) (by decide)).mp (by omega)
    refine sf_some (show (0 ≤ (s.1 + (1 : Int32)).toInt ∧ (s.1 + (1 : Int32)).toInt ≤ 32 ∧ 2 ^ (s.1 + (1 : Int32)).toInt.toNat ∣ t.toBitVec.toNat ∧ t.toBitVec.toNat ≤ a0.toBitVec.toNat ∧ (a0.toBitVec.toNat < 64 → (s.1 + (1 : Int32)).toInt ≤ 6)) ∧ (33 - (s.1 + (1 : Int32)).toInt).toNat < (33 - s.1.toInt).toNat from ⟨⟨by omega, by omega, ?_, ?_, fun h => by have := h6 h; omega⟩, by omega⟩)
    · rw [e2, ht]; exact clr_low hn h2
    · rw [ht]; exact Nat.le_trans Nat.and_le_left h3
  · show 2 ^ (0 : Int32).toInt.toNat ∣ _
    rw [show (0 : Int32).toInt.toNat = 0 by decide]
    exact Nat.one_dvd _
set_option maxRecDepth 20000 in
set_option maxHeartbeats 2000000 in
theorem sf_X10_bits (a0 : Int32) : Sf (fun (q : Int32) => (0 ≤ q.toInt) ∧ (q.toInt ≤ 32) ∧ (q.toInt = bcI a0) ∧ (¬ (0 ≤ a0.toInt ∧ a0.toInt ≤ 63) ∨ q.toInt ≤ 6)) (f_X10_bits a0) := by
  refine sf_mono (sr_X10_bits a0) (fun q hq h => ?_)
  refine ⟨h.1, h.2.1, by unfold bcI; rw [hq]; rfl, ?_⟩
  by_cases h2 : 0 ≤ a0.toInt ∧ a0.toInt ≤ 63
  · have := i_tn h2.1
    exact Or.inr (h.2.2 (by omega))
  · exact Or.inl h2
set_option maxRecDepth 20000 in
set_option maxHeartbeats 2000000 in
theorem sf_X10_stayOf {g : Nat → Int} (a1 : Int32) (a2 : Int32) (w : Mem) (hI : Inv g w) (pre0 : 0 ≤ a1.toInt) (pre1 : a1.toInt ≤ 5) (pre2 : 0 ≤ a2.toInt) (pre3 : a2.toInt ≤ 7) : Sf (fun (q : Int32) => (True)) (f_X10_stayOf a1 a2 w) := by
  obtain ⟨hg0, hg1⟩ := hI.1
  unfold f_X10_stayOf
  refine sf_rd (by omega) (by omega) (fun x1 ex1 => ?_)
  have zz1_l : -2147483648 ≤ x1.toInt := Int32.le_toInt x1
  have zz1_h : x1.toInt ≤ 2147483647 := Int32.toInt_le x1
  refine sf_bind (sf_X10_has x1 a2) (fun r2 hqr2 hpr2 => ?_)
  obtain ⟨hpr2_0, hpr2_1⟩ := hpr2
  have l_0 : (0 : Int32).toInt = 0 := by decide
  refine sf_ite (fun c2_ => ?_) (fun c2_ => ?_)
  · have rc2_ : r2.toInt = 0 := by rw [i_eq_iff] at c2_; omega
    exact sf_some (show (True) from trivial)
  · have rc2_ : ¬ r2.toInt = 0 := by rw [i_eq_iff] at c2_; omega
    refine sf_rd (by omega) (by omega) (fun x3 ex3 => ?_)
    refine sf_rd (by omega) (by omega) (fun x4 ex4 => ?_)
    have zz3_l : -2147483648 ≤ x4.toInt := Int32.le_toInt x4
    have zz3_h : x4.toInt ≤ 2147483647 := Int32.toInt_le x4
    refine sf_ite (fun c4_ => ?_) (fun c4_ => ?_)
    · have rc4_ : x4.toInt = 0 := by rw [i_eq_iff] at c4_; omega
      refine sf_rd (by omega) (by omega) (fun x5 ex5 => ?_)
      have l_1 : (1 : Int32).toInt = 1 := by decide
      have zz5_l : -2147483648 ≤ x5.toInt := Int32.le_toInt x5
      have zz5_h : x5.toInt ≤ 2147483647 := Int32.toInt_le x5
      have zz6_l : -2147483648 ≤ x3.toInt := Int32.le_toInt x3
      have zz6_h : x3.toInt ≤ 2147483647 := Int32.toInt_le x3
      refine sf_ite (fun c7_ => ?_) (fun c7_ => ?_)
      · have rc7_ : 1 < (x5 - x3).toInt := by rw [Int32.lt_iff_toInt_lt] at c7_; omega
        refine sf_rd (by omega) (by omega) (fun x6 ex6 => ?_)
        have zz8_l : -2147483648 ≤ x6.toInt := Int32.le_toInt x6
        have zz8_h : x6.toInt ≤ 2147483647 := Int32.toInt_le x6
        exact sf_some (show (True) from trivial)
      · have rc7_ : ¬ 1 < (x5 - x3).toInt := by rw [Int32.lt_iff_toInt_lt] at c7_; omega
        exact sf_some (show (True) from trivial)
    · have rc4_ : ¬ x4.toInt = 0 := by rw [i_eq_iff] at c4_; omega
      have l_1 : (1 : Int32).toInt = 1 := by decide
      refine sf_ite (fun c9_ => ?_) (fun c9_ => ?_)
      · have rc9_ : x4.toInt = 1 := by rw [i_eq_iff] at c9_; omega
        refine sf_rd (by omega) (by omega) (fun x8 ex8 => ?_)
        have zz10_l : -2147483648 ≤ x8.toInt := Int32.le_toInt x8
        have zz10_h : x8.toInt ≤ 2147483647 := Int32.toInt_le x8
        exact sf_some (show (True) from trivial)
      · have rc9_ : ¬ x4.toInt = 1 := by rw [i_eq_iff] at c9_; omega
        have l_2 : (2 : Int32).toInt = 2 := by decide
        refine sf_ite (fun c11_ => ?_) (fun c11_ => ?_)
        · have rc11_ : x4.toInt = 2 := by rw [i_eq_iff] at c11_; omega
          refine sf_rd (by omega) (by omega) (fun x10 ex10 => ?_)
          have zz12_l : -2147483648 ≤ x3.toInt := Int32.le_toInt x3
          have zz12_h : x3.toInt ≤ 2147483647 := Int32.toInt_le x3
          have zz13_l : -2147483648 ≤ x10.toInt := Int32.le_toInt x10
          have zz13_h : x10.toInt ≤ 2147483647 := Int32.toInt_le x10
          refine sf_ite (fun c14_ => ?_) (fun c14_ => ?_)
          · have rc14_ : x3.toInt < (x10 / (2 : Int32)).toInt := by rw [Int32.lt_iff_toInt_lt] at c14_; omega
            refine sf_rd (by omega) (by omega) (fun x11 ex11 => ?_)
            have zz15_l : -2147483648 ≤ x11.toInt := Int32.le_toInt x11
            have zz15_h : x11.toInt ≤ 2147483647 := Int32.toInt_le x11
            exact sf_some (show (True) from trivial)
          · have rc14_ : ¬ x3.toInt < (x10 / (2 : Int32)).toInt := by rw [Int32.lt_iff_toInt_lt] at c14_; omega
            exact sf_some (show (True) from trivial)
        · have rc11_ : ¬ x4.toInt = 2 := by rw [i_eq_iff] at c11_; omega
          have l_3 : (3 : Int32).toInt = 3 := by decide
          refine sf_ite (fun c16_ => ?_) (fun c16_ => ?_)
          · have rc16_ : x4.toInt = 3 := by rw [i_eq_iff] at c16_; omega
            refine sf_rd (by omega) (by omega) (fun x13 ex13 => ?_)
            refine sf_rd (by omega) (by omega) (fun x14 ex14 => ?_)
            have zz17_l : -2147483648 ≤ x14.toInt := Int32.le_toInt x14
            have zz17_h : x14.toInt ≤ 2147483647 := Int32.toInt_le x14
            refine sf_bind (sf_X10_bits x14) (fun r15 hqr15 hpr15 => ?_)
            obtain ⟨hpr15_0, hpr15_1, hpr15_2, hpr15_3⟩ := hpr15
            have zz18_l : -2147483648 ≤ x13.toInt := Int32.le_toInt x13
            have zz18_h : x13.toInt ≤ 2147483647 := Int32.toInt_le x13
            have l_5 : (5 : Int32).toInt = 5 := by decide
            have e19_ : ((5 : Int32) * r15).toInt = 5 * r15.toInt := i_mulkl (by decide) (by omega) (by omega)
            exact sf_some (show (True) from trivial)
          · have rc16_ : ¬ x4.toInt = 3 := by rw [i_eq_iff] at c16_; omega
            exact sf_some (show (True) from trivial)
set_option maxRecDepth 20000 in
set_option maxHeartbeats 2000000 in
theorem sf_X10_layTalk {g : Nat → Int} (a1 : Int32) (a2 : Int32) (w : Mem) (hI : Inv g w) (pre0 : 0 ≤ a1.toInt) (pre1 : a1.toInt ≤ 5) : Sf (fun (q : Mem) => (Inv g q)) (f_X10_layTalk a1 a2 w) := by
  obtain ⟨hg0, hg1⟩ := hI.1
  unfold f_X10_layTalk
  have zz1_l : -2147483648 ≤ a2.toInt := Int32.le_toInt a2
  have zz1_h : a2.toInt ≤ 2147483647 := Int32.toInt_le a2
  refine sf_bind (sf_X10_layTalks a2 w hI) (fun w1 hqw1 hpw1 => ?_)
  have hIw1 := hpw1
  have l_0 : (0 : Int32).toInt = 0 := by decide
  refine sf_pw (fun w2 ew2 => ?_)
  have hIw2 : Inv g w2 := by rw [ew2]; exact uq_134_30 hIw1
  have l_m1 : (-1 : Int32).toInt = -1 := by decide
  refine sf_pw (fun w3 ew3 => ?_)
  have hIw3 : Inv g w3 := by rw [ew3]; exact uq_134_31 hIw2
  refine sf_pw (fun w4 ew4 => ?_)
  have hIw4 : Inv g w4 := by rw [ew4]; exact uq_134_32 hIw3
  refine sf_bind (Q := fun (v19 : Mem) => (Inv g v19) ∧ ((v19 134 17).toInt = (w4 134 17).toInt)) ?_ (fun v19 hqv19 hvv19 => ?_)
  · have l_1 : (1 : Int32).toInt = 1 := by decide
    have h2_ : 0 ≤ (w4 134 17).toInt ∧ (w4 134 17).toInt ≤ 8 * g 0 := iv_134_17 hIw4
    have h3_ : 0 ≤ (w3 134 17).toInt ∧ (w3 134 17).toInt ≤ 8 * g 0 := iv_134_17 hIw3
    have h4_ : 0 ≤ (w2 134 17).toInt ∧ (w2 134 17).toInt ≤ 8 * g 0 := iv_134_17 hIw2
    have h5_ : 0 ≤ (w1 134 17).toInt ∧ (w1 134 17).toInt ≤ 8 * g 0 := iv_134_17 hIw1
    have h6_ : 0 ≤ (w 134 17).toInt ∧ (w 134 17).toInt ≤ 8 * g 0 := iv_134_17 hI
    have k7_ : (w1 134 17).toInt = (w 134 17).toInt := congrArg Int32.toInt (fr_X10_layTalks a2 w w1 hqw1 134 17 (by omega))
    have k8_ : (w2 134 17).toInt = (w1 134 17).toInt := by rw [ew2, wu_ne (by omega)]
    have k9_ : (w3 134 17).toInt = (w2 134 17).toInt := by rw [ew3, wu_ne (by omega)]
    have k10_ : (w4 134 17).toInt = (w3 134 17).toInt := by rw [ew4, wu_ne (by omega)]
    refine sf_lp (fun (s22 : (Int32 × Mem)) => (Inv g s22.2) ∧ (1 ≤ s22.1.toInt) ∧ (s22.1.toInt ≤ 256) ∧ ((s22.2 134 17).toInt = (w4 134 17).toInt)) (fun (s22 : (Int32 × Mem)) => (257 - s22.1.toInt).toNat) (fun s22 hss22 => ?_) _ _ (show (Inv g w4) ∧ (1 ≤ (1 : Int32).toInt) ∧ ((1 : Int32).toInt ≤ 256) ∧ ((w4 134 17).toInt = (w4 134 17).toInt) from ⟨hIw4, by omega, by omega, rfl⟩) (show (257 - (1 : Int32).toInt).toNat < 5000000000 from by omega)
    obtain ⟨hIs22, hss22_1, hss22_2, hss22_3⟩ := hss22
    refine (?_ : Sf (lpP _ _ (257 - s22.1.toInt).toNat _) _)
    have h11_ : 0 ≤ (s22.2 134 17).toInt ∧ (s22.2 134 17).toInt ≤ 8 * g 0 := iv_134_17 hIs22
    have l_256 : (256 : Int32).toInt = 256 := by decide
    refine sf_ite (fun c12_ => ?_) (fun c12_ => ?_)
    · have rc12_ : s22.1.toInt < 256 := by rw [Int32.lt_iff_toInt_lt] at c12_; omega
      refine sf_bind (Q := fun (v9 : (Int32 × Int32)) => (True)) ?_ (fun v9 hqv9 hvv9 => ?_)
      · refine sf_lp (fun (s38 : (Int32 × Int32 × Int32)) => (0 ≤ s38.2.2.toInt) ∧ (s38.2.2.toInt ≤ 8)) (fun (s38 : (Int32 × Int32 × Int32)) => (9 - s38.2.2.toInt).toNat) (fun s38 hss38 => ?_) _ _ (show (0 ≤ (0 : Int32).toInt) ∧ ((0 : Int32).toInt ≤ 8) from ⟨by omega, by omega⟩) (show (9 - (0 : Int32).toInt).toNat < 5000000000 from by omega)
        obtain ⟨hss38_0, hss38_1⟩ := hss38
        refine (?_ : Sf (lpP _ _ (9 - s38.2.2.toInt).toNat _) _)
        refine sf_ite (fun c13_ => ?_) (fun c13_ => ?_)
        · have rc13_ : s38.2.2.toInt < (s22.2 134 17).toInt := by rw [Int32.lt_iff_toInt_lt] at c13_; omega
          have l_8 : (8 : Int32).toInt = 8 := by decide
          have e14_ : ((8 : Int32) * s22.1).toInt = 8 * s22.1.toInt := i_mulkl (by decide) (by omega) (by omega)
          have e15_ : (((8 : Int32) * s22.1) + s38.2.2).toInt = ((8 : Int32) * s22.1).toInt + s38.2.2.toInt := i_add (by omega) (by omega)
          refine sf_rd (by omega) (by omega) (fun x5 ex5 => ?_)
          refine sf_bind (sf_X10_has s22.1 s38.2.2) (fun r6 hqr6 hpr6 => ?_)
          obtain ⟨hpr6_0, hpr6_1⟩ := hpr6
          refine sf_bind (Q := fun (v7 : Int32) => (True)) ?_ (fun v7 hqv7 hvv7 => ?_)
          · refine sf_ite (fun c16_ => ?_) (fun c16_ => ?_)
            · have rc16_ : r6.toInt = 0 := by rw [i_eq_iff] at c16_; omega
              exact sf_some (show (True) from trivial)
            · have rc16_ : ¬ r6.toInt = 0 := by rw [i_eq_iff] at c16_; omega
              refine sf_bind (sf_X10_stayOf a1 s38.2.2 s22.2 hIs22 (by omega) (by omega) (by omega) (by omega)) (fun r8 hqr8 hpr8 => ?_)
              have zz17_l : -2147483648 ≤ r8.toInt := Int32.le_toInt r8
              have zz17_h : r8.toInt ≤ 2147483647 := Int32.toInt_le r8
              exact sf_some (show (True) from trivial)
          · have hvv7_0 := hvv7
            have zz18_l : -2147483648 ≤ s38.1.toInt := Int32.le_toInt s38.1
            have zz18_h : s38.1.toInt ≤ 2147483647 := Int32.toInt_le s38.1
            have zz19_l : -2147483648 ≤ x5.toInt := Int32.le_toInt x5
            have zz19_h : x5.toInt ≤ 2147483647 := Int32.toInt_le x5
            have zz20_l : -2147483648 ≤ s38.2.1.toInt := Int32.le_toInt s38.2.1
            have zz20_h : s38.2.1.toInt ≤ 2147483647 := Int32.toInt_le s38.2.1
            have zz21_l : -2147483648 ≤ v7.toInt := Int32.le_toInt v7
            have zz21_h : v7.toInt ≤ 2147483647 := Int32.toInt_le v7
            have e22_ : (s38.2.2 + (1 : Int32)).toInt = s38.2.2.toInt + (1 : Int32).toInt := i_add (by omega) (by omega)
            exact sf_some (show ((0 ≤ (s38.2.2 + (1 : Int32)).toInt) ∧ ((s38.2.2 + (1 : Int32)).toInt ≤ 8)) ∧ (9 - (s38.2.2 + (1 : Int32)).toInt).toNat < (9 - s38.2.2.toInt).toNat from ⟨⟨by omega, by omega⟩, by omega⟩)
        · have rc13_ : ¬ s38.2.2.toInt < (s22.2 134 17).toInt := by rw [Int32.lt_iff_toInt_lt] at c13_; omega
          have zz23_l : -2147483648 ≤ s38.1.toInt := Int32.le_toInt s38.1
          have zz23_h : s38.1.toInt ≤ 2147483647 := Int32.toInt_le s38.1
          have zz24_l : -2147483648 ≤ s38.2.1.toInt := Int32.le_toInt s38.2.1
          have zz24_h : s38.2.1.toInt ≤ 2147483647 := Int32.toInt_le s38.2.1
          exact sf_some (show (True) from trivial)
      · have hvv9_0 := hvv9
        have zz25_l : -2147483648 ≤ v9.1.toInt := Int32.le_toInt v9.1
        have zz25_h : v9.1.toInt ≤ 2147483647 := Int32.toInt_le v9.1
        refine sf_bind (sf_X10_bits ((v9.1 &&& (-v9.1)) - (1 : Int32))) (fun r10 hqr10 hpr10 => ?_)
        obtain ⟨hpr10_0, hpr10_1, hpr10_2, hpr10_3⟩ := hpr10
        refine sf_bind (Q := fun (v11 : Int32) => (0 ≤ v11.toInt) ∧ (v11.toInt ≤ 1)) ?_ (fun v11 hqv11 hvv11 => ?_)
        · have zz26_l : -2147483648 ≤ (s22.2 134 30).toInt := Int32.le_toInt (s22.2 134 30)
          have zz26_h : (s22.2 134 30).toInt ≤ 2147483647 := Int32.toInt_le (s22.2 134 30)
          have zz27_l : -2147483648 ≤ v9.2.toInt := Int32.le_toInt v9.2
          have zz27_h : v9.2.toInt ≤ 2147483647 := Int32.toInt_le v9.2
          refine sf_ite (fun c28_ => ?_) (fun c28_ => ?_)
          · have rc28_ : (s22.2 134 30).toInt < v9.2.toInt := by rw [Int32.lt_iff_toInt_lt] at c28_; omega
            exact sf_some (show (0 ≤ (1 : Int32).toInt) ∧ ((1 : Int32).toInt ≤ 1) from ⟨by omega, by omega⟩)
          · have rc28_ : ¬ (s22.2 134 30).toInt < v9.2.toInt := by rw [Int32.lt_iff_toInt_lt] at c28_; omega
            refine sf_ite (fun c29_ => ?_) (fun c29_ => ?_)
            · have rc29_ : v9.2.toInt = (s22.2 134 30).toInt := by rw [i_eq_iff] at c29_; omega
              refine sf_bind (sf_X10_bits s22.1) (fun r17 hqr17 hpr17 => ?_)
              obtain ⟨hpr17_0, hpr17_1, hpr17_2, hpr17_3⟩ := hpr17
              have zz30_l : -2147483648 ≤ (s22.2 134 32).toInt := Int32.le_toInt (s22.2 134 32)
              have zz30_h : (s22.2 134 32).toInt ≤ 2147483647 := Int32.toInt_le (s22.2 134 32)
              refine sf_ite (fun c31_ => ?_) (fun c31_ => ?_)
              · have rc31_ : r17.toInt < (s22.2 134 32).toInt := by rw [Int32.lt_iff_toInt_lt] at c31_; omega
                exact sf_some (show (0 ≤ (1 : Int32).toInt) ∧ ((1 : Int32).toInt ≤ 1) from ⟨by omega, by omega⟩)
              · have rc31_ : ¬ r17.toInt < (s22.2 134 32).toInt := by rw [Int32.lt_iff_toInt_lt] at c31_; omega
                refine sf_bind (sf_X10_bits s22.1) (fun r18 hqr18 hpr18 => ?_)
                obtain ⟨hpr18_0, hpr18_1, hpr18_2, hpr18_3⟩ := hpr18
                refine sf_ite (fun c32_ => ?_) (fun c32_ => ?_)
                · have rc32_ : r18.toInt = (s22.2 134 32).toInt := by rw [i_eq_iff] at c32_; omega
                  have zz33_l : -2147483648 ≤ (s22.2 134 31).toInt := Int32.le_toInt (s22.2 134 31)
                  have zz33_h : (s22.2 134 31).toInt ≤ 2147483647 := Int32.toInt_le (s22.2 134 31)
                  refine sf_ite (fun c34_ => ?_) (fun c34_ => ?_)
                  · have rc34_ : r10.toInt < (s22.2 134 31).toInt := by rw [Int32.lt_iff_toInt_lt] at c34_; omega
                    exact sf_some (show (0 ≤ (1 : Int32).toInt) ∧ ((1 : Int32).toInt ≤ 1) from ⟨by omega, by omega⟩)
                  · have rc34_ : ¬ r10.toInt < (s22.2 134 31).toInt := by rw [Int32.lt_iff_toInt_lt] at c34_; omega
                    exact sf_some (show (0 ≤ (0 : Int32).toInt) ∧ ((0 : Int32).toInt ≤ 1) from ⟨by omega, by omega⟩)
                · have rc32_ : ¬ r18.toInt = (s22.2 134 32).toInt := by rw [i_eq_iff] at c32_; omega
                  exact sf_some (show (0 ≤ (0 : Int32).toInt) ∧ ((0 : Int32).toInt ≤ 1) from ⟨by omega, by omega⟩)
            · have rc29_ : ¬ v9.2.toInt = (s22.2 134 30).toInt := by rw [i_eq_iff] at c29_; omega
              exact sf_some (show (0 ≤ (0 : Int32).toInt) ∧ ((0 : Int32).toInt ≤ 1) from ⟨by omega, by omega⟩)
        · obtain ⟨hvv11_0, hvv11_1⟩ := hvv11
          refine sf_bind (Q := fun (v12 : Mem) => (Inv g v12) ∧ ((v12 134 17).toInt = (s22.2 134 17).toInt)) ?_ (fun v12 hqv12 hvv12 => ?_)
          · refine sf_ite (fun c35_ => ?_) (fun c35_ => ?_)
            · have rc35_ : v9.1.toInt = 0 := by rw [i_eq_iff] at c35_; omega
              exact sf_some (show (Inv g s22.2) ∧ ((s22.2 134 17).toInt = (s22.2 134 17).toInt) from ⟨hIs22, rfl⟩)
            · have rc35_ : ¬ v9.1.toInt = 0 := by rw [i_eq_iff] at c35_; omega
              have zz36_l : -2147483648 ≤ v9.2.toInt := Int32.le_toInt v9.2
              have zz36_h : v9.2.toInt ≤ 2147483647 := Int32.toInt_le v9.2
              refine sf_ite (fun c37_ => ?_) (fun c37_ => ?_)
              · have rc37_ : 0 < v9.2.toInt := by rw [Int32.lt_iff_toInt_lt] at c37_; omega
                refine sf_ite (fun c38_ => ?_) (fun c38_ => ?_)
                · have rc38_ : v11.toInt = 0 := by rw [i_eq_iff] at c38_; omega
                  exact sf_some (show (Inv g s22.2) ∧ ((s22.2 134 17).toInt = (s22.2 134 17).toInt) from ⟨hIs22, rfl⟩)
                · have rc38_ : ¬ v11.toInt = 0 := by rw [i_eq_iff] at c38_; omega
                  refine sf_pw (fun w13 ew13 => ?_)
                  have hIw13 : Inv g w13 := by rw [ew13]; exact uq_134_30 hIs22
                  refine sf_pw (fun w14 ew14 => ?_)
                  have hIw14 : Inv g w14 := by rw [ew14]; exact uq_134_31 hIw13
                  refine sf_bind (sf_X10_bits s22.1) (fun r15 hqr15 hpr15 => ?_)
                  obtain ⟨hpr15_0, hpr15_1, hpr15_2, hpr15_3⟩ := hpr15
                  refine sf_pw (fun w16 ew16 => ?_)
                  have hIw16 : Inv g w16 := by rw [ew16]; exact uq_134_32 hIw14
                  have h39_ : 0 ≤ (w16 134 17).toInt ∧ (w16 134 17).toInt ≤ 8 * g 0 := iv_134_17 hIw16
                  have h40_ : 0 ≤ (w14 134 17).toInt ∧ (w14 134 17).toInt ≤ 8 * g 0 := iv_134_17 hIw14
                  have h41_ : 0 ≤ (w13 134 17).toInt ∧ (w13 134 17).toInt ≤ 8 * g 0 := iv_134_17 hIw13
                  have k42_ : (w13 134 17).toInt = (s22.2 134 17).toInt := by rw [ew13, wu_ne (by omega)]
                  have k43_ : (w14 134 17).toInt = (w13 134 17).toInt := by rw [ew14, wu_ne (by omega)]
                  have k44_ : (w16 134 17).toInt = (w14 134 17).toInt := by rw [ew16, wu_ne (by omega)]
                  exact sf_some (show (Inv g w16) ∧ ((w16 134 17).toInt = (s22.2 134 17).toInt) from ⟨hIw16, by omega⟩)
              · have rc37_ : ¬ 0 < v9.2.toInt := by rw [Int32.lt_iff_toInt_lt] at c37_; omega
                exact sf_some (show (Inv g s22.2) ∧ ((s22.2 134 17).toInt = (s22.2 134 17).toInt) from ⟨hIs22, rfl⟩)
          · obtain ⟨hIv12, hvv12_1⟩ := hvv12
            have h45_ : 0 ≤ (v12 134 17).toInt ∧ (v12 134 17).toInt ≤ 8 * g 0 := iv_134_17 hIv12
            have e46_ : (s22.1 + (1 : Int32)).toInt = s22.1.toInt + (1 : Int32).toInt := i_add (by omega) (by omega)
            exact sf_some (show ((Inv g v12) ∧ (1 ≤ (s22.1 + (1 : Int32)).toInt) ∧ ((s22.1 + (1 : Int32)).toInt ≤ 256) ∧ ((v12 134 17).toInt = (w4 134 17).toInt)) ∧ (257 - (s22.1 + (1 : Int32)).toInt).toNat < (257 - s22.1.toInt).toNat from ⟨⟨hIv12, by omega, by omega, by omega⟩, by omega⟩)
    · have rc12_ : ¬ s22.1.toInt < 256 := by rw [Int32.lt_iff_toInt_lt] at c12_; omega
      exact sf_some (show (Inv g s22.2) ∧ ((s22.2 134 17).toInt = (w4 134 17).toInt) from ⟨hIs22, by omega⟩)
  · obtain ⟨hIv19, hvv19_1⟩ := hvv19
    have h47_ : 0 ≤ (w4 134 17).toInt ∧ (w4 134 17).toInt ≤ 8 * g 0 := iv_134_17 hIw4
    have h48_ : 0 ≤ (w3 134 17).toInt ∧ (w3 134 17).toInt ≤ 8 * g 0 := iv_134_17 hIw3
    have h49_ : 0 ≤ (w2 134 17).toInt ∧ (w2 134 17).toInt ≤ 8 * g 0 := iv_134_17 hIw2
    have h50_ : 0 ≤ (w1 134 17).toInt ∧ (w1 134 17).toInt ≤ 8 * g 0 := iv_134_17 hIw1
    have h51_ : 0 ≤ (w 134 17).toInt ∧ (w 134 17).toInt ≤ 8 * g 0 := iv_134_17 hI
    have k52_ : (w1 134 17).toInt = (w 134 17).toInt := congrArg Int32.toInt (fr_X10_layTalks a2 w w1 hqw1 134 17 (by omega))
    have k53_ : (w2 134 17).toInt = (w1 134 17).toInt := by rw [ew2, wu_ne (by omega)]
    have k54_ : (w3 134 17).toInt = (w2 134 17).toInt := by rw [ew3, wu_ne (by omega)]
    have k55_ : (w4 134 17).toInt = (w3 134 17).toInt := by rw [ew4, wu_ne (by omega)]
    have h56_ : 0 ≤ (v19 134 17).toInt ∧ (v19 134 17).toInt ≤ 8 * g 0 := iv_134_17 hIv19
    exact sf_some (show (Inv g v19) from hIv19)
