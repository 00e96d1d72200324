/-! THE CELLS' SHAPES: what stands at each place of the object under test (places 0 .. 133), whatever calls came before; ln is the text's length -/
def evP (z o : Nat) (q : va_E) : Prop := ∃ x0 x1 x2 x3 x4 x5 x6 x7 x8 x9 : Int32, q = .inr (2, [.int x0, .int x1, .int x2, .int x3, .int x4, .int x5, .int x6, .int x7, .int x8, .int x9, .ref (z + (o + 1)), .ref (z + (o + 2))])
def evC (G : GT) (z o k : Nat) (q : va_E) : Prop := if k = o then evP z o q else ∃ f : Nat → Int32, q = aI G 6 f
def brP (z b : Nat) (q : va_E) : Prop := ∃ x0 x1 x2 x3 : Int32, q = .inr (0, [.int x0, .int x1, .int x2, .int x3, .ref (z + (b + 1)), .ref (z + (b + 2)), .ref (z + (b + 3)), .ref (z + (b + 4)), .ref (z + (b + 5)), .ref (z + (b + 6))]) ∧ 0 ≤ x2.toInt ∧ x2.toInt ≤ 8 ∧ 0 ≤ x3.toInt ∧ x3.toInt ≤ 6
def brC (G : GT) (z b k : Nat) (q : va_E) : Prop := if k = b then brP z b q else if k ≤ b + 2 then ∃ f : Nat → Int32, q = aI G 8 f else if k ≤ b + 5 then ∃ f : Nat → Int32, q = aI G 6 f else ∃ f : Nat → Int32, q = aI G 256 f
def enP (z b cp : Nat) (q : va_E) : Prop := ∃ x2 : Int32, q = .inr (1, [.ref (z + (b + 1)), .ref (z + (b + 2)), .int x2]) ∧ 0 ≤ x2.toInt ∧ x2.toInt ≤ cp
def enC (G : GT) (z b cp k : Nat) (q : va_E) : Prop := if k = b then enP z b cp q else ∃ f : Nat → Int32, q = aI G cp f
def imP (z o : Nat) (q : va_E) : Prop := ∃ x1 x2 : Int32, q = .inr (3, [.ref (z + (o + 1)), .int x1, .int x2]) ∧ 0 ≤ x2.toInt ∧ x2.toInt ≤ 1
def cP (G : GT) (z : Nat) (ln : Int) (k : Nat) (q : va_E) : Prop :=
  if k = 0 then ∃ (b b2 : Nat) (x10 x11 : Int32), ((b = 112 ∧ b2 = 119) ∨ (b = 119 ∧ b2 = 112)) ∧ q = .inr (8, [.ref (z + 1), .ref (z + 3), .ref (z + 6), .ref (z + 98), .ref (z + 99), .ref (z + 101), .ref (z + 106), .ref (z + 109), .ref (z + b), .ref (z + b2), .int x10, .int x11])
  else if k = 1 then ∃ x1 x2 x3 x4 : Int32, q = .inr (6, [.ref (z + 2), .int x1, .int x2, .int x3, .int x4]) ∧ x1.toInt = ln ∧ 0 ≤ ln ∧ ln ≤ 240
  else if k = 2 then ∃ f : Nat → Int32, q = aI G 240 f
  else if k ≤ 5 then evC G z 3 k q
  else if k = 6 then ∃ x1 x2 : Int32, q = .inr (5, [.ref (z + 7), .int x1, .int x2]) ∧ 0 ≤ x1.toInt ∧ x1.toInt ≤ 30 ∧ 0 ≤ x2.toInt ∧ x2.toInt ≤ 29
  else if k = 7 then ∃ f : Nat → Option Nat, q = aE G 30 f ∧ ∀ i, i < 30 → f i = some (z + (8 + 3 * i))
  else if k < 98 then evC G z (8 + 3 * ((k - 8) / 3)) k q
  else if k = 98 then ∃ f : Nat → Option Nat, q = aM G 2 f ∧ f 0 = some (z + 126) ∧ f 1 = some (z + 130)
  else if k = 99 then ∃ x1 x2 x3 : Int32, q = .inr (7, [.ref (z + 100), .int x1, .int x2, .int x3])
  else if k = 100 then ∃ f : Nat → Int32, q = aI G 256 f
  else if k = 101 then ∃ x4 x5 x6 : Int32, q = .inr (4, [.ref (z + 102), .ref (z + 103), .ref (z + 104), .ref (z + 105), .int x4, .int x5, .int x6]) ∧ 0 ≤ x4.toInt ∧ x4.toInt ≤ 6
  else if k = 102 then ∃ f : Nat → Int32, q = aI G 6 f ∧ ∀ i, i < 6 → 0 ≤ (f i).toInt ∧ (f i).toInt ≤ 5
  else if k ≤ 105 then ∃ f : Nat → Int32, q = aI G 6 f
  else if k ≤ 108 then enC G z 106 6 k q
  else if k ≤ 111 then enC G z 109 20 k q
  else if k ≤ 118 then brC G z 112 k q
  else if k ≤ 125 then brC G z 119 k q
  else if k = 126 then imP z 126 q
  else if k ≤ 129 then evC G z 127 k q
  else if k = 130 then imP z 130 q
  else evC G z 131 k q
def TyC (G : GT) (z : Nat) (ln : Int) (u : HpT) : Prop := ∀ k, k < 134 → ∃ q, u k = some q ∧ cP G z ln k q
/-- .. and nothing of the other side has changed since u0 -/
def TC (G : GT) (z : Nat) (ln : Int) (u0 u : HpT) : Prop := TyC G z ln u ∧ ∀ k, 134 ≤ k → u k = u0 k
def BrO (b : Nat) : Prop := b = 112 ∨ b = 119
def EvO (o : Nat) : Prop := o = 3 ∨ o = 127 ∨ o = 131 ∨ ∃ i, i < 30 ∧ o = 8 + 3 * i
def EnO (b cp : Nat) : Prop := (b = 106 ∧ cp = 6) ∨ (b = 109 ∧ cp = 20)
section TYS
variable {G : GT} {z : Nat} {ln : Int} {u0 u : HpT}
theorem TC.rf (h : TyC G z ln u) : TC G z ln u u := ⟨h, fun _ _ => rfl⟩
theorem TC.tr {ln2 : Int} {u1 : HpT} (h : TC G z ln u0 u) (h2 : TC G z ln2 u u1) : TC G z ln2 u0 u1 := ⟨h2.1, fun k hk => (h2.2 k hk).trans (h.2 k hk)⟩
theorem TC.up (h : TC G z ln u0 u) (k : Nat) (hk : k < 134) {q : va_E} (hq : cP G z ln k q) : TC G z ln u0 (hup u k q) := by
  refine ⟨fun j hj => ?_, fun j hj => ?_⟩
  · by_cases e : j = k
    · subst e
      exact ⟨q, hup_s _ _ _, hq⟩
    · rw [hup_n e]
      exact h.1 j hj
  · rw [hup_n (by omega)]
    exact h.2 j hj
theorem TC.upL {ln2 : Int} (h : TC G z ln u0 u) {q : va_E} (hq : cP G z ln2 1 q) : TC G z ln2 u0 (hup u 1 q) := by
  refine ⟨fun j hj => ?_, fun j hj => ?_⟩
  · by_cases e : j = 1
    · subst e
      exact ⟨q, hup_s _ _ _, hq⟩
    · rw [hup_n e]
      obtain ⟨q2, h1, h2⟩ := h.1 j hj
      refine ⟨q2, h1, ?_⟩
      unfold cP at h2 ⊢
      rw [if_neg e] at h2 ⊢
      exact h2
  · rw [hup_n (by omega)]
    exact h.2 j hj
theorem ty_0 (h : TC G z ln u0 u) : ∃ (b b2 : Nat) (x10 x11 : Int32), BrO b ∧ BrO b2 ∧ ((b = 112 ∧ b2 = 119) ∨ (b = 119 ∧ b2 = 112)) ∧ u 0 = some (.inr (8, [.ref (z + 1), .ref (z + 3), .ref (z + 6), .ref (z + 98), .ref (z + 99), .ref (z + 101), .ref (z + 106), .ref (z + 109), .ref (z + b), .ref (z + b2), .int x10, .int x11])) := by
  obtain ⟨q, h, hc⟩ := h.1 0 (by decide)
  unfold cP at hc
  rw [if_pos rfl] at hc
  obtain ⟨b, b2, x10, x11, h1, rfl⟩ := hc
  exact ⟨b, b2, x10, x11, by unfold BrO; omega, by unfold BrO; omega, h1, h⟩
theorem ty_1 (h : TC G z ln u0 u) : ∃ x1 x2 x3 x4 : Int32, u 1 = some (.inr (6, [.ref (z + 2), .int x1, .int x2, .int x3, .int x4])) ∧ x1.toInt = ln ∧ 0 ≤ ln ∧ ln ≤ 240 := by
  obtain ⟨q, h, hc⟩ := h.1 1 (by decide)
  unfold cP at hc
  repeat (first | rw [if_neg (by decide)] at hc | rw [if_pos (by decide)] at hc)
  obtain ⟨x1, x2, x3, x4, rfl, hr⟩ := hc
  exact ⟨x1, x2, x3, x4, h, hr⟩
theorem TC.up_1 (h : TC G z ln u0 u) {x1 x2 x3 x4 : Int32} (hr : x1.toInt = ln ∧ 0 ≤ ln ∧ ln ≤ 240) : TC G z ln u0 (hup u 1 (.inr (6, [.ref (z + 2), .int x1, .int x2, .int x3, .int x4]))) := by
  refine h.up 1 (by decide) ?_
  unfold cP
  repeat (first | rw [if_neg (by decide)] | rw [if_pos (by decide)])
  exact ⟨x1, x2, x3, x4, rfl, hr⟩
theorem ty_2 (h : TC G z ln u0 u) : ∃ f : Nat → Int32, u 2 = some (aI G 240 f) := by
  obtain ⟨q, h, hc⟩ := h.1 2 (by decide)
  unfold cP at hc
  repeat (first | rw [if_neg (by decide)] at hc | rw [if_pos (by decide)] at hc)
  obtain ⟨f, rfl⟩ := hc
  exact ⟨f, h⟩
theorem TC.up_2 (h : TC G z ln u0 u) {f : Nat → Int32} : TC G z ln u0 (hup u 2 (aI G 240 f)) := by
  refine h.up 2 (by decide) ?_
  unfold cP
  repeat (first | rw [if_neg (by decide)] | rw [if_pos (by decide)])
  exact ⟨f, rfl⟩
theorem ty_6 (h : TC G z ln u0 u) : ∃ x1 x2 : Int32, u 6 = some (.inr (5, [.ref (z + 7), .int x1, .int x2])) ∧ 0 ≤ x1.toInt ∧ x1.toInt ≤ 30 ∧ 0 ≤ x2.toInt ∧ x2.toInt ≤ 29 := by
  obtain ⟨q, h, hc⟩ := h.1 6 (by decide)
  unfold cP at hc
  repeat (first | rw [if_neg (by decide)] at hc | rw [if_pos (by decide)] at hc)
  obtain ⟨x1, x2, rfl, hr⟩ := hc
  exact ⟨x1, x2, h, hr⟩
theorem TC.up_6 (h : TC G z ln u0 u) {x1 x2 : Int32} (hr : 0 ≤ x1.toInt ∧ x1.toInt ≤ 30 ∧ 0 ≤ x2.toInt ∧ x2.toInt ≤ 29) : TC G z ln u0 (hup u 6 (.inr (5, [.ref (z + 7), .int x1, .int x2]))) := by
  refine h.up 6 (by decide) ?_
  unfold cP
  repeat (first | rw [if_neg (by decide)] | rw [if_pos (by decide)])
  exact ⟨x1, x2, rfl, hr⟩
theorem ty_7 (h : TC G z ln u0 u) : ∃ f : Nat → Option Nat, u 7 = some (aE G 30 f) ∧ ∀ i, i < 30 → f i = some (z + (8 + 3 * i)) := by
  obtain ⟨q, h, hc⟩ := h.1 7 (by decide)
  unfold cP at hc
  repeat (first | rw [if_neg (by decide)] at hc | rw [if_pos (by decide)] at hc)
  obtain ⟨f, rfl, hr⟩ := hc
  exact ⟨f, h, hr⟩
theorem TC.up_7 (h : TC G z ln u0 u) {f : Nat → Option Nat} (hr : ∀ i, i < 30 → f i = some (z + (8 + 3 * i))) : TC G z ln u0 (hup u 7 (aE G 30 f)) := by
  refine h.up 7 (by decide) ?_
  unfold cP
  repeat (first | rw [if_neg (by decide)] | rw [if_pos (by decide)])
  exact ⟨f, rfl, hr⟩
theorem ty_98 (h : TC G z ln u0 u) : ∃ f : Nat → Option Nat, u 98 = some (aM G 2 f) ∧ f 0 = some (z + 126) ∧ f 1 = some (z + 130) := by
  obtain ⟨q, h, hc⟩ := h.1 98 (by decide)
  unfold cP at hc
  repeat (first | rw [if_neg (by decide)] at hc | rw [if_pos (by decide)] at hc)
  obtain ⟨f, rfl, hr⟩ := hc
  exact ⟨f, h, hr⟩
theorem TC.up_98 (h : TC G z ln u0 u) {f : Nat → Option Nat} (hr : f 0 = some (z + 126) ∧ f 1 = some (z + 130)) : TC G z ln u0 (hup u 98 (aM G 2 f)) := by
  refine h.up 98 (by decide) ?_
  unfold cP
  repeat (first | rw [if_neg (by decide)] | rw [if_pos (by decide)])
  exact ⟨f, rfl, hr⟩
theorem ty_99 (h : TC G z ln u0 u) : ∃ x1 x2 x3 : Int32, u 99 = some (.inr (7, [.ref (z + 100), .int x1, .int x2, .int x3])) := by
  obtain ⟨q, h, hc⟩ := h.1 99 (by decide)
  unfold cP at hc
  repeat (first | rw [if_neg (by decide)] at hc | rw [if_pos (by decide)] at hc)
  obtain ⟨x1, x2, x3, rfl⟩ := hc
  exact ⟨x1, x2, x3, h⟩
theorem TC.up_99 (h : TC G z ln u0 u) {x1 x2 x3 : Int32} : TC G z ln u0 (hup u 99 (.inr (7, [.ref (z + 100), .int x1, .int x2, .int x3]))) := by
  refine h.up 99 (by decide) ?_
  unfold cP
  repeat (first | rw [if_neg (by decide)] | rw [if_pos (by decide)])
  exact ⟨x1, x2, x3, rfl⟩
theorem ty_100 (h : TC G z ln u0 u) : ∃ f : Nat → Int32, u 100 = some (aI G 256 f) := by
  obtain ⟨q, h, hc⟩ := h.1 100 (by decide)
  unfold cP at hc
  repeat (first | rw [if_neg (by decide)] at hc | rw [if_pos (by decide)] at hc)
  obtain ⟨f, rfl⟩ := hc
  exact ⟨f, h⟩
theorem TC.up_100 (h : TC G z ln u0 u) {f : Nat → Int32} : TC G z ln u0 (hup u 100 (aI G 256 f)) := by
  refine h.up 100 (by decide) ?_
  unfold cP
  repeat (first | rw [if_neg (by decide)] | rw [if_pos (by decide)])
  exact ⟨f, rfl⟩
theorem ty_101 (h : TC G z ln u0 u) : ∃ x4 x5 x6 : Int32, u 101 = some (.inr (4, [.ref (z + 102), .ref (z + 103), .ref (z + 104), .ref (z + 105), .int x4, .int x5, .int x6])) ∧ 0 ≤ x4.toInt ∧ x4.toInt ≤ 6 := by
  obtain ⟨q, h, hc⟩ := h.1 101 (by decide)
  unfold cP at hc
  repeat (first | rw [if_neg (by decide)] at hc | rw [if_pos (by decide)] at hc)
  obtain ⟨x4, x5, x6, rfl, hr⟩ := hc
  exact ⟨x4, x5, x6, h, hr⟩
theorem TC.up_101 (h : TC G z ln u0 u) {x4 x5 x6 : Int32} (hr : 0 ≤ x4.toInt ∧ x4.toInt ≤ 6) : TC G z ln u0 (hup u 101 (.inr (4, [.ref (z + 102), .ref (z + 103), .ref (z + 104), .ref (z + 105), .int x4, .int x5, .int x6]))) := by
  refine h.up 101 (by decide) ?_
  unfold cP
  repeat (first | rw [if_neg (by decide)] | rw [if_pos (by decide)])
  exact ⟨x4, x5, x6, rfl, hr⟩
theorem ty_102 (h : TC G z ln u0 u) : ∃ f : Nat → Int32, u 102 = some (aI G 6 f) ∧ ∀ i, i < 6 → 0 ≤ (f i).toInt ∧ (f i).toInt ≤ 5 := by
  obtain ⟨q, h, hc⟩ := h.1 102 (by decide)
  unfold cP at hc
  repeat (first | rw [if_neg (by decide)] at hc | rw [if_pos (by decide)] at hc)
  obtain ⟨f, rfl, hr⟩ := hc
  exact ⟨f, h, hr⟩
theorem TC.up_102 (h : TC G z ln u0 u) {f : Nat → Int32} (hr : ∀ i, i < 6 → 0 ≤ (f i).toInt ∧ (f i).toInt ≤ 5) : TC G z ln u0 (hup u 102 (aI G 6 f)) := by
  refine h.up 102 (by decide) ?_
  unfold cP
  repeat (first | rw [if_neg (by decide)] | rw [if_pos (by decide)])
  exact ⟨f, rfl, hr⟩
theorem ty_103 (h : TC G z ln u0 u) : ∃ f : Nat → Int32, u 103 = some (aI G 6 f) := by
  obtain ⟨q, h, hc⟩ := h.1 103 (by decide)
  unfold cP at hc
  repeat (first | rw [if_neg (by decide)] at hc | rw [if_pos (by decide)] at hc)
  obtain ⟨f, rfl⟩ := hc
  exact ⟨f, h⟩
theorem TC.up_103 (h : TC G z ln u0 u) {f : Nat → Int32} : TC G z ln u0 (hup u 103 (aI G 6 f)) := by
  refine h.up 103 (by decide) ?_
  unfold cP
  repeat (first | rw [if_neg (by decide)] | rw [if_pos (by decide)])
  exact ⟨f, rfl⟩
theorem ty_104 (h : TC G z ln u0 u) : ∃ f : Nat → Int32, u 104 = some (aI G 6 f) := by
  obtain ⟨q, h, hc⟩ := h.1 104 (by decide)
  unfold cP at hc
  repeat (first | rw [if_neg (by decide)] at hc | rw [if_pos (by decide)] at hc)
  obtain ⟨f, rfl⟩ := hc
  exact ⟨f, h⟩
theorem TC.up_104 (h : TC G z ln u0 u) {f : Nat → Int32} : TC G z ln u0 (hup u 104 (aI G 6 f)) := by
  refine h.up 104 (by decide) ?_
  unfold cP
  repeat (first | rw [if_neg (by decide)] | rw [if_pos (by decide)])
  exact ⟨f, rfl⟩
theorem ty_105 (h : TC G z ln u0 u) : ∃ f : Nat → Int32, u 105 = some (aI G 6 f) := by
  obtain ⟨q, h, hc⟩ := h.1 105 (by decide)
  unfold cP at hc
  repeat (first | rw [if_neg (by decide)] at hc | rw [if_pos (by decide)] at hc)
  obtain ⟨f, rfl⟩ := hc
  exact ⟨f, h⟩
theorem TC.up_105 (h : TC G z ln u0 u) {f : Nat → Int32} : TC G z ln u0 (hup u 105 (aI G 6 f)) := by
  refine h.up 105 (by decide) ?_
  unfold cP
  repeat (first | rw [if_neg (by decide)] | rw [if_pos (by decide)])
  exact ⟨f, rfl⟩
theorem TC.up_0 (h : TC G z ln u0 u) {b b2 : Nat} {x10 x11 : Int32} (hb : (b = 112 ∧ b2 = 119) ∨ (b = 119 ∧ b2 = 112)) : TC G z ln u0 (hup u 0 (.inr (8, [.ref (z + 1), .ref (z + 3), .ref (z + 6), .ref (z + 98), .ref (z + 99), .ref (z + 101), .ref (z + 106), .ref (z + 109), .ref (z + b), .ref (z + b2), .int x10, .int x11]))) := by
  refine h.up 0 (by decide) ?_
  unfold cP
  rw [if_pos rfl]
  exact ⟨b, b2, x10, x11, hb, rfl⟩
theorem cP_ev {o j : Nat} (ho : EvO o) (hj : j ≤ 2) {q : va_E} : o + j < 134 ∧ (cP G z ln (o + j) q ↔ evC G z o (o + j) q) := by
  rcases ho with rfl | rfl | rfl | ⟨i, hi, rfl⟩
  · refine ⟨by omega, ?_⟩
    unfold cP
    repeat (first | rw [if_neg (by omega)] | rw [if_pos (by omega)])
  · refine ⟨by omega, ?_⟩
    unfold cP
    repeat (first | rw [if_neg (by omega)] | rw [if_pos (by omega)])
  · refine ⟨by omega, ?_⟩
    unfold cP
    repeat (first | rw [if_neg (by omega)] | rw [if_pos (by omega)])
  · refine ⟨by omega, ?_⟩
    unfold cP
    repeat (first | rw [if_neg (by omega)] | rw [if_pos (by omega)])
    rw [show 8 + 3 * ((8 + 3 * i + j - 8) / 3) = 8 + 3 * i by omega]
theorem ty_ev (h : TC G z ln u0 u) {o : Nat} (ho : EvO o) : ∃ x0 x1 x2 x3 x4 x5 x6 x7 x8 x9 : Int32, u o = some (.inr (2, [.int x0, .int x1, .int x2, .int x3, .int x4, .int x5, .int x6, .int x7, .int x8, .int x9, .ref (z + (o + 1)), .ref (z + (o + 2))])) := by
  have k1 := fun q => cP_ev (G := G) (z := z) (ln := ln) (j := 0) ho (by decide) (q := q)
  obtain ⟨q, h, hc⟩ := h.1 o (k1 (.inr (0, []))).1
  have h2 := (k1 q).2.mp hc
  unfold evC at h2
  rw [if_pos (by omega)] at h2
  obtain ⟨x0, x1, x2, x3, x4, x5, x6, x7, x8, x9, rfl⟩ := h2
  exact ⟨x0, x1, x2, x3, x4, x5, x6, x7, x8, x9, h⟩
theorem ty_evA (h : TC G z ln u0 u) {o : Nat} (ho : EvO o) (j : Nat) (hj : j ≤ 2) (h0 : 0 < j) : ∃ f : Nat → Int32, u (o + j) = some (aI G 6 f) := by
  have k1 := fun q => cP_ev (G := G) (z := z) (ln := ln) (j := j) ho hj (q := q)
  obtain ⟨q, h, hc⟩ := h.1 (o + j) (k1 (.inr (0, []))).1
  have h2 := (k1 q).2.mp hc
  unfold evC at h2
  rw [if_neg (by omega)] at h2
  obtain ⟨f, rfl⟩ := h2
  exact ⟨f, h⟩
theorem TC.upEv (h : TC G z ln u0 u) {o : Nat} (ho : EvO o) {x0 x1 x2 x3 x4 x5 x6 x7 x8 x9 : Int32} : TC G z ln u0 (hup u o (.inr (2, [.int x0, .int x1, .int x2, .int x3, .int x4, .int x5, .int x6, .int x7, .int x8, .int x9, .ref (z + (o + 1)), .ref (z + (o + 2))]))) := by
  have k1 := fun q => cP_ev (G := G) (z := z) (ln := ln) (j := 0) ho (by decide) (q := q)
  refine h.up o (k1 (.inr (0, []))).1 ((k1 _).2.mpr ?_)
  unfold evC
  rw [if_pos (by omega)]
  exact ⟨x0, x1, x2, x3, x4, x5, x6, x7, x8, x9, rfl⟩
theorem TC.upEvA (h : TC G z ln u0 u) {o : Nat} (ho : EvO o) (j : Nat) (hj : j ≤ 2) (h0 : 0 < j) {f : Nat → Int32} : TC G z ln u0 (hup u (o + j) (aI G 6 f)) := by
  have k1 := fun q => cP_ev (G := G) (z := z) (ln := ln) (j := j) ho hj (q := q)
  refine h.up (o + j) (k1 (.inr (0, []))).1 ((k1 _).2.mpr ?_)
  unfold evC
  rw [if_neg (by omega)]
  exact ⟨f, rfl⟩
theorem cP_br {b j : Nat} (hb : BrO b) (hj : j ≤ 6) {q : va_E} : b + j < 134 ∧ (cP G z ln (b + j) q ↔ brC G z b (b + j) q) := by
  rcases hb with rfl | rfl
  · refine ⟨by omega, ?_⟩
    unfold cP
    repeat (first | rw [if_neg (by omega)] | rw [if_pos (by omega)])
  · refine ⟨by omega, ?_⟩
    unfold cP
    repeat (first | rw [if_neg (by omega)] | rw [if_pos (by omega)])
theorem ty_br (h : TC G z ln u0 u) {b : Nat} (hb : BrO b) : ∃ x0 x1 x2 x3 : Int32, u b = some (.inr (0, [.int x0, .int x1, .int x2, .int x3, .ref (z + (b + 1)), .ref (z + (b + 2)), .ref (z + (b + 3)), .ref (z + (b + 4)), .ref (z + (b + 5)), .ref (z + (b + 6))])) ∧ 0 ≤ x2.toInt ∧ x2.toInt ≤ 8 ∧ 0 ≤ x3.toInt ∧ x3.toInt ≤ 6 := by
  have k1 := fun q => cP_br (G := G) (z := z) (ln := ln) (j := 0) hb (by decide) (q := q)
  obtain ⟨q, h, hc⟩ := h.1 b (k1 (.inr (0, []))).1
  have h2 := (k1 q).2.mp hc
  unfold brC at h2
  rw [if_pos (by omega)] at h2
  obtain ⟨x0, x1, x2, x3, rfl, hr⟩ := h2
  exact ⟨x0, x1, x2, x3, h, hr⟩
theorem TC.upBr (h : TC G z ln u0 u) {b : Nat} (hb : BrO b) {x0 x1 x2 x3 : Int32} (h1 : 0 ≤ x2.toInt ∧ x2.toInt ≤ 8 ∧ 0 ≤ x3.toInt ∧ x3.toInt ≤ 6) : TC G z ln u0 (hup u b (.inr (0, [.int x0, .int x1, .int x2, .int x3, .ref (z + (b + 1)), .ref (z + (b + 2)), .ref (z + (b + 3)), .ref (z + (b + 4)), .ref (z + (b + 5)), .ref (z + (b + 6))]))) := by
  have k1 := fun q => cP_br (G := G) (z := z) (ln := ln) (j := 0) hb (by decide) (q := q)
  refine h.up b (k1 (.inr (0, []))).1 ((k1 _).2.mpr ?_)
  unfold brC
  rw [if_pos (by omega)]
  exact ⟨x0, x1, x2, x3, rfl, h1⟩
theorem brC_arr {b j n : Nat} (hn : (1 ≤ j ∧ j ≤ 2 ∧ n = 8) ∨ (3 ≤ j ∧ j ≤ 5 ∧ n = 6) ∨ (j = 6 ∧ n = 256)) {q : va_E} : brC G z b (b + j) q ↔ ∃ f : Nat → Int32, q = aI G n f := by
  unfold brC
  rcases hn with ⟨h1, h2, rfl⟩ | ⟨h1, h2, rfl⟩ | ⟨rfl, rfl⟩
  · rw [if_neg (by omega), if_pos (by omega)]
  · rw [if_neg (by omega), if_neg (by omega), if_pos (by omega)]
  · rw [if_neg (by omega), if_neg (by omega), if_neg (by omega)]
theorem ty_brA (h : TC G z ln u0 u) {b : Nat} (hb : BrO b) (j n : Nat) (hn : (1 ≤ j ∧ j ≤ 2 ∧ n = 8) ∨ (3 ≤ j ∧ j ≤ 5 ∧ n = 6) ∨ (j = 6 ∧ n = 256)) : ∃ f : Nat → Int32, u (b + j) = some (aI G n f) := by
  have k1 := fun q => cP_br (G := G) (z := z) (ln := ln) (j := j) hb (by omega) (q := q)
  obtain ⟨q, h, hc⟩ := h.1 (b + j) (k1 (.inr (0, []))).1
  obtain ⟨f, rfl⟩ := (brC_arr hn).mp ((k1 q).2.mp hc)
  exact ⟨f, h⟩
theorem TC.upBrA (h : TC G z ln u0 u) {b : Nat} (hb : BrO b) (j n : Nat) (hn : (1 ≤ j ∧ j ≤ 2 ∧ n = 8) ∨ (3 ≤ j ∧ j ≤ 5 ∧ n = 6) ∨ (j = 6 ∧ n = 256)) {f : Nat → Int32} : TC G z ln u0 (hup u (b + j) (aI G n f)) := by
  have k1 := fun q => cP_br (G := G) (z := z) (ln := ln) (j := j) hb (by omega) (q := q)
  exact h.up (b + j) (k1 (.inr (0, []))).1 ((k1 _).2.mpr ((brC_arr hn).mpr ⟨f, rfl⟩))
theorem cP_en {b cp j : Nat} (hb : EnO b cp) (hj : j ≤ 2) {q : va_E} : b + j < 134 ∧ (cP G z ln (b + j) q ↔ enC G z b cp (b + j) q) := by
  rcases hb with ⟨rfl, rfl⟩ | ⟨rfl, rfl⟩
  · refine ⟨by omega, ?_⟩
    unfold cP
    repeat (first | rw [if_neg (by omega)] | rw [if_pos (by omega)])
  · refine ⟨by omega, ?_⟩
    unfold cP
    repeat (first | rw [if_neg (by omega)] | rw [if_pos (by omega)])
theorem ty_en (h : TC G z ln u0 u) {b cp : Nat} (hb : EnO b cp) : ∃ x2 : Int32, u b = some (.inr (1, [.ref (z + (b + 1)), .ref (z + (b + 2)), .int x2])) ∧ 0 ≤ x2.toInt ∧ x2.toInt ≤ cp := by
  have k1 := fun q => cP_en (G := G) (z := z) (ln := ln) (j := 0) hb (by decide) (q := q)
  obtain ⟨q, h, hc⟩ := h.1 b (k1 (.inr (0, []))).1
  have h2 := (k1 q).2.mp hc
  unfold enC at h2
  rw [if_pos (by omega)] at h2
  obtain ⟨x2, rfl, hr⟩ := h2
  exact ⟨x2, h, hr⟩
theorem TC.upEn (h : TC G z ln u0 u) {b cp : Nat} (hb : EnO b cp) {x2 : Int32} (h1 : 0 ≤ x2.toInt ∧ x2.toInt ≤ cp) : TC G z ln u0 (hup u b (.inr (1, [.ref (z + (b + 1)), .ref (z + (b + 2)), .int x2]))) := by
  have k1 := fun q => cP_en (G := G) (z := z) (ln := ln) (j := 0) hb (by decide) (q := q)
  refine h.up b (k1 (.inr (0, []))).1 ((k1 _).2.mpr ?_)
  unfold enC
  rw [if_pos (by omega)]
  exact ⟨x2, rfl, h1⟩
theorem ty_enA (h : TC G z ln u0 u) {b cp : Nat} (hb : EnO b cp) (j : Nat) (hj : j ≤ 2) (h0 : 0 < j) : ∃ f : Nat → Int32, u (b + j) = some (aI G cp f) := by
  have k1 := fun q => cP_en (G := G) (z := z) (ln := ln) (j := j) hb hj (q := q)
  obtain ⟨q, h, hc⟩ := h.1 (b + j) (k1 (.inr (0, []))).1
  have h2 := (k1 q).2.mp hc
  unfold enC at h2
  rw [if_neg (by omega)] at h2
  obtain ⟨f, rfl⟩ := h2
  exact ⟨f, h⟩
theorem TC.upEnA (h : TC G z ln u0 u) {b cp : Nat} (hb : EnO b cp) (j : Nat) (hj : j ≤ 2) (h0 : 0 < j) {f : Nat → Int32} : TC G z ln u0 (hup u (b + j) (aI G cp f)) := by
  have k1 := fun q => cP_en (G := G) (z := z) (ln := ln) (j := j) hb hj (q := q)
  refine h.up (b + j) (k1 (.inr (0, []))).1 ((k1 _).2.mpr ?_)
  unfold enC
  rw [if_neg (by omega)]
  exact ⟨f, rfl⟩
theorem ty_im (h : TC G z ln u0 u) {o : Nat} (ho : o = 126 ∨ o = 130) : ∃ x1 x2 : Int32, u o = some (.inr (3, [.ref (z + (o + 1)), .int x1, .int x2])) ∧ 0 ≤ x2.toInt ∧ x2.toInt ≤ 1 := by
  rcases ho with rfl | rfl
  · obtain ⟨q, h, hc⟩ := h.1 126 (by decide)
    obtain ⟨x1, x2, rfl, hr⟩ := (show imP z 126 q from hc)
    exact ⟨x1, x2, h, hr⟩
  · obtain ⟨q, h, hc⟩ := h.1 130 (by decide)
    obtain ⟨x1, x2, rfl, hr⟩ := (show imP z 130 q from hc)
    exact ⟨x1, x2, h, hr⟩
theorem TC.upIm (h : TC G z ln u0 u) {o : Nat} (ho : o = 126 ∨ o = 130) {x1 x2 : Int32} (h1 : 0 ≤ x2.toInt ∧ x2.toInt ≤ 1) : TC G z ln u0 (hup u o (.inr (3, [.ref (z + (o + 1)), .int x1, .int x2]))) := by
  rcases ho with rfl | rfl
  · exact h.up 126 (by decide) (show imP z 126 _ from ⟨x1, x2, rfl, h1⟩)
  · exact h.up 130 (by decide) (show imP z 130 _ from ⟨x1, x2, rfl, h1⟩)
theorem ev_im {o : Nat} (h : o = 126 ∨ o = 130) : EvO (o + 1) := by
  rcases h with rfl | rfl
  · exact Or.inr (Or.inl rfl)
  · exact Or.inr (Or.inr (Or.inl rfl))
def TCK (G : GT) (z : Nat) (ln : Int) (u0 u : HpT) : Prop := TC G z ln u0 u ∧ ∀ k, k ≠ 99 → k ≠ 100 → u k = u0 k
theorem TCK.rf (h : TyC G z ln u) : TCK G z ln u u := ⟨TC.rf h, fun _ _ _ => rfl⟩
theorem TCK.tr {u1 : HpT} (h : TCK G z ln u0 u) (h2 : TCK G z ln u u1) : TCK G z ln u0 u1 := ⟨h.1.tr h2.1, fun k h3 h4 => (h2.2 k h3 h4).trans (h.2 k h3 h4)⟩
theorem TCK.up_99 (h : TCK G z ln u0 u) {x1 x2 x3 : Int32} : TCK G z ln u0 (hup u 99 (.inr (7, [.ref (z + 100), .int x1, .int x2, .int x3]))) := ⟨h.1.up_99, fun k h3 h4 => by rw [hup_n h3]; exact h.2 k h3 h4⟩
theorem TCK.up_100 (h : TCK G z ln u0 u) {f : Nat → Int32} : TCK G z ln u0 (hup u 100 (aI G 256 f)) := ⟨h.1.up_100, fun k h3 h4 => by rw [hup_n h4]; exact h.2 k h3 h4⟩
def atOf (u : HpT) : Int32 := match u 1 with
  | some (.inr (_, [_, _, .int x, _, _])) => x
  | _ => 0
theorem atOf_eq {a : Nat} {x1 x2 x3 x4 : Int32} (h : u 1 = some (.inr (6, [.ref a, .int x1, .int x2, .int x3, .int x4]))) : atOf u = x2 := by
  unfold atOf
  rw [h]
def szOf (u : HpT) : Int32 := match u 101 with
  | some (.inr (_, [_, _, _, _, .int x, _, _])) => x
  | _ => 0
theorem szOf_eq {a b c d : Nat} {x4 x5 x6 : Int32} (h : u 101 = some (.inr (4, [.ref a, .ref b, .ref c, .ref d, .int x4, .int x5, .int x6]))) : szOf u = x4 := by
  unfold szOf
  rw [h]
end TYS
