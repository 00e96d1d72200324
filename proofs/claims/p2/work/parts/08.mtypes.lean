/-! THE OTHER SIDE'S SHAPES: places 134 .. 156; g 0: whether a bridge stands (0, 1), g 1, g 2: which images are kept, g 3: the text's length -/
def mP (G : GT) (z : Nat) (g : Nat → Int) (k : Nat) (q : va_E) : Prop :=
  if k = 134 then ∃ (x0 : Int32) (x2 : Int32) (x3 : Int32) (x4 : Int32) (x5 : Int32) (x6 : Int32) (x7 : Int32) (x8 : Int32) (x9 : Int32) (x15 : Int32) (x16 : Int32) (x17 : Int32) (x18 : Int32) (x25 : Int32) (x26 : Int32) (x28 : Int64) (x30 : Int32) (x31 : Int32) (x32 : Int32) (x34 : Int32) (x37 : Int32), q = (.inr (9, [.int x0, .ref (z + 135), .int x2, .int x3, .int x4, .int x5, .int x6, .int x7, .int x8, .int x9, .ref (z + 136), .ref (z + 137), .ref (z + 138), .ref (z + 139), .ref (z + 140), .int x15, .int x16, .int x17, .int x18, .ref (z + 141), .ref (z + 142), .ref (z + 143), .ref (z + 144), .ref (z + 145), .ref (z + 146), .int x25, .int x26, .ref (z + 147), .long x28, .ref (z + 148), .int x30, .int x31, .int x32, .ref (z + 149), .int x34, .ref (z + 150), .ref (z + 151), .int x37, .ref (z + 152), .ref (z + 153), .ref (z + 154), .ref (z + 155), .ref (z + 156)])) ∧ x0.toInt = g 3 ∧ 0 ≤ g 3 ∧ g 3 ≤ 240 ∧ 0 ≤ x2.toInt ∧ x2.toInt ≤ 241 ∧ 0 ≤ x8.toInt ∧ x8.toInt ≤ 8 ∧ 0 ≤ x9.toInt ∧ x9.toInt ≤ 6 ∧ g 0 ≤ x15.toInt ∧ x15.toInt ≤ 60 * g 0 ∧ g 0 ≤ x16.toInt ∧ x16.toInt ≤ 9 * g 0 ∧ 0 ≤ x17.toInt ∧ x17.toInt ≤ 8 * g 0 ∧ 0 ≤ x18.toInt ∧ x18.toInt ≤ 6 * g 0 ∧ 0 ≤ x25.toInt ∧ x25.toInt ≤ 30 * g 0 ∧ 0 ≤ x26.toInt ∧ x26.toInt ≤ 29 ∧ 0 ≤ x28.toInt ∧ x28.toInt ≤ 2147483647 ∧ 0 ≤ x34.toInt ∧ x34.toInt ≤ 6 ∧ 0 ≤ x37.toInt ∧ x37.toInt ≤ 20 ∧ 0 ≤ g 0 ∧ g 0 ≤ 1
  else if k = 135 then ∃ f : Nat → Int32, q = aI G 240 f
  else if k = 136 then ∃ f : Nat → Int32, q = aI G 8 f
  else if k = 137 then ∃ f : Nat → Int32, q = aI G 8 f
  else if k = 138 then ∃ f : Nat → Int32, q = aI G 6 f
  else if k = 139 then ∃ f : Nat → Int32, q = aI G 6 f
  else if k = 140 then ∃ f : Nat → Int32, q = aI G 6 f
  else if k = 141 then ∃ f : Nat → Int32, q = aI G 8 f
  else if k = 142 then ∃ f : Nat → Int32, q = aI G 8 f
  else if k = 143 then ∃ f : Nat → Int32, q = aI G 6 f
  else if k = 144 then ∃ f : Nat → Int32, q = aI G 6 f
  else if k = 145 then ∃ f : Nat → Int32, q = aI G 6 f
  else if k = 146 then ∃ f : Nat → Int32, q = aI G 25 f ∧ ∀ j : Nat, j < 25 → (fun (i x : Int) => (i = 4 → -1 ≤ x ∧ x ≤ 6 * g 0 - 1) ∧ (i = 6 → -1 ≤ x ∧ x ≤ 7)) j (f j).toInt
  else if k = 147 then ∃ f : Nat → Int32, q = aI G 750 f ∧ ∀ j : Nat, j < 750 → (fun (i x : Int) => (i % 25 = 4 → -1 ≤ x ∧ x ≤ 5) ∧ (i % 25 = 6 → -1 ≤ x ∧ x ≤ 7)) j (f j).toInt
  else if k = 148 then ∃ f : Nat → Int32, q = aI G 2048 f
  else if k = 149 then ∃ f : Nat → Int32, q = aI G 6 f
  else if k = 150 then ∃ f : Nat → Int32, q = aI G 6 f ∧ ∀ j : Nat, j < 6 → (fun (i x : Int) => 0 ≤ x ∧ x ≤ 5) j (f j).toInt
  else if k = 151 then ∃ f : Nat → Int32, q = aI G 6 f
  else if k = 152 then ∃ f : Nat → Int32, q = aI G 20 f ∧ ∀ j : Nat, j < 20 → (fun (i x : Int) => 0 ≤ x ∧ x ≤ 5) j (f j).toInt
  else if k = 153 then ∃ f : Nat → Int32, q = aI G 20 f
  else if k = 154 then ∃ f : Nat → Int32, q = aZ G 2 f ∧ ∀ j : Nat, j < 2 → (fun (i x : Int) => (i = 0 → x = g 1) ∧ (i = 1 → x = g 2) ∧ 0 ≤ x ∧ x ≤ 1) j (f j).toInt
  else if k = 155 then ∃ f : Nat → Int32, q = aI G 50 f ∧ ∀ j : Nat, j < 50 → (fun (i x : Int) => (i % 25 = 4 → -1 ≤ x ∧ x ≤ 5) ∧ (i % 25 = 6 → -1 ≤ x ∧ x ≤ 7) ∧ (i = 4 → x ≤ 6 * g 0 + 5 - 6 * g 1) ∧ (i = 29 → x ≤ 6 * g 0 + 5 - 6 * g 2)) j (f j).toInt
  else ∃ f : Nat → Int64, q = aL G 2 f ∧ ∀ j : Nat, j < 2 → (fun (i x : Int) => 0 ≤ x ∧ x ≤ 2147483647) j (f j).toInt
def TyN (G : GT) (z : Nat) (g : Nat → Int) (u : HpT) : Prop := ∀ k, 134 ≤ k → k < 157 → ∃ q, u k = some q ∧ mP G z g k q
def TN (G : GT) (z : Nat) (g : Nat → Int) (u0 u : HpT) : Prop := TyN G z g u ∧ ∀ k, k < 134 → u k = u0 k
section TYN
variable {G : GT} {z : Nat} {g : Nat → Int} {u0 u : HpT}
theorem TN.rf (h : TyN G z g u) : TN G z g u u := ⟨h, fun _ _ => rfl⟩
theorem TN.tr {g2 : Nat → Int} {u1 : HpT} (h : TN G z g u0 u) (h2 : TN G z g2 u u1) : TN G z g2 u0 u1 := ⟨h2.1, fun k hk => (h2.2 k hk).trans (h.2 k hk)⟩
theorem TN.up (h : TN G z g u0 u) (k : Nat) (h1 : 134 ≤ k) (hk : k < 157) {q : va_E} (hq : mP G z g k q) : TN G z g u0 (hup u k q) := by
  refine ⟨fun j hj1 hj => ?_, fun j hj => ?_⟩
  · by_cases e : j = k
    · subst e
      exact ⟨q, hup_s _ _ _, hq⟩
    · rw [hup_n e]
      exact h.1 j hj1 hj
  · rw [hup_n (by omega)]
    exact h.2 j hj
theorem tn_134 (h : TN G z g u0 u) : ∃ (x0 : Int32) (x2 : Int32) (x3 : Int32) (x4 : Int32) (x5 : Int32) (x6 : Int32) (x7 : Int32) (x8 : Int32) (x9 : Int32) (x15 : Int32) (x16 : Int32) (x17 : Int32) (x18 : Int32) (x25 : Int32) (x26 : Int32) (x28 : Int64) (x30 : Int32) (x31 : Int32) (x32 : Int32) (x34 : Int32) (x37 : Int32), u 134 = some (.inr (9, [.int x0, .ref (z + 135), .int x2, .int x3, .int x4, .int x5, .int x6, .int x7, .int x8, .int x9, .ref (z + 136), .ref (z + 137), .ref (z + 138), .ref (z + 139), .ref (z + 140), .int x15, .int x16, .int x17, .int x18, .ref (z + 141), .ref (z + 142), .ref (z + 143), .ref (z + 144), .ref (z + 145), .ref (z + 146), .int x25, .int x26, .ref (z + 147), .long x28, .ref (z + 148), .int x30, .int x31, .int x32, .ref (z + 149), .int x34, .ref (z + 150), .ref (z + 151), .int x37, .ref (z + 152), .ref (z + 153), .ref (z + 154), .ref (z + 155), .ref (z + 156)])) ∧ x0.toInt = g 3 ∧ 0 ≤ g 3 ∧ g 3 ≤ 240 ∧ 0 ≤ x2.toInt ∧ x2.toInt ≤ 241 ∧ 0 ≤ x8.toInt ∧ x8.toInt ≤ 8 ∧ 0 ≤ x9.toInt ∧ x9.toInt ≤ 6 ∧ g 0 ≤ x15.toInt ∧ x15.toInt ≤ 60 * g 0 ∧ g 0 ≤ x16.toInt ∧ x16.toInt ≤ 9 * g 0 ∧ 0 ≤ x17.toInt ∧ x17.toInt ≤ 8 * g 0 ∧ 0 ≤ x18.toInt ∧ x18.toInt ≤ 6 * g 0 ∧ 0 ≤ x25.toInt ∧ x25.toInt ≤ 30 * g 0 ∧ 0 ≤ x26.toInt ∧ x26.toInt ≤ 29 ∧ 0 ≤ x28.toInt ∧ x28.toInt ≤ 2147483647 ∧ 0 ≤ x34.toInt ∧ x34.toInt ≤ 6 ∧ 0 ≤ x37.toInt ∧ x37.toInt ≤ 20 ∧ 0 ≤ g 0 ∧ g 0 ≤ 1 := by
  obtain ⟨q, h, hc⟩ := h.1 134 (by decide) (by decide)
  unfold mP at hc
  repeat (first | rw [if_neg (by decide)] at hc | rw [if_pos (by decide)] at hc)
  obtain ⟨x0, x2, x3, x4, x5, x6, x7, x8, x9, x15, x16, x17, x18, x25, x26, x28, x30, x31, x32, x34, x37, rfl, hr⟩ := hc
  exact ⟨x0, x2, x3, x4, x5, x6, x7, x8, x9, x15, x16, x17, x18, x25, x26, x28, x30, x31, x32, x34, x37, h, hr⟩
theorem TN.up_134 (h : TN G z g u0 u) {x0 : Int32} {x2 : Int32} {x3 : Int32} {x4 : Int32} {x5 : Int32} {x6 : Int32} {x7 : Int32} {x8 : Int32} {x9 : Int32} {x15 : Int32} {x16 : Int32} {x17 : Int32} {x18 : Int32} {x25 : Int32} {x26 : Int32} {x28 : Int64} {x30 : Int32} {x31 : Int32} {x32 : Int32} {x34 : Int32} {x37 : Int32} (hr : x0.toInt = g 3 ∧ 0 ≤ g 3 ∧ g 3 ≤ 240 ∧ 0 ≤ x2.toInt ∧ x2.toInt ≤ 241 ∧ 0 ≤ x8.toInt ∧ x8.toInt ≤ 8 ∧ 0 ≤ x9.toInt ∧ x9.toInt ≤ 6 ∧ g 0 ≤ x15.toInt ∧ x15.toInt ≤ 60 * g 0 ∧ g 0 ≤ x16.toInt ∧ x16.toInt ≤ 9 * g 0 ∧ 0 ≤ x17.toInt ∧ x17.toInt ≤ 8 * g 0 ∧ 0 ≤ x18.toInt ∧ x18.toInt ≤ 6 * g 0 ∧ 0 ≤ x25.toInt ∧ x25.toInt ≤ 30 * g 0 ∧ 0 ≤ x26.toInt ∧ x26.toInt ≤ 29 ∧ 0 ≤ x28.toInt ∧ x28.toInt ≤ 2147483647 ∧ 0 ≤ x34.toInt ∧ x34.toInt ≤ 6 ∧ 0 ≤ x37.toInt ∧ x37.toInt ≤ 20 ∧ 0 ≤ g 0 ∧ g 0 ≤ 1) : TN G z g u0 (hup u 134 (.inr (9, [.int x0, .ref (z + 135), .int x2, .int x3, .int x4, .int x5, .int x6, .int x7, .int x8, .int x9, .ref (z + 136), .ref (z + 137), .ref (z + 138), .ref (z + 139), .ref (z + 140), .int x15, .int x16, .int x17, .int x18, .ref (z + 141), .ref (z + 142), .ref (z + 143), .ref (z + 144), .ref (z + 145), .ref (z + 146), .int x25, .int x26, .ref (z + 147), .long x28, .ref (z + 148), .int x30, .int x31, .int x32, .ref (z + 149), .int x34, .ref (z + 150), .ref (z + 151), .int x37, .ref (z + 152), .ref (z + 153), .ref (z + 154), .ref (z + 155), .ref (z + 156)]))) := by
  refine h.up 134 (by decide) (by decide) ?_
  unfold mP
  rw [if_pos rfl]
  exact ⟨x0, x2, x3, x4, x5, x6, x7, x8, x9, x15, x16, x17, x18, x25, x26, x28, x30, x31, x32, x34, x37, rfl, hr⟩
theorem tn_135 (h : TN G z g u0 u) : ∃ f : Nat → Int32, u 135 = some (aI G 240 f) := by
  obtain ⟨q, h, hc⟩ := h.1 135 (by decide) (by decide)
  unfold mP at hc
  repeat (first | rw [if_neg (by decide)] at hc | rw [if_pos (by decide)] at hc)
  obtain ⟨f, rfl⟩ := hc
  exact ⟨f, h⟩
theorem TN.up_135 (h : TN G z g u0 u) {f : Nat → Int32} : TN G z g u0 (hup u 135 (aI G 240 f)) := by
  refine h.up 135 (by decide) (by decide) ?_
  unfold mP
  repeat (first | rw [if_neg (by decide)] | rw [if_pos (by decide)])
  exact ⟨f, rfl⟩
theorem tn_136 (h : TN G z g u0 u) : ∃ f : Nat → Int32, u 136 = some (aI G 8 f) := by
  obtain ⟨q, h, hc⟩ := h.1 136 (by decide) (by decide)
  unfold mP at hc
  repeat (first | rw [if_neg (by decide)] at hc | rw [if_pos (by decide)] at hc)
  obtain ⟨f, rfl⟩ := hc
  exact ⟨f, h⟩
theorem TN.up_136 (h : TN G z g u0 u) {f : Nat → Int32} : TN G z g u0 (hup u 136 (aI G 8 f)) := by
  refine h.up 136 (by decide) (by decide) ?_
  unfold mP
  repeat (first | rw [if_neg (by decide)] | rw [if_pos (by decide)])
  exact ⟨f, rfl⟩
theorem tn_137 (h : TN G z g u0 u) : ∃ f : Nat → Int32, u 137 = some (aI G 8 f) := by
  obtain ⟨q, h, hc⟩ := h.1 137 (by decide) (by decide)
  unfold mP at hc
  repeat (first | rw [if_neg (by decide)] at hc | rw [if_pos (by decide)] at hc)
  obtain ⟨f, rfl⟩ := hc
  exact ⟨f, h⟩
theorem TN.up_137 (h : TN G z g u0 u) {f : Nat → Int32} : TN G z g u0 (hup u 137 (aI G 8 f)) := by
  refine h.up 137 (by decide) (by decide) ?_
  unfold mP
  repeat (first | rw [if_neg (by decide)] | rw [if_pos (by decide)])
  exact ⟨f, rfl⟩
theorem tn_138 (h : TN G z g u0 u) : ∃ f : Nat → Int32, u 138 = some (aI G 6 f) := by
  obtain ⟨q, h, hc⟩ := h.1 138 (by decide) (by decide)
  unfold mP at hc
  repeat (first | rw [if_neg (by decide)] at hc | rw [if_pos (by decide)] at hc)
  obtain ⟨f, rfl⟩ := hc
  exact ⟨f, h⟩
theorem TN.up_138 (h : TN G z g u0 u) {f : Nat → Int32} : TN G z g u0 (hup u 138 (aI G 6 f)) := by
  refine h.up 138 (by decide) (by decide) ?_
  unfold mP
  repeat (first | rw [if_neg (by decide)] | rw [if_pos (by decide)])
  exact ⟨f, rfl⟩
theorem tn_139 (h : TN G z g u0 u) : ∃ f : Nat → Int32, u 139 = some (aI G 6 f) := by
  obtain ⟨q, h, hc⟩ := h.1 139 (by decide) (by decide)
  unfold mP at hc
  repeat (first | rw [if_neg (by decide)] at hc | rw [if_pos (by decide)] at hc)
  obtain ⟨f, rfl⟩ := hc
  exact ⟨f, h⟩
theorem TN.up_139 (h : TN G z g u0 u) {f : Nat → Int32} : TN G z g u0 (hup u 139 (aI G 6 f)) := by
  refine h.up 139 (by decide) (by decide) ?_
  unfold mP
  repeat (first | rw [if_neg (by decide)] | rw [if_pos (by decide)])
  exact ⟨f, rfl⟩
theorem tn_140 (h : TN G z g u0 u) : ∃ f : Nat → Int32, u 140 = some (aI G 6 f) := by
  obtain ⟨q, h, hc⟩ := h.1 140 (by decide) (by decide)
  unfold mP at hc
  repeat (first | rw [if_neg (by decide)] at hc | rw [if_pos (by decide)] at hc)
  obtain ⟨f, rfl⟩ := hc
  exact ⟨f, h⟩
theorem TN.up_140 (h : TN G z g u0 u) {f : Nat → Int32} : TN G z g u0 (hup u 140 (aI G 6 f)) := by
  refine h.up 140 (by decide) (by decide) ?_
  unfold mP
  repeat (first | rw [if_neg (by decide)] | rw [if_pos (by decide)])
  exact ⟨f, rfl⟩
theorem tn_141 (h : TN G z g u0 u) : ∃ f : Nat → Int32, u 141 = some (aI G 8 f) := by
  obtain ⟨q, h, hc⟩ := h.1 141 (by decide) (by decide)
  unfold mP at hc
  repeat (first | rw [if_neg (by decide)] at hc | rw [if_pos (by decide)] at hc)
  obtain ⟨f, rfl⟩ := hc
  exact ⟨f, h⟩
theorem TN.up_141 (h : TN G z g u0 u) {f : Nat → Int32} : TN G z g u0 (hup u 141 (aI G 8 f)) := by
  refine h.up 141 (by decide) (by decide) ?_
  unfold mP
  repeat (first | rw [if_neg (by decide)] | rw [if_pos (by decide)])
  exact ⟨f, rfl⟩
theorem tn_142 (h : TN G z g u0 u) : ∃ f : Nat → Int32, u 142 = some (aI G 8 f) := by
  obtain ⟨q, h, hc⟩ := h.1 142 (by decide) (by decide)
  unfold mP at hc
  repeat (first | rw [if_neg (by decide)] at hc | rw [if_pos (by decide)] at hc)
  obtain ⟨f, rfl⟩ := hc
  exact ⟨f, h⟩
theorem TN.up_142 (h : TN G z g u0 u) {f : Nat → Int32} : TN G z g u0 (hup u 142 (aI G 8 f)) := by
  refine h.up 142 (by decide) (by decide) ?_
  unfold mP
  repeat (first | rw [if_neg (by decide)] | rw [if_pos (by decide)])
  exact ⟨f, rfl⟩
theorem tn_143 (h : TN G z g u0 u) : ∃ f : Nat → Int32, u 143 = some (aI G 6 f) := by
  obtain ⟨q, h, hc⟩ := h.1 143 (by decide) (by decide)
  unfold mP at hc
  repeat (first | rw [if_neg (by decide)] at hc | rw [if_pos (by decide)] at hc)
  obtain ⟨f, rfl⟩ := hc
  exact ⟨f, h⟩
theorem TN.up_143 (h : TN G z g u0 u) {f : Nat → Int32} : TN G z g u0 (hup u 143 (aI G 6 f)) := by
  refine h.up 143 (by decide) (by decide) ?_
  unfold mP
  repeat (first | rw [if_neg (by decide)] | rw [if_pos (by decide)])
  exact ⟨f, rfl⟩
theorem tn_144 (h : TN G z g u0 u) : ∃ f : Nat → Int32, u 144 = some (aI G 6 f) := by
  obtain ⟨q, h, hc⟩ := h.1 144 (by decide) (by decide)
  unfold mP at hc
  repeat (first | rw [if_neg (by decide)] at hc | rw [if_pos (by decide)] at hc)
  obtain ⟨f, rfl⟩ := hc
  exact ⟨f, h⟩
theorem TN.up_144 (h : TN G z g u0 u) {f : Nat → Int32} : TN G z g u0 (hup u 144 (aI G 6 f)) := by
  refine h.up 144 (by decide) (by decide) ?_
  unfold mP
  repeat (first | rw [if_neg (by decide)] | rw [if_pos (by decide)])
  exact ⟨f, rfl⟩
theorem tn_145 (h : TN G z g u0 u) : ∃ f : Nat → Int32, u 145 = some (aI G 6 f) := by
  obtain ⟨q, h, hc⟩ := h.1 145 (by decide) (by decide)
  unfold mP at hc
  repeat (first | rw [if_neg (by decide)] at hc | rw [if_pos (by decide)] at hc)
  obtain ⟨f, rfl⟩ := hc
  exact ⟨f, h⟩
theorem TN.up_145 (h : TN G z g u0 u) {f : Nat → Int32} : TN G z g u0 (hup u 145 (aI G 6 f)) := by
  refine h.up 145 (by decide) (by decide) ?_
  unfold mP
  repeat (first | rw [if_neg (by decide)] | rw [if_pos (by decide)])
  exact ⟨f, rfl⟩
theorem tn_146 (h : TN G z g u0 u) : ∃ f : Nat → Int32, u 146 = some (aI G 25 f) ∧ ∀ j : Nat, j < 25 → (fun (i x : Int) => (i = 4 → -1 ≤ x ∧ x ≤ 6 * g 0 - 1) ∧ (i = 6 → -1 ≤ x ∧ x ≤ 7)) j (f j).toInt := by
  obtain ⟨q, h, hc⟩ := h.1 146 (by decide) (by decide)
  unfold mP at hc
  repeat (first | rw [if_neg (by decide)] at hc | rw [if_pos (by decide)] at hc)
  obtain ⟨f, rfl, hr⟩ := hc
  exact ⟨f, h, hr⟩
theorem TN.up_146 (h : TN G z g u0 u) {f : Nat → Int32} (hr : ∀ j : Nat, j < 25 → (fun (i x : Int) => (i = 4 → -1 ≤ x ∧ x ≤ 6 * g 0 - 1) ∧ (i = 6 → -1 ≤ x ∧ x ≤ 7)) j (f j).toInt) : TN G z g u0 (hup u 146 (aI G 25 f)) := by
  refine h.up 146 (by decide) (by decide) ?_
  unfold mP
  repeat (first | rw [if_neg (by decide)] | rw [if_pos (by decide)])
  exact ⟨f, rfl, hr⟩
theorem tn_147 (h : TN G z g u0 u) : ∃ f : Nat → Int32, u 147 = some (aI G 750 f) ∧ ∀ j : Nat, j < 750 → (fun (i x : Int) => (i % 25 = 4 → -1 ≤ x ∧ x ≤ 5) ∧ (i % 25 = 6 → -1 ≤ x ∧ x ≤ 7)) j (f j).toInt := by
  obtain ⟨q, h, hc⟩ := h.1 147 (by decide) (by decide)
  unfold mP at hc
  repeat (first | rw [if_neg (by decide)] at hc | rw [if_pos (by decide)] at hc)
  obtain ⟨f, rfl, hr⟩ := hc
  exact ⟨f, h, hr⟩
theorem TN.up_147 (h : TN G z g u0 u) {f : Nat → Int32} (hr : ∀ j : Nat, j < 750 → (fun (i x : Int) => (i % 25 = 4 → -1 ≤ x ∧ x ≤ 5) ∧ (i % 25 = 6 → -1 ≤ x ∧ x ≤ 7)) j (f j).toInt) : TN G z g u0 (hup u 147 (aI G 750 f)) := by
  refine h.up 147 (by decide) (by decide) ?_
  unfold mP
  repeat (first | rw [if_neg (by decide)] | rw [if_pos (by decide)])
  exact ⟨f, rfl, hr⟩
theorem tn_148 (h : TN G z g u0 u) : ∃ f : Nat → Int32, u 148 = some (aI G 2048 f) := by
  obtain ⟨q, h, hc⟩ := h.1 148 (by decide) (by decide)
  unfold mP at hc
  repeat (first | rw [if_neg (by decide)] at hc | rw [if_pos (by decide)] at hc)
  obtain ⟨f, rfl⟩ := hc
  exact ⟨f, h⟩
theorem TN.up_148 (h : TN G z g u0 u) {f : Nat → Int32} : TN G z g u0 (hup u 148 (aI G 2048 f)) := by
  refine h.up 148 (by decide) (by decide) ?_
  unfold mP
  repeat (first | rw [if_neg (by decide)] | rw [if_pos (by decide)])
  exact ⟨f, rfl⟩
theorem tn_149 (h : TN G z g u0 u) : ∃ f : Nat → Int32, u 149 = some (aI G 6 f) := by
  obtain ⟨q, h, hc⟩ := h.1 149 (by decide) (by decide)
  unfold mP at hc
  repeat (first | rw [if_neg (by decide)] at hc | rw [if_pos (by decide)] at hc)
  obtain ⟨f, rfl⟩ := hc
  exact ⟨f, h⟩
theorem TN.up_149 (h : TN G z g u0 u) {f : Nat → Int32} : TN G z g u0 (hup u 149 (aI G 6 f)) := by
  refine h.up 149 (by decide) (by decide) ?_
  unfold mP
  repeat (first | rw [if_neg (by decide)] | rw [if_pos (by decide)])
  exact ⟨f, rfl⟩
theorem tn_150 (h : TN G z g u0 u) : ∃ f : Nat → Int32, u 150 = some (aI G 6 f) ∧ ∀ j : Nat, j < 6 → (fun (i x : Int) => 0 ≤ x ∧ x ≤ 5) j (f j).toInt := by
  obtain ⟨q, h, hc⟩ := h.1 150 (by decide) (by decide)
  unfold mP at hc
  repeat (first | rw [if_neg (by decide)] at hc | rw [if_pos (by decide)] at hc)
  obtain ⟨f, rfl, hr⟩ := hc
  exact ⟨f, h, hr⟩
theorem TN.up_150 (h : TN G z g u0 u) {f : Nat → Int32} (hr : ∀ j : Nat, j < 6 → (fun (i x : Int) => 0 ≤ x ∧ x ≤ 5) j (f j).toInt) : TN G z g u0 (hup u 150 (aI G 6 f)) := by
  refine h.up 150 (by decide) (by decide) ?_
  unfold mP
  repeat (first | rw [if_neg (by decide)] | rw [if_pos (by decide)])
  exact ⟨f, rfl, hr⟩
theorem tn_151 (h : TN G z g u0 u) : ∃ f : Nat → Int32, u 151 = some (aI G 6 f) := by
  obtain ⟨q, h, hc⟩ := h.1 151 (by decide) (by decide)
  unfold mP at hc
  repeat (first | rw [if_neg (by decide)] at hc | rw [if_pos (by decide)] at hc)
  obtain ⟨f, rfl⟩ := hc
  exact ⟨f, h⟩
theorem TN.up_151 (h : TN G z g u0 u) {f : Nat → Int32} : TN G z g u0 (hup u 151 (aI G 6 f)) := by
  refine h.up 151 (by decide) (by decide) ?_
  unfold mP
  repeat (first | rw [if_neg (by decide)] | rw [if_pos (by decide)])
  exact ⟨f, rfl⟩
theorem tn_152 (h : TN G z g u0 u) : ∃ f : Nat → Int32, u 152 = some (aI G 20 f) ∧ ∀ j : Nat, j < 20 → (fun (i x : Int) => 0 ≤ x ∧ x ≤ 5) j (f j).toInt := by
  obtain ⟨q, h, hc⟩ := h.1 152 (by decide) (by decide)
  unfold mP at hc
  repeat (first | rw [if_neg (by decide)] at hc | rw [if_pos (by decide)] at hc)
  obtain ⟨f, rfl, hr⟩ := hc
  exact ⟨f, h, hr⟩
theorem TN.up_152 (h : TN G z g u0 u) {f : Nat → Int32} (hr : ∀ j : Nat, j < 20 → (fun (i x : Int) => 0 ≤ x ∧ x ≤ 5) j (f j).toInt) : TN G z g u0 (hup u 152 (aI G 20 f)) := by
  refine h.up 152 (by decide) (by decide) ?_
  unfold mP
  repeat (first | rw [if_neg (by decide)] | rw [if_pos (by decide)])
  exact ⟨f, rfl, hr⟩
theorem tn_153 (h : TN G z g u0 u) : ∃ f : Nat → Int32, u 153 = some (aI G 20 f) := by
  obtain ⟨q, h, hc⟩ := h.1 153 (by decide) (by decide)
  unfold mP at hc
  repeat (first | rw [if_neg (by decide)] at hc | rw [if_pos (by decide)] at hc)
  obtain ⟨f, rfl⟩ := hc
  exact ⟨f, h⟩
theorem TN.up_153 (h : TN G z g u0 u) {f : Nat → Int32} : TN G z g u0 (hup u 153 (aI G 20 f)) := by
  refine h.up 153 (by decide) (by decide) ?_
  unfold mP
  repeat (first | rw [if_neg (by decide)] | rw [if_pos (by decide)])
  exact ⟨f, rfl⟩
theorem tn_154 (h : TN G z g u0 u) : ∃ f : Nat → Int32, u 154 = some (aZ G 2 f) ∧ ∀ j : Nat, j < 2 → (fun (i x : Int) => (i = 0 → x = g 1) ∧ (i = 1 → x = g 2) ∧ 0 ≤ x ∧ x ≤ 1) j (f j).toInt := by
  obtain ⟨q, h, hc⟩ := h.1 154 (by decide) (by decide)
  unfold mP at hc
  repeat (first | rw [if_neg (by decide)] at hc | rw [if_pos (by decide)] at hc)
  obtain ⟨f, rfl, hr⟩ := hc
  exact ⟨f, h, hr⟩
theorem TN.up_154 (h : TN G z g u0 u) {f : Nat → Int32} (hr : ∀ j : Nat, j < 2 → (fun (i x : Int) => (i = 0 → x = g 1) ∧ (i = 1 → x = g 2) ∧ 0 ≤ x ∧ x ≤ 1) j (f j).toInt) : TN G z g u0 (hup u 154 (aZ G 2 f)) := by
  refine h.up 154 (by decide) (by decide) ?_
  unfold mP
  repeat (first | rw [if_neg (by decide)] | rw [if_pos (by decide)])
  exact ⟨f, rfl, hr⟩
theorem tn_155 (h : TN G z g u0 u) : ∃ f : Nat → Int32, u 155 = some (aI G 50 f) ∧ ∀ j : Nat, j < 50 → (fun (i x : Int) => (i % 25 = 4 → -1 ≤ x ∧ x ≤ 5) ∧ (i % 25 = 6 → -1 ≤ x ∧ x ≤ 7) ∧ (i = 4 → x ≤ 6 * g 0 + 5 - 6 * g 1) ∧ (i = 29 → x ≤ 6 * g 0 + 5 - 6 * g 2)) j (f j).toInt := by
  obtain ⟨q, h, hc⟩ := h.1 155 (by decide) (by decide)
  unfold mP at hc
  repeat (first | rw [if_neg (by decide)] at hc | rw [if_pos (by decide)] at hc)
  obtain ⟨f, rfl, hr⟩ := hc
  exact ⟨f, h, hr⟩
theorem TN.up_155 (h : TN G z g u0 u) {f : Nat → Int32} (hr : ∀ j : Nat, j < 50 → (fun (i x : Int) => (i % 25 = 4 → -1 ≤ x ∧ x ≤ 5) ∧ (i % 25 = 6 → -1 ≤ x ∧ x ≤ 7) ∧ (i = 4 → x ≤ 6 * g 0 + 5 - 6 * g 1) ∧ (i = 29 → x ≤ 6 * g 0 + 5 - 6 * g 2)) j (f j).toInt) : TN G z g u0 (hup u 155 (aI G 50 f)) := by
  refine h.up 155 (by decide) (by decide) ?_
  unfold mP
  repeat (first | rw [if_neg (by decide)] | rw [if_pos (by decide)])
  exact ⟨f, rfl, hr⟩
theorem tn_156 (h : TN G z g u0 u) : ∃ f : Nat → Int64, u 156 = some (aL G 2 f) ∧ ∀ j : Nat, j < 2 → (fun (i x : Int) => 0 ≤ x ∧ x ≤ 2147483647) j (f j).toInt := by
  obtain ⟨q, h, hc⟩ := h.1 156 (by decide) (by decide)
  unfold mP at hc
  repeat (first | rw [if_neg (by decide)] at hc | rw [if_pos (by decide)] at hc)
  obtain ⟨f, rfl, hr⟩ := hc
  exact ⟨f, h, hr⟩
theorem TN.up_156 (h : TN G z g u0 u) {f : Nat → Int64} (hr : ∀ j : Nat, j < 2 → (fun (i x : Int) => 0 ≤ x ∧ x ≤ 2147483647) j (f j).toInt) : TN G z g u0 (hup u 156 (aL G 2 f)) := by
  refine h.up 156 (by decide) (by decide) ?_
  unfold mP
  repeat (first | rw [if_neg (by decide)] | rw [if_pos (by decide)])
  exact ⟨f, rfl, hr⟩
end TYN
theorem ap_get {P : Int → Int → Prop} {f : Nat → Int32} {n : Nat} {i : Int32} (h : ∀ j : Nat, j < n → P j (f j).toInt) (h1 : 0 ≤ i.toInt) (h2 : i.toInt < n) : P i.toInt (f i.toNatClampNeg).toInt := by
  obtain ⟨k, hk, e, e2⟩ := i_nat h1
  have h3 := h k (by omega)
  rw [e, nI_clamp hk, nI_toInt hk]
  exact h3
theorem ap_upd {P : Int → Int → Prop} {f : Nat → Int32} {n : Nat} {i v : Int32} (h : ∀ j : Nat, j < n → P j (f j).toInt) (h1 : 0 ≤ i.toInt) (hv : P i.toInt v.toInt) : ∀ j : Nat, j < n → P j (upd f i.toNatClampNeg v j).toInt := by
  intro j hj
  obtain ⟨k, hk, e, e2⟩ := i_nat h1
  rw [e, nI_clamp hk]
  by_cases ej : j = k
  · subst ej
    rw [pk_us, ← e2]
    exact hv
  · rw [pk_un ej]
    exact h j hj
theorem ap_getL {P : Int → Int → Prop} {f : Nat → Int64} {n : Nat} {i : Int32} (h : ∀ j : Nat, j < n → P j (f j).toInt) (h1 : 0 ≤ i.toInt) (h2 : i.toInt < n) : P i.toInt (f i.toNatClampNeg).toInt := by
  obtain ⟨k, hk, e, e2⟩ := i_nat h1
  have h3 := h k (by omega)
  rw [e, nI_clamp hk, nI_toInt hk]
  exact h3
theorem ap_updL {P : Int → Int → Prop} {f : Nat → Int64} {n : Nat} {i : Int32} {v : Int64} (h : ∀ j : Nat, j < n → P j (f j).toInt) (h1 : 0 ≤ i.toInt) (hv : P i.toInt v.toInt) : ∀ j : Nat, j < n → P j (vp_updL f i.toNatClampNeg v j).toInt := by
  intro j hj
  obtain ⟨k, hk, e, e2⟩ := i_nat h1
  rw [e, nI_clamp hk]
  by_cases ej : j = k
  · subst ej
    rw [pk_uLs, ← e2]
    exact hv
  · rw [pk_uLn ej]
    exact h j hj
