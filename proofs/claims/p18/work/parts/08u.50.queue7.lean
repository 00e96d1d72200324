/-! the class: the next order -/
def flN (r : Nat → Nat) : Nat → Nat
  | 0 => 0
  | i + 1 => if r (i + 1) < r i then flN r i else i + 1
def grN (r : Nat → Nat) (f : Nat) : Nat → Nat
  | 0 => 0
  | j + 1 => if f < j + 1 then (if r (j + 1) < r f then grN r f j else j + 1) else j + 1
def swN (r : Nat → Nat) (i j x : Nat) : Nat := if x = j then r i else if x = i then r j else r x
def rvN : Nat → (Nat → Nat) → Nat → Nat → Nat → Nat
  | 0, r, _, _ => r
  | c + 1, r, i, j => if i < j then rvN c (swN r i j) (i + 1) (j - 1) else r
def nextN (r : Nat → Nat) (k : Nat) : Option (Nat → Nat) := if flN r (k - 1) = 0 then none else some (rvN 6 (swN r (flN r (k - 1) - 1) (grN r (flN r (k - 1) - 1) (k - 1))) (flN r (k - 1)) (k - 1))
def RowF (v : Mem) (r : Nat → Nat) (k : Nat) : Prop := ∀ i, i < k → (v 102 i).toInt = ((r i : Nat) : Int)
theorem flN_le (r : Nat → Nat) : ∀ m, flN r m ≤ m := by
  intro m
  induction m with
  | zero => exact Nat.le_refl _
  | succ m ih =>
    unfold flN
    by_cases c : r (m + 1) < r m
    · rw [if_pos c]; omega
    · rw [if_neg c]; omega
theorem pc_swap {v : Mem} {r : Nat → Nat} {k i j : Nat} {a b : Int32} (h : RowF v r k) (hk : k ≤ 6) (ea : a.toInt = (i : Int)) (eb : b.toInt = (j : Int)) (hi : i < k) (hj : j < k) : Pc (fun u => (∀ m x, ¬ m = 102 → u m x = v m x) ∧ RowF u (swN r i j) k) (f_X5_swap a b v) := by
  have ca := i_clq (i := a) (by omega)
  have cb := i_clq (i := b) (by omega)
  have ei : a.toNatClampNeg = i := by omega
  have ej : b.toNatClampNeg = j := by omega
  unfold f_X5_swap
  refine pc_rd (fun _ => pc_rd (fun _ => pc_wr (fun _ => pc_wr (fun _ => pc_some ⟨fun m x hm => ?_, fun x hx => ?_⟩))))
  · rw [wu_ne (by omega), wu_ne (by omega)]
  · rw [ei, ej]
    unfold swN
    by_cases c : x = j
    · rw [if_pos c, c, wu_at]
      exact h i hi
    · rw [if_neg c, wu_ne (by omega)]
      by_cases d : x = i
      · rw [if_pos d, d, wu_at]
        exact h j hj
      · rw [if_neg d, wu_ne (by omega)]
        exact h x hx
theorem pc_falls {v : Mem} {r : Nat → Nat} {k : Nat} {t1 : Int32} (h : RowF v r k) (hk : 1 ≤ k ∧ k ≤ 6) (e1 : t1.toInt = (k : Int) - 2) (n : Nat) : Pc (fun (s : Int32) => s.toInt = ((flN r (k - 1) : Nat) : Int) - 1) (lp (S := Int32) (T := Int32) (fun s7 => (if s7 < 0 then some (Sum.inr s7) else rd 6 (v 102) s7 fun x2 => rd 6 (v 102) (s7 + (1 : Int32)) fun x3 => (if x3 < x2 then some (Sum.inl (s7 + (-1 : Int32))) else some (Sum.inr s7)))) n t1) := by
  have t0 := tl_0
  refine pc_lp (fun (s : Int32) => ∃ m : Nat, s.toInt = (m : Int) - 1 ∧ m ≤ k - 1 ∧ flN r m = flN r (k - 1)) ?_ _ _ ⟨k - 1, by omega, by omega, rfl⟩
  intro s hX
  obtain ⟨m, x1, x2, x3⟩ := hX
  refine pc_ite (fun c => pc_some ?_) (fun c => ?_)
  · rw [Int32.lt_iff_toInt_lt, t0] at c
    have em : m = 0 := by omega
    rw [em] at x3
    have e : flN r 0 = 0 := rfl
    show s.toInt = ((flN r (k - 1) : Nat) : Int) - 1
    rw [← x3, e]
    omega
  · rw [Int32.lt_iff_toInt_lt, t0] at c
    cases m with
    | zero => omega
    | succ i =>
      have cs := i_clq (i := s) (by omega)
      have es : s.toNatClampNeg = i := by omega
      have ea : (s + 1).toInt = s.toInt + 1 := i_addk tl_1 (by omega) (by omega)
      have cs1 := i_clq (i := s + 1) (by omega)
      have es1 : (s + 1).toNatClampNeg = i + 1 := by omega
      have h1 := h i (by omega)
      have h2 := h (i + 1) (by omega)
      have e : flN r (i + 1) = if r (i + 1) < r i then flN r i else i + 1 := rfl
      refine pc_rd (fun _ => pc_rd (fun _ => ?_))
      rw [es, es1]
      refine pc_ite (fun d => pc_some ?_) (fun d => pc_some ?_)
      · rw [Int32.lt_iff_toInt_lt] at d
        rw [if_pos (by omega)] at e
        exact ⟨i, by show (s + (-1 : Int32)).toInt = (i : Int) - 1; rw [i_dec (by omega) (by omega), x1]; omega, by omega, by rw [← x3, e]⟩
      · rw [Int32.lt_iff_toInt_lt] at d
        rw [if_neg (by omega)] at e
        show s.toInt = ((flN r (k - 1) : Nat) : Int) - 1
        rw [← x3, e]
        omega
theorem pc_greater {v : Mem} {r : Nat → Nat} {k f : Nat} {v4 t5 : Int32} (h : RowF v r k) (hk : 1 ≤ k ∧ k ≤ 6) (ef : v4.toInt = (f : Int)) (hf : f < k) (e5 : t5.toInt = (k : Int) - 1) (n : Nat) : Pc (fun (s : Int32) => s.toInt = ((grN r f (k - 1) : Nat) : Int) ∧ grN r f (k - 1) < k) (lp (S := Int32) (T := Int32) (fun s47 => (if v4 < s47 then rd 6 (v 102) s47 fun x6 => rd 6 (v 102) v4 fun x7 => (if x6 < x7 then some (Sum.inl (s47 + (-1 : Int32))) else some (Sum.inr s47)) else some (Sum.inr s47))) n t5) := by
  have cf := i_clq (i := v4) (by omega)
  have eF : v4.toNatClampNeg = f := by omega
  refine pc_lp (fun (s : Int32) => ∃ j : Nat, s.toInt = (j : Int) ∧ j < k ∧ grN r f j = grN r f (k - 1)) ?_ _ _ ⟨k - 1, by omega, by omega, rfl⟩
  intro s hX
  obtain ⟨j, x1, x2, x3⟩ := hX
  cases j with
  | zero =>
    have e : grN r f 0 = 0 := rfl
    rw [e] at x3
    refine pc_ite (fun c => ?_) (fun c => pc_some ⟨?_, by omega⟩)
    · rw [Int32.lt_iff_toInt_lt] at c
      omega
    · show s.toInt = ((grN r f (k - 1) : Nat) : Int)
      rw [← x3]
      exact x1
  | succ j =>
    have e : grN r f (j + 1) = if f < j + 1 then (if r (j + 1) < r f then grN r f j else j + 1) else j + 1 := rfl
    have cs := i_clq (i := s) (by omega)
    have es : s.toNatClampNeg = j + 1 := by omega
    refine pc_ite (fun c => ?_) (fun c => pc_some ?_)
    · rw [Int32.lt_iff_toInt_lt] at c
      rw [if_pos (by omega)] at e
      have h1 := h (j + 1) x2
      have h2 := h f hf
      refine pc_rd (fun _ => pc_rd (fun _ => ?_))
      rw [es, eF]
      refine pc_ite (fun d => pc_some ?_) (fun d => pc_some ?_)
      · rw [Int32.lt_iff_toInt_lt] at d
        rw [if_pos (by omega)] at e
        exact ⟨j, by show (s + (-1 : Int32)).toInt = (j : Int); rw [i_dec (by omega) (by omega), x1]; omega, by omega, by rw [← x3, e]⟩
      · rw [Int32.lt_iff_toInt_lt] at d
        rw [if_neg (by omega)] at e
        rw [e] at x3
        rw [← x3]
        exact ⟨x1, x2⟩
    · rw [Int32.lt_iff_toInt_lt] at c
      rw [if_neg (by omega)] at e
      rw [e] at x3
      rw [← x3]
      exact ⟨x1, x2⟩
theorem pc_turn {v : Mem} {r : Nat → Nat} {k f : Nat} {a b : Int32} (h : RowF v r k) (hk : k ≤ 6) (ea : a.toInt = (f : Int)) (hb : b.toInt = (k : Int) - 1) (hk1 : 1 ≤ k) (hf : f ≤ 100) (n : Nat) : Pc (fun u => (∀ m x, ¬ m = 102 → u m x = v m x) ∧ RowF u (rvN 6 r f (k - 1)) k) (lp (S := (Int32 × Int32 × Mem)) (T := Mem) (fun s91 => (if s91.1 < s91.2.1 then (f_X5_swap s91.1 s91.2.1 s91.2.2).bind fun w11 => some (Sum.inl ((s91.1 + (1 : Int32)), (s91.2.1 + (-1 : Int32)), w11)) else some (Sum.inr s91.2.2))) n (a, b, v)) := by
  refine pc_lp (fun (s : Int32 × Int32 × Mem) => (∀ m x, ¬ m = 102 → s.2.2 m x = v m x) ∧ ∃ (c i j : Nat) (q : Nat → Nat), s.1.toInt = (i : Int) ∧ s.2.1.toInt = (j : Int) ∧ j < k ∧ j ≤ i + 2 * c ∧ i ≤ 100 ∧ RowF s.2.2 q k ∧ rvN c q i j = rvN 6 r f (k - 1)) ?_ _ _ ?_
  · intro s hX
    obtain ⟨x0, c, i, j, q, x1, x2, x3, x4, x7, x5, x6⟩ := hX
    refine pc_ite (fun d => ?_) (fun d => pc_some ⟨x0, ?_⟩)
    · rw [Int32.lt_iff_toInt_lt] at d
      cases c with
      | zero => omega
      | succ c =>
        have e : rvN (c + 1) q i j = if i < j then rvN c (swN q i j) (i + 1) (j - 1) else q := rfl
        rw [if_pos (by omega)] at e
        have e1 : (s.1 + 1).toInt = s.1.toInt + 1 := i_addk tl_1 (by omega) (by omega)
        refine pc_bind (pc_swap x5 hk x1 x2 (by omega) x3) (fun u _ hu => pc_some ⟨fun m x hm => ?_, c, i + 1, j - 1, swN q i j, ?_, ?_, by omega, by omega, by omega, hu.2, by rw [← x6, e]⟩)
        · show u m x = v m x
          rw [hu.1 m x hm]
          exact x0 m x hm
        · show (s.1 + 1).toInt = ((i + 1 : Nat) : Int)
          omega
        · show (s.2.1 + (-1 : Int32)).toInt = ((j - 1 : Nat) : Int)
          rw [i_dec (by omega) (by omega), x2]
          omega
    · rw [Int32.lt_iff_toInt_lt] at d
      have e : rvN c q i j = q := by
        cases c with
        | zero => rfl
        | succ c =>
          have e2 : rvN (c + 1) q i j = if i < j then rvN c (swN q i j) (i + 1) (j - 1) else q := rfl
          rw [e2, if_neg (by omega)]
      rw [← x6, e]
      exact x5
  · exact ⟨fun m x _ => rfl, 6, f, k - 1, r, ea, by show b.toInt = ((k - 1 : Nat) : Int); omega, by omega, by omega, hf, h, rfl⟩
theorem pc_nextO {v : Mem} {r : Nat → Nat} {k : Nat} (h : RowF v r k) (hk : 1 ≤ k ∧ k ≤ 6) (hl : (v 101 4).toInt = (k : Int)) : Pc (fun (q : Int32 × Mem) => (∀ m x, ¬ m = 102 → q.2 m x = v m x) ∧ ((q.1 = 0 ∧ nextN r k = none) ∨ (q.1 = 1 ∧ ∃ r', nextN r k = some r' ∧ RowF q.2 r' k))) (f_X5_nextOrder v) := by
  have t0 := tl_0
  have t1 := tl_1
  have t2 := tl_2
  have hfl := flN_le r (k - 1)
  unfold f_X5_nextOrder
  have e1 : (v 101 4 - 2).toInt = (v 101 4).toInt - (2 : Int32).toInt := i_sub (by omega) (by omega)
  have e5 : (v 101 4 - 1).toInt = (v 101 4).toInt - (1 : Int32).toInt := i_sub (by omega) (by omega)
  refine pc_lt (pc_bind (pc_falls h hk (by omega) _) (fun v4 _ h4 => ?_))
  unfold nextN
  refine pc_ite (fun c => pc_some ⟨fun m x _ => rfl, Or.inl ⟨rfl, ?_⟩⟩) (fun c => ?_)
  · rw [Int32.lt_iff_toInt_lt, t0] at c
    rw [if_pos (by omega)]
  · rw [Int32.lt_iff_toInt_lt, t0] at c
    rw [if_neg (by omega)]
    obtain ⟨f, ef⟩ : ∃ f, flN r (k - 1) = f + 1 := ⟨flN r (k - 1) - 1, by omega⟩
    rw [ef] at h4 hfl ⊢
    have e4 : (v4 + 1).toInt = v4.toInt + 1 := i_addk tl_1 (by omega) (by omega)
    refine pc_lt (pc_bind (pc_greater (f := f) h hk (by omega) (by omega) (by omega) _) (fun v8 _ h8 => ?_))
    refine pc_bind (pc_swap h hk.2 (i := f) (j := grN r f (k - 1)) (by omega) h8.1 (by omega) h8.2) (fun w9 _ h9 => ?_)
    have l9 : w9 101 4 = v 101 4 := h9.1 101 4 (by omega)
    refine pc_lt (pc_bind (pc_turn (f := f + 1) h9.2 hk.2 (by omega) (by rw [l9]; omega) hk.1 (by omega) _) (fun u _ hu => pc_some ⟨fun m x hm => ?_, Or.inr ⟨rfl, _, rfl, ?_⟩⟩))
    · show u m x = v m x
      rw [hu.1 m x hm, h9.1 m x hm]
    · show RowF u (rvN 6 (swN r (f + 1 - 1) (grN r (f + 1 - 1) (k - 1))) (f + 1) (k - 1)) k
      rw [show f + 1 - 1 = f by omega]
      exact hu.2
