/-! the class: the row of an order -/
def RowL (v : Mem) : Nat → List Nat → Prop
  | _, [] => True
  | i, a :: l => (v 102 i).toInt = (a : Int) ∧ RowL v (i + 1) l
theorem rowl_of {u v : Mem} : ∀ (l : List Nat) (i : Nat), RowL v i l → (∀ j, i ≤ j → j < i + l.length → u 102 j = v 102 j) → RowL u i l := by
  intro l
  induction l with
  | nil => intro i _ _; trivial
  | cons a l ih =>
    intro i h hu
    have hl : (a :: l).length = l.length + 1 := List.length_cons
    refine ⟨?_, ih (i + 1) h.2 (fun j j1 j2 => hu j (by omega) (by omega))⟩
    rw [hu i (by omega) (by omega)]
    exact h.1
theorem rowl_snoc {v : Mem} {a : Nat} : ∀ (l : List Nat) (i : Nat), RowL v i l → (v 102 (i + l.length)).toInt = (a : Int) → RowL v i (l ++ [a]) := by
  intro l
  induction l with
  | nil => intro i _ h; exact ⟨h, trivial⟩
  | cons c l ih =>
    intro i h hu
    have hl : (c :: l).length = l.length + 1 := List.length_cons
    refine ⟨h.1, ih (i + 1) h.2 ?_⟩
    rw [hl, show i + (l.length + 1) = i + 1 + l.length by omega] at hu
    exact hu
/-! what an order is paid, its figures -/
theorem pc_payOf {v : Mem} {l : List Nat} {mi py pa : Nat → Int} (hl : (v 101 4).toInt = (l.length : Int)) (h6 : l.length ≤ 6) (hr : RowL v 0 l) (ha : ∀ a, a ∈ l → a < 6 ∧ ((v 103 a).toInt = mi a ∧ 0 ≤ mi a ∧ mi a ≤ 2400) ∧ ((v 104 a).toInt = py a ∧ 0 ≤ py a ∧ py a ≤ 21600) ∧ (v 105 a).toInt = pa a) : Pc (fun (r : Int32) => r.toInt = pyl mi py pa l 0 0) (f_X5_payOfOrder v) := by
  have t0 := tl_0
  unfold f_X5_payOfOrder
  simp only [bind_eta1]
  refine pc_lp (fun (s : Int32 × Int32 × Int32) => ∃ i rs, s.2.2.toInt = ((i : Nat) : Int) ∧ i + rs.length = l.length ∧ RowL v i rs ∧ (∀ a, a ∈ rs → a ∈ l) ∧ (0 ≤ s.1.toInt ∧ s.1.toInt ≤ 2400 * (i : Int)) ∧ (0 ≤ s.2.1.toInt ∧ s.2.1.toInt ≤ 21600 * (i : Int)) ∧ pyl mi py pa rs s.1.toInt s.2.1.toInt = pyl mi py pa l 0 0) ?_ _ _ ?_
  · intro s hX
    obtain ⟨i, rs, x1, x2, x3, x4, x5, x6, x7⟩ := hX
    refine pc_ite (fun c => ?_) (fun c => pc_some ?_)
    · rw [Int32.lt_iff_toInt_lt, hl] at c
      cases rs with
      | nil =>
        have e : ([] : List Nat).length = 0 := rfl
        rw [e] at x2
        omega
      | cons a rs =>
        have e : (a :: rs).length = rs.length + 1 := List.length_cons
        rw [e] at x2
        obtain ⟨a6, ⟨m1, m2, m3⟩, ⟨p1, p2, p3⟩, q1⟩ := ha a (x4 a List.mem_cons_self)
        have ci := i_clq (i := s.2.2) (by omega)
        have ei : s.2.2.toNatClampNeg = i := by omega
        have ea : (s.2.2 + 1).toInt = s.2.2.toInt + 1 := i_addk tl_1 (by omega) (by omega)
        have cx := i_clq (i := v 102 i) (by rw [x3.1]; omega)
        have ex : (v 102 i).toNatClampNeg = a := by have := x3.1; omega
        refine pc_rd (fun _ => ?_)
        rw [ei]
        refine pc_rd (fun _ => ?_)
        rw [ex]
        have ep : pyl mi py pa (a :: rs) s.1.toInt s.2.1.toInt = if s.1.toInt ≤ pa a then pyl mi py pa rs (s.1.toInt + mi a) (s.2.1.toInt + py a) else pyl mi py pa rs s.1.toInt s.2.1.toInt := rfl
        rw [ep] at x7
        by_cases cq : v 105 a < s.1
        · rw [if_pos cq, sb]
          rw [Int32.lt_iff_toInt_lt, q1] at cq
          rw [if_neg (by omega)] at x7
          refine pc_some ⟨i + 1, rs, ?_, by omega, x3.2, fun b hb => x4 b (List.mem_cons_of_mem _ hb), ?_, ?_, x7⟩
          · show (s.2.2 + 1).toInt = ((i + 1 : Nat) : Int)
            omega
          · show 0 ≤ s.1.toInt ∧ s.1.toInt ≤ 2400 * ((i + 1 : Nat) : Int)
            omega
          · show 0 ≤ s.2.1.toInt ∧ s.2.1.toInt ≤ 21600 * ((i + 1 : Nat) : Int)
            omega
        · rw [if_neg cq]
          rw [Int32.lt_iff_toInt_lt, q1] at cq
          rw [if_pos (by omega)] at x7
          refine pc_bind (Q := fun (q : Int32 × Int32) => q = (s.1 + v 103 a, s.2.1 + v 104 a)) (pc_rd (fun _ => pc_rd (fun _ => pc_some (by rw [ex])))) (fun q _ hq => ?_)
          rw [hq]
          have g1 : (s.1 + v 103 a).toInt = s.1.toInt + mi a := by rw [i_add (by omega) (by omega), m1]
          have g2 : (s.2.1 + v 104 a).toInt = s.2.1.toInt + py a := by rw [i_add (by omega) (by omega), p1]
          refine pc_some ⟨i + 1, rs, ?_, by omega, x3.2, fun b hb => x4 b (List.mem_cons_of_mem _ hb), ?_, ?_, ?_⟩
          · show (s.2.2 + 1).toInt = ((i + 1 : Nat) : Int)
            omega
          · show 0 ≤ (s.1 + v 103 a).toInt ∧ (s.1 + v 103 a).toInt ≤ 2400 * ((i + 1 : Nat) : Int)
            omega
          · show 0 ≤ (s.2.1 + v 104 a).toInt ∧ (s.2.1 + v 104 a).toInt ≤ 21600 * ((i + 1 : Nat) : Int)
            omega
          · show pyl mi py pa rs (s.1 + v 103 a).toInt (s.2.1 + v 104 a).toInt = _
            rw [g1, g2]
            exact x7
    · rw [Int32.lt_iff_toInt_lt, hl] at c
      cases rs with
      | nil => exact x7
      | cons a rs =>
        have e : (a :: rs).length = rs.length + 1 := List.length_cons
        rw [e] at x2
        omega
  · refine ⟨0, l, by show (0 : Int32).toInt = ((0 : Nat) : Int); omega, by omega, hr, fun a h => h, by show 0 ≤ (0 : Int32).toInt ∧ (0 : Int32).toInt ≤ 2400 * ((0 : Nat) : Int); omega, by show 0 ≤ (0 : Int32).toInt ∧ (0 : Int32).toInt ≤ 21600 * ((0 : Nat) : Int); omega, ?_⟩
    show pyl mi py pa l (0 : Int32).toInt (0 : Int32).toInt = _
    rw [t0]
def fgA : Nat → List Nat → Nat
  | x, [] => x
  | x, a :: l => fgA (x * 10 + a + 1) l
theorem fgA_eq : ∀ (l : List Nat) (x : Nat), fgA x l = x * 10 ^ l.length + fg l := by
  intro l
  induction l with
  | nil => intro x; show x = x * 10 ^ 0 + 0; rw [Nat.pow_zero]; omega
  | cons a l ih =>
    intro x
    have e1 : fgA x (a :: l) = fgA (x * 10 + a + 1) l := rfl
    have e2 : fg (a :: l) = (a + 1) * 10 ^ l.length + fg l := rfl
    have e : (a :: l).length = l.length + 1 := List.length_cons
    rw [e1, ih, e2, e, Nat.pow_succ, show x * 10 + a + 1 = x * 10 + (a + 1) by omega, Nat.add_mul, Nat.mul_assoc, Nat.mul_comm 10 (10 ^ l.length), Nat.add_assoc]
theorem pc_figs {v : Mem} {l : List Nat} (hl : (v 101 4).toInt = (l.length : Int)) (h6 : l.length ≤ 6) (hr : RowL v 0 l) (ha : ∀ a, a ∈ l → a < 6) : Pc (fun (r : Int32) => r.toInt = ((fg l : Nat) : Int)) (f_X5_figuresOfOrder v) := by
  have t0 := tl_0
  have t10 := tl_10
  unfold f_X5_figuresOfOrder
  simp only [bind_eta1]
  refine pc_lp (fun (s : Int32 × Int32) => ∃ i rs x, s.2.toInt = ((i : Nat) : Int) ∧ i + rs.length = l.length ∧ RowL v i rs ∧ (∀ a, a ∈ rs → a ∈ l) ∧ s.1.toInt = ((x : Nat) : Int) ∧ x < 10 ^ i ∧ fgA x rs = fg l) ?_ _ _ ?_
  · intro s hX
    obtain ⟨i, rs, x, x1, x2, x3, x4, x5, x6, x7⟩ := hX
    refine pc_ite (fun c => ?_) (fun c => pc_some ?_)
    · rw [Int32.lt_iff_toInt_lt, hl] at c
      cases rs with
      | nil =>
        have e : ([] : List Nat).length = 0 := rfl
        rw [e] at x2
        omega
      | cons a rs =>
        have e : (a :: rs).length = rs.length + 1 := List.length_cons
        rw [e] at x2
        have a6 := ha a (x4 a List.mem_cons_self)
        have ci := i_clq (i := s.2) (by omega)
        have ei : s.2.toNatClampNeg = i := by omega
        have ea : (s.2 + 1).toInt = s.2.toInt + 1 := i_addk tl_1 (by omega) (by omega)
        have pi : 10 ^ i ≤ 10 ^ 5 := Nat.pow_le_pow_right (by decide) (by omega)
        have p5 : (10 : Nat) ^ 5 = 100000 := by decide
        have g1 : (s.1 * 10).toInt = 10 * s.1.toInt := i_mulkr tl_10 (by omega) (by omega)
        have ex := x3.1
        have g2 : (s.1 * 10 + v 102 i).toInt = (s.1 * 10).toInt + (v 102 i).toInt := i_add (by omega) (by omega)
        have g3 : (s.1 * 10 + v 102 i + 1).toInt = (s.1 * 10 + v 102 i).toInt + 1 := i_addk tl_1 (by omega) (by omega)
        refine pc_rd (fun _ => pc_lt (pc_some ⟨i + 1, rs, x * 10 + a + 1, ?_, by omega, x3.2, fun b hb => x4 b (List.mem_cons_of_mem _ hb), ?_, ?_, x7⟩))
        · show (s.2 + 1).toInt = ((i + 1 : Nat) : Int)
          omega
        · show (s.1 * 10 + v 102 s.2.toNatClampNeg + 1).toInt = ((x * 10 + a + 1 : Nat) : Int)
          rw [ei]
          omega
        · rw [Nat.pow_succ]
          omega
    · rw [Int32.lt_iff_toInt_lt, hl] at c
      cases rs with
      | nil =>
        have h9 : fgA x [] = x := rfl
        rw [h9] at x7
        show s.1.toInt = ((fg l : Nat) : Int)
        omega
      | cons a rs =>
        have e : (a :: rs).length = rs.length + 1 := List.length_cons
        rw [e] at x2
        omega
  · refine ⟨0, l, 0, by show (0 : Int32).toInt = ((0 : Nat) : Int); omega, by omega, hr, fun a h => h, by show (0 : Int32).toInt = ((0 : Nat) : Int); omega, by decide, ?_⟩
    rw [fgA_eq]
    omega
