/-! rows of matters: by the first, by the last -/
def rwF (L : Nat → Nat) : Nat → Nat → Nat → Nat → Prop
  | 0, _, _, _ => False
  | n + 1, S, a, b => a < 8 ∧ S.testBit a = true ∧ ((S - 2 ^ a = 0 ∧ a = b) ∨ ∃ c, (L a).testBit c = true ∧ rwF L n (S - 2 ^ a) c b)
def rwL (L : Nat → Nat) : Nat → Nat → Nat → Nat → Prop
  | 0, _, _, _ => False
  | n + 1, S, a, b => b < 8 ∧ S.testBit b = true ∧ ((S - 2 ^ b = 0 ∧ a = b) ∨ ∃ d, (L d).testBit b = true ∧ rwL L n (S - 2 ^ b) a d)
set_option maxRecDepth 100000 in
theorem cl_tab : ∀ S : Fin 256, ∀ a : Fin 8, ∀ k : Fin 8, S.1.testBit a.1 = false ∨ (S.1 - 2 ^ a.1).testBit k.1 = (S.1.testBit k.1 && !(k.1 == a.1)) := by decide +kernel
theorem cl_bit {S a k : Nat} (hS : S < 256) (h8 : a < 8) (hk : k < 8) (ha : S.testBit a = true) : (S - 2 ^ a).testBit k = true ↔ S.testBit k = true ∧ ¬ k = a := by
  rcases cl_tab ⟨S, hS⟩ ⟨a, h8⟩ ⟨k, hk⟩ with h | h
  · have h' : S.testBit a = false := h
    rw [ha] at h'
    cases h'
  · have h' : (S - 2 ^ a).testBit k = (S.testBit k && !(k == a)) := h
    rw [h']
    by_cases e : k = a
    · rw [e]; simp
    · simp [e]
theorem rwL_front {L : Nat → Nat} {a c : Nat} (ha : a < 8) (hc : (L a).testBit c = true) : ∀ n S b, S < 256 → S.testBit a = true → rwL L n (S - 2 ^ a) c b → ∃ n', rwL L n' S a b := by
  intro n
  induction n with
  | zero => intro S b _ _ h; exact h.elim
  | succ n ih =>
    intro S b hS hSa h
    obtain ⟨hb, hb1, h2⟩ := h
    obtain ⟨hSb, hne⟩ := (cl_bit hS ha hb hSa).mp hb1
    have hSa2 : (S - 2 ^ b).testBit a = true := (cl_bit hS hb ha hSb).mpr ⟨hSa, fun e => hne e.symm⟩
    have e1 : S - 2 ^ b - 2 ^ a = S - 2 ^ a - 2 ^ b := by omega
    rcases h2 with ⟨h0, e⟩ | ⟨d, hd, hr⟩
    · exact ⟨2, hb, hSb, Or.inr ⟨a, by rw [← e]; exact hc, ha, hSa2, Or.inl ⟨by rw [e1]; exact h0, rfl⟩⟩⟩
    · obtain ⟨n', hn⟩ := ih (S - 2 ^ b) d (Nat.lt_of_le_of_lt (Nat.sub_le _ _) hS) hSa2 (by rw [e1]; exact hr)
      exact ⟨n' + 1, hb, hSb, Or.inr ⟨d, hd, hn⟩⟩
theorem rwF_back {L : Nat → Nat} {b d : Nat} (hb : b < 8) (hd : (L d).testBit b = true) : ∀ n S a, S < 256 → S.testBit b = true → rwF L n (S - 2 ^ b) a d → ∃ n', rwF L n' S a b := by
  intro n
  induction n with
  | zero => intro S a _ _ h; exact h.elim
  | succ n ih =>
    intro S a hS hSb h
    obtain ⟨ha, ha1, h2⟩ := h
    obtain ⟨hSa, hne⟩ := (cl_bit hS hb ha hSb).mp ha1
    have hSb2 : (S - 2 ^ a).testBit b = true := (cl_bit hS ha hb hSa).mpr ⟨hSb, fun e => hne e.symm⟩
    have e1 : S - 2 ^ a - 2 ^ b = S - 2 ^ b - 2 ^ a := by omega
    rcases h2 with ⟨h0, e⟩ | ⟨c, hc, hr⟩
    · exact ⟨2, ha, hSa, Or.inr ⟨b, by rw [e]; exact hd, hb, hSb2, Or.inl ⟨by rw [e1]; exact h0, rfl⟩⟩⟩
    · obtain ⟨n', hn⟩ := ih (S - 2 ^ a) c (Nat.lt_of_le_of_lt (Nat.sub_le _ _) hS) hSb2 (by rw [e1]; exact hr)
      exact ⟨n' + 1, ha, hSa, Or.inr ⟨c, hc, hn⟩⟩
theorem rwF_L {L : Nat → Nat} : ∀ n S a b, S < 256 → rwF L n S a b → ∃ n', rwL L n' S a b := by
  intro n
  induction n with
  | zero => intro S a b _ h; exact h.elim
  | succ n ih =>
    intro S a b hS h
    obtain ⟨ha, ha1, h2⟩ := h
    rcases h2 with ⟨h0, e⟩ | ⟨c, hc, hr⟩
    · exact ⟨1, by rw [← e]; exact ha, by rw [← e]; exact ha1, Or.inl ⟨by rw [← e]; exact h0, e⟩⟩
    · obtain ⟨n', hn⟩ := ih (S - 2 ^ a) c b (Nat.lt_of_le_of_lt (Nat.sub_le _ _) hS) hr
      exact rwL_front ha hc n' S b hS ha1 hn
theorem rwL_F {L : Nat → Nat} : ∀ n S a b, S < 256 → rwL L n S a b → ∃ n', rwF L n' S a b := by
  intro n
  induction n with
  | zero => intro S a b _ h; exact h.elim
  | succ n ih =>
    intro S a b hS h
    obtain ⟨hb, hb1, h2⟩ := h
    rcases h2 with ⟨h0, e⟩ | ⟨d, hd, hr⟩
    · exact ⟨1, by rw [e]; exact hb, by rw [e]; exact hb1, Or.inl ⟨by rw [e]; exact h0, e⟩⟩
    · obtain ⟨n', hn⟩ := ih (S - 2 ^ b) a d (Nat.lt_of_le_of_lt (Nat.sub_le _ _) hS) hr
      exact rwF_back hb hd n' S a hS hb1 hn
def Beg (L : Nat → Nat) (S a : Nat) : Prop := ∃ n b, rwF L n S a b
def Beu (L : Nat → Nat) (S a b : Nat) : Prop := ∃ n, rwL L n S a b
theorem beg_beu {L : Nat → Nat} {S a : Nat} (hS : S < 256) : Beg L S a ↔ ∃ b, Beu L S a b :=
  ⟨fun ⟨n, b, h⟩ => ⟨b, rwF_L n S a b hS h⟩, fun ⟨b, n, h⟩ => let ⟨n', h'⟩ := rwL_F n S a b hS h; ⟨n', b, h'⟩⟩
theorem beg_step {L : Nat → Nat} {S a : Nat} : Beg L S a ↔ a < 8 ∧ S.testBit a = true ∧ (S - 2 ^ a = 0 ∨ ∃ c, (L a).testBit c = true ∧ Beg L (S - 2 ^ a) c) := by
  constructor
  · rintro ⟨n, b, h⟩
    cases n with
    | zero => exact h.elim
    | succ n =>
      obtain ⟨h1, h2, h3⟩ := h
      refine ⟨h1, h2, ?_⟩
      rcases h3 with ⟨h0, _⟩ | ⟨c, hc, hr⟩
      · exact Or.inl h0
      · exact Or.inr ⟨c, hc, n, b, hr⟩
  · rintro ⟨h1, h2, h3⟩
    rcases h3 with h0 | ⟨c, hc, n, b, hr⟩
    · exact ⟨1, a, h1, h2, Or.inl ⟨h0, rfl⟩⟩
    · exact ⟨n + 1, b, h1, h2, Or.inr ⟨c, hc, hr⟩⟩
theorem beu_step {L : Nat → Nat} {S a b : Nat} : Beu L S a b ↔ b < 8 ∧ S.testBit b = true ∧ ((S - 2 ^ b = 0 ∧ a = b) ∨ ∃ d, (L d).testBit b = true ∧ Beu L (S - 2 ^ b) a d) := by
  constructor
  · rintro ⟨n, h⟩
    cases n with
    | zero => exact h.elim
    | succ n =>
      obtain ⟨h1, h2, h3⟩ := h
      refine ⟨h1, h2, ?_⟩
      rcases h3 with h0 | ⟨d, hd, hr⟩
      · exact Or.inl h0
      · exact Or.inr ⟨d, hd, n, hr⟩
  · rintro ⟨h1, h2, h3⟩
    rcases h3 with h0 | ⟨d, hd, n, hr⟩
    · exact ⟨1, h1, h2, Or.inl h0⟩
    · exact ⟨n + 1, h1, h2, Or.inr ⟨d, hd, hr⟩⟩
theorem beu_8 {L : Nat → Nat} {S a b : Nat} (hS : S < 256) (h : Beu L S a b) : a < 8 := (beg_step.mp ((beg_beu hS).mpr ⟨b, h⟩)).1
/-! sets as numbers -/
theorem tb_8 {x k : Nat} (hx : x < 256) (h : x.testBit k = true) : k < 8 := by
  by_cases c : k < 8
  · exact c
  · have h8 : 2 ^ 8 ≤ 2 ^ k := Nat.pow_le_pow_right (by decide) (by omega)
    have h9 := Nat.testBit_lt_two_pow (x := x) (i := k) (by omega)
    rw [h9] at h
    cases h
theorem tb_ext {x y : Nat} (hx : x < 256) (hy : y < 256) (h : ∀ k, k < 8 → (x.testBit k = true ↔ y.testBit k = true)) : x = y := by
  apply Nat.eq_of_testBit_eq
  intro k
  by_cases c : k < 8
  · have h1 := h k c
    cases e1 : x.testBit k with
    | true => rw [h1.mp e1]
    | false =>
      cases e2 : y.testBit k with
      | true => rw [h1.mpr e2] at e1; cases e1
      | false => rfl
  · cases e1 : x.testBit k with
    | true => exact absurd (tb_8 hx e1) c
    | false =>
      cases e2 : y.testBit k with
      | true => exact absurd (tb_8 hy e2) c
      | false => rfl
set_option maxRecDepth 100000 in
theorem hb_tab : ∀ x : Fin 256, ∀ k : Fin 8, hbI (Int32.ofNat x.1) (Int32.ofNat k.1) = if x.1.testBit k.1 = true then 1 else 0 := by decide +kernel
theorem hb_tb {x m : Int32} (h0 : 0 ≤ x.toInt) (h1 : x.toInt ≤ 255) (h2 : 0 ≤ m.toInt) (h3 : m.toInt ≤ 7) : hbI x m = if x.toNatClampNeg.testBit m.toNatClampNeg = true then 1 else 0 := by
  have e1 := i_clq h0
  have e2 := i_clq h2
  have h := hb_tab ⟨x.toNatClampNeg, by omega⟩ ⟨m.toNatClampNeg, by omega⟩
  have h' : hbI (Int32.ofNat x.toNatClampNeg) (Int32.ofNat m.toNatClampNeg) = if x.toNatClampNeg.testBit m.toNatClampNeg = true then 1 else 0 := h
  rw [← i_nat3 h0, ← i_nat3 h2] at h'
  exact h'
theorem cN_of {n : Nat} (h : n < 2147483648) : (Int32.ofNat n).toNatClampNeg = n := by
  have e := i_ofnat h
  have e2 := i_clq (i := Int32.ofNat n) (by omega)
  omega
set_option maxRecDepth 100000 in
theorem clv_tab : ∀ S : Fin 256, ∀ a : Fin 8, S.1.testBit a.1 = false ∨ clrB (Int32.ofNat S.1) (Int32.ofNat a.1) = Int32.ofNat (S.1 - 2 ^ a.1) := by decide +kernel
theorem cl_val {S a : Int32} (h0 : 0 ≤ S.toInt) (h1 : S.toInt ≤ 255) (h2 : 0 ≤ a.toInt) (h3 : a.toInt ≤ 7) (h : S.toNatClampNeg.testBit a.toNatClampNeg = true) : (clrB S a).toNatClampNeg = S.toNatClampNeg - 2 ^ a.toNatClampNeg ∧ 0 ≤ (clrB S a).toInt ∧ (clrB S a).toInt ≤ S.toInt := by
  have e1 := i_clq h0
  have e2 := i_clq h2
  have hr := i_and_l (x := S) (y := ((1 : Int32) <<< (a &&& 31)) ^^^ (-1 : Int32)) h0
  refine ⟨?_, hr⟩
  rcases clv_tab ⟨S.toNatClampNeg, by omega⟩ ⟨a.toNatClampNeg, by omega⟩ with g | g
  · have g' : S.toNatClampNeg.testBit a.toNatClampNeg = false := g
    rw [h] at g'
    cases g'
  · have g' : clrB (Int32.ofNat S.toNatClampNeg) (Int32.ofNat a.toNatClampNeg) = Int32.ofNat (S.toNatClampNeg - 2 ^ a.toNatClampNeg) := g
    rw [← i_nat3 h0, ← i_nat3 h2] at g'
    rw [g', cN_of (Nat.lt_of_le_of_lt (Nat.sub_le _ _) (by omega))]
theorem or_val {x y : Int32} (h0 : 0 ≤ x.toInt) (h1 : x.toInt ≤ 255) (h2 : 0 ≤ y.toInt) (h3 : y.toInt ≤ 255) : (x ||| y).toNatClampNeg = x.toNatClampNeg ||| y.toNatClampNeg ∧ 0 ≤ (x ||| y).toInt ∧ (x ||| y).toInt ≤ 255 := by
  have h := i_or (k := 8) (x := x) (y := y) (by decide) h0 (by omega) h2 (by omega)
  have e1 := i_tn h0
  have e2 := i_tn h2
  have e3 := i_tn h.1
  have c1 := i_clq h0
  have c2 := i_clq h2
  have c3 := i_clq h.1
  have e : (x ||| y).toBitVec.toNat = x.toBitVec.toNat ||| y.toBitVec.toNat := by rw [Int32.toBitVec_or, BitVec.toNat_or]
  refine ⟨?_, h.1, by omega⟩
  rw [show (x ||| y).toNatClampNeg = (x ||| y).toBitVec.toNat by omega, show x.toNatClampNeg = x.toBitVec.toNat by omega, show y.toNatClampNeg = y.toBitVec.toNat by omega, e]
theorem and_val {x y : Int32} (h0 : 0 ≤ x.toInt) (h2 : 0 ≤ y.toInt) : (x &&& y).toNatClampNeg = x.toNatClampNeg &&& y.toNatClampNeg := by
  have h := i_and_l (x := x) (y := y) h0
  have e1 := i_tn h0
  have e2 := i_tn h2
  have e3 := i_tn h.1
  have c1 := i_clq h0
  have c2 := i_clq h2
  have c3 := i_clq h.1
  have e : (x &&& y).toBitVec.toNat = x.toBitVec.toNat &&& y.toBitVec.toNat := by rw [Int32.toBitVec_and, BitVec.toNat_and]
  rw [show (x &&& y).toNatClampNeg = (x &&& y).toBitVec.toNat by omega, show x.toNatClampNeg = x.toBitVec.toNat by omega, show y.toNatClampNeg = y.toBitVec.toNat by omega, e]
theorem cN_0 {x : Int32} (h0 : 0 ≤ x.toInt) : x = 0 ↔ x.toNatClampNeg = 0 := by
  have c := i_clq h0
  have t0 := tl_0
  rw [i_eq_iff]
  omega
theorem and_meet {x y : Int32} (h0 : 0 ≤ x.toInt) (h1 : x.toInt ≤ 255) (h2 : 0 ≤ y.toInt) : ¬ x &&& y = 0 ↔ ∃ c, x.toNatClampNeg.testBit c = true ∧ y.toNatClampNeg.testBit c = true := by
  have h := i_and_l (x := x) (y := y) h0
  have cz := i_clq h.1
  rw [cN_0 h.1, and_val h0 h2]
  constructor
  · intro hn
    by_cases c : ∃ c, x.toNatClampNeg.testBit c = true ∧ y.toNatClampNeg.testBit c = true
    · exact c
    · exfalso
      apply hn
      apply Nat.eq_of_testBit_eq
      intro k
      rw [Nat.testBit_and, Nat.zero_testBit]
      cases e1 : x.toNatClampNeg.testBit k with
      | false => rfl
      | true =>
        cases e2 : y.toNatClampNeg.testBit k with
        | false => rfl
        | true => exact absurd ⟨k, e1, e2⟩ c
  · rintro ⟨c, e1, e2⟩ hz
    have h3 : (x.toNatClampNeg &&& y.toNatClampNeg).testBit c = true := by rw [Nat.testBit_and, e1, e2]; rfl
    rw [hz, Nat.zero_testBit] at h3
    cases h3
set_option maxRecDepth 100000 in
theorem sub_tab : ∀ S : Fin 256, ∀ K : Fin 256, decide (Int32.ofNat S.1 &&& (Int32.ofNat K.1 ^^^ (-1 : Int32)) = 0) = decide (S.1 &&& K.1 = S.1) := by decide +kernel
theorem sub_z {S K : Int32} (h0 : 0 ≤ S.toInt) (h1 : S.toInt ≤ 255) (h2 : 0 ≤ K.toInt) (h3 : K.toInt ≤ 255) : S &&& (K ^^^ (-1 : Int32)) = 0 ↔ S.toNatClampNeg &&& K.toNatClampNeg = S.toNatClampNeg := by
  have e1 := i_clq h0
  have e2 := i_clq h2
  have h := sub_tab ⟨S.toNatClampNeg, by omega⟩ ⟨K.toNatClampNeg, by omega⟩
  have h' : decide (Int32.ofNat S.toNatClampNeg &&& (Int32.ofNat K.toNatClampNeg ^^^ (-1 : Int32)) = 0) = decide (S.toNatClampNeg &&& K.toNatClampNeg = S.toNatClampNeg) := h
  rw [← i_nat3 h0, ← i_nat3 h2] at h'
  constructor
  · intro h4
    rw [decide_eq_true h4] at h'
    exact of_decide_eq_true h'.symm
  · intro h4
    rw [decide_eq_true h4] at h'
    exact of_decide_eq_true h'
theorem sub_bits {S K : Nat} (hS : S < 256) : S &&& K = S ↔ ∀ k, k < 8 → S.testBit k = true → K.testBit k = true := by
  constructor
  · intro h k _ hk
    rw [← h, Nat.testBit_and, Bool.and_eq_true] at hk
    exact hk.2
  · intro h
    apply Nat.eq_of_testBit_eq
    intro k
    rw [Nat.testBit_and]
    cases e : S.testBit k with
    | false => rfl
    | true => rw [h k (tb_8 hS e) e]; rfl
theorem sub_cl {S K a : Nat} (hS : S < 256) (ha : a < 8) (hb : S.testBit a = true) (h : S &&& K = S) : (S - 2 ^ a) &&& K = S - 2 ^ a := by
  have h1 := (sub_bits hS).mp h
  exact (sub_bits (Nat.lt_of_le_of_lt (Nat.sub_le _ _) hS)).mpr (fun k hk hk2 => h1 k hk ((cl_bit hS ha hk hb).mp hk2).1)
/-! the least of a set, and sums over it -/
def lst (n : Nat) : Nat := if n.testBit 0 = true then 0 else if n.testBit 1 = true then 1 else if n.testBit 2 = true then 2 else if n.testBit 3 = true then 3 else if n.testBit 4 = true then 4 else if n.testBit 5 = true then 5 else if n.testBit 6 = true then 6 else 7
set_option maxRecDepth 100000 in
theorem lst_tab : ∀ x : Fin 256, x.1 = 0 ∨ (lst x.1 < 8 ∧ x.1.testBit (lst x.1) = true ∧ Int32.ofNat x.1 &&& (Int32.ofNat x.1 - 1) = Int32.ofNat (x.1 - 2 ^ lst x.1) ∧ f_X9_leastOf (Int32.ofNat x.1) = some (Int32.ofNat (lst x.1))) := by decide +kernel
set_option maxRecDepth 100000 in
theorem lst_tab2 : ∀ x : Fin 256, x.1 = 0 ∨ f_X10_bits ((Int32.ofNat x.1 &&& (- Int32.ofNat x.1)) - 1) = some (Int32.ofNat (lst x.1)) := by decide +kernel
set_option maxRecDepth 100000 in
theorem pb_tab : ∀ x : Fin 256, f_X10_bits (Int32.ofNat x.1) = some (Int32.ofNat (pb x.1)) ∧ pb x.1 ≤ 8 := by decide +kernel
theorem lst_i {x : Int32} (h0 : 0 ≤ x.toInt) (h1 : x.toInt ≤ 255) (hn : ¬ x.toNatClampNeg = 0) : (lst x.toNatClampNeg < 8 ∧ x.toNatClampNeg.testBit (lst x.toNatClampNeg) = true) ∧ (x &&& (x - 1)).toNatClampNeg = x.toNatClampNeg - 2 ^ lst x.toNatClampNeg ∧ f_X9_leastOf x = some (Int32.ofNat (lst x.toNatClampNeg)) ∧ f_X10_bits ((x &&& (- x)) - 1) = some (Int32.ofNat (lst x.toNatClampNeg)) := by
  have e := i_clq h0
  have g := lst_tab ⟨x.toNatClampNeg, by omega⟩
  have g' : x.toNatClampNeg = 0 ∨ (lst x.toNatClampNeg < 8 ∧ x.toNatClampNeg.testBit (lst x.toNatClampNeg) = true ∧ Int32.ofNat x.toNatClampNeg &&& (Int32.ofNat x.toNatClampNeg - 1) = Int32.ofNat (x.toNatClampNeg - 2 ^ lst x.toNatClampNeg) ∧ f_X9_leastOf (Int32.ofNat x.toNatClampNeg) = some (Int32.ofNat (lst x.toNatClampNeg))) := g
  have k := lst_tab2 ⟨x.toNatClampNeg, by omega⟩
  have k' : x.toNatClampNeg = 0 ∨ f_X10_bits ((Int32.ofNat x.toNatClampNeg &&& (- Int32.ofNat x.toNatClampNeg)) - 1) = some (Int32.ofNat (lst x.toNatClampNeg)) := k
  rw [← i_nat3 h0] at g' k'
  rcases g' with g' | ⟨g1, g2, g3, g4⟩
  · exact absurd g' hn
  · rcases k' with k' | k'
    · exact absurd k' hn
    · exact ⟨⟨g1, g2⟩, by rw [g3, cN_of (Nat.lt_of_le_of_lt (Nat.sub_le _ _) (by omega))], g4, k'⟩
theorem pb_i {x : Int32} (h0 : 0 ≤ x.toInt) (h1 : x.toInt ≤ 255) : f_X10_bits x = some (Int32.ofNat (pb x.toNatClampNeg)) ∧ pb x.toNatClampNeg ≤ 8 := by
  have e := i_clq h0
  have g := pb_tab ⟨x.toNatClampNeg, by omega⟩
  have g' : f_X10_bits (Int32.ofNat x.toNatClampNeg) = some (Int32.ofNat (pb x.toNatClampNeg)) ∧ pb x.toNatClampNeg ≤ 8 := g
  rw [← i_nat3 h0] at g'
  exact g'
def smK (St : Nat → Int) (S : Nat) : Nat → Int
  | 0 => 0
  | k + 1 => smK St S k + (if S.testBit k = true then St k else 0)
theorem smK_rng {St : Nat → Int} {S : Nat} (h : ∀ k, 0 ≤ St k ∧ St k ≤ 300) : ∀ k, 0 ≤ smK St S k ∧ smK St S k ≤ 300 * k := by
  intro k
  induction k with
  | zero => exact ⟨by show (0 : Int) ≤ 0; omega, by show (0 : Int) ≤ 300 * ((0 : Nat) : Int); omega⟩
  | succ k ih =>
    have hk := h k
    have e : smK St S (k + 1) = smK St S k + (if S.testBit k = true then St k else 0) := rfl
    rw [e]
    by_cases c : S.testBit k = true
    · rw [if_pos c]
      constructor <;> omega
    · rw [if_neg c]
      constructor <;> omega
theorem smK_cl {St : Nat → Int} {S a : Nat} (hS : S < 256) (ha : a < 8) (hb : S.testBit a = true) : ∀ k, k ≤ 8 → smK St S k = smK St (S - 2 ^ a) k + (if a < k then St a else 0) := by
  intro k
  induction k with
  | zero => intro _; rw [if_neg (by omega)]; show (0 : Int) = 0 + 0; omega
  | succ k ih =>
    intro hk
    have ih' := ih (by omega)
    have e : smK St S (k + 1) = smK St S k + (if S.testBit k = true then St k else 0) := rfl
    have e2 : smK St (S - 2 ^ a) (k + 1) = smK St (S - 2 ^ a) k + (if (S - 2 ^ a).testBit k = true then St k else 0) := rfl
    have hc := cl_bit hS ha (show k < 8 by omega) hb
    rw [e, e2, ih']
    by_cases ek : k = a
    · rw [ek] at hc ⊢
      rw [if_pos hb, if_neg (show ¬ (S - 2 ^ a).testBit a = true from fun q => (hc.mp q).2 rfl), if_neg (show ¬ a < a by omega), if_pos (show a < a + 1 by omega)]
    · by_cases c : S.testBit k = true
      · rw [if_pos c, if_pos (hc.mpr ⟨c, ek⟩)]
        by_cases c2 : a < k
        · rw [if_pos c2, if_pos (by omega)]; omega
        · rw [if_neg c2, if_neg (by omega)]; omega
      · rw [if_neg c, if_neg (fun q => c (hc.mp q).1)]
        by_cases c2 : a < k
        · rw [if_pos c2, if_pos (by omega)]; omega
        · rw [if_neg c2, if_neg (by omega)]
theorem smK_top {St : Nat → Int} {S M : Nat} (hS : S < 2 ^ M) : ∀ k, M ≤ k → smK St S k = smK St S M := by
  intro k
  induction k with
  | zero => intro h; rw [show M = 0 by omega]
  | succ k ih =>
    intro h
    by_cases c : M = k + 1
    · rw [c]
    · have e : smK St S (k + 1) = smK St S k + (if S.testBit k = true then St k else 0) := rfl
      have h2 : 2 ^ M ≤ 2 ^ k := Nat.pow_le_pow_right (by decide) (by omega)
      have h9 := Nat.testBit_lt_two_pow (x := S) (i := k) (by omega)
      rw [e, ih (by omega), if_neg (by rw [h9]; decide)]
      omega
/-! the longest talk: the sets gone through in their order -/
def tkS (G : Nat → Nat) (Sm : Nat → Int) (K S : Nat) (p : Int × Int × Int) : Int × Int × Int := if S &&& K = S ∧ ¬ G S = 0 ∧ 0 < Sm S ∧ (p.1 < Sm S ∨ (Sm S = p.1 ∧ (((pb S : Nat) : Int) < p.2.2 ∨ (((pb S : Nat) : Int) = p.2.2 ∧ ((lst (G S) : Nat) : Int) < p.2.1)))) then (Sm S, ((lst (G S) : Nat) : Int), ((pb S : Nat) : Int)) else p
def tk (G : Nat → Nat) (Sm : Nat → Int) (K : Nat) : Nat → Int × Int × Int
  | 0 => (0, -1, 0)
  | S + 1 => tkS G Sm K (S + 1) (tk G Sm K S)
theorem tk_stop {G : Nat → Nat} {Sm : Nat → Int} {K A : Nat} (hK : K ≤ A) : ∀ n, A ≤ n → tk G Sm K n = tk G Sm K A := by
  intro n
  induction n with
  | zero => intro h; rw [show A = 0 by omega]
  | succ n ih =>
    intro h
    by_cases c : A = n + 1
    · rw [c]
    · have h2 : n + 1 &&& K ≤ K := Nat.and_le_right
      have e : tk G Sm K (n + 1) = tkS G Sm K (n + 1) (tk G Sm K n) := rfl
      rw [e]
      unfold tkS
      rw [if_neg (fun q => by have := q.1; omega)]
      exact ih (by omega)
def WgC (x : Int) (G S : Nat) (p : Int × Int × Int) : Prop := ¬ G = 0 ∧ 0 < x ∧ (p.1 < x ∨ (x = p.1 ∧ (((pb S : Nat) : Int) < p.2.2 ∨ (((pb S : Nat) : Int) = p.2.2 ∧ ((lst G : Nat) : Int) < p.2.1))))
theorem tks_pos {G : Nat → Nat} {Sm : Nat → Int} {K S : Nat} {p : Int × Int × Int} (h : S &&& K = S) (hw : WgC (Sm S) (G S) S p) : tkS G Sm K S p = (Sm S, ((lst (G S) : Nat) : Int), ((pb S : Nat) : Int)) := by
  unfold tkS
  exact if_pos ⟨h, hw⟩
theorem tks_neg {G : Nat → Nat} {Sm : Nat → Int} {K S : Nat} {p : Int × Int × Int} (hw : ¬ (S &&& K = S ∧ WgC (Sm S) (G S) S p)) : tkS G Sm K S p = p := by
  unfold tkS
  exact if_neg hw
theorem smK_0 {St : Nat → Int} : ∀ k, smK St 0 k = 0 := by
  intro k
  induction k with
  | zero => rfl
  | succ k ih =>
    have e : smK St 0 (k + 1) = smK St 0 k + (if (0 : Nat).testBit k = true then St k else 0) := rfl
    rw [e, ih, Nat.zero_testBit, if_neg (by decide)]
    rfl
