/-! orders of a set of travellers -/
theorem p10_pos (l : Nat) : 0 < 10 ^ l := by
  induction l with
  | zero => decide
  | succ l ih => rw [Nat.pow_succ]; omega
def pmq (r : Nat → List (List Nat)) (S a : Nat) : List (List Nat) := if S.testBit a = true then (r (S - 2 ^ a)).map (fun p => a :: p) else []
def pm : Nat → Nat → List (List Nat)
  | 0, _ => [[]]
  | k + 1, S => pmq (fun T => pm k T) S 0 ++ (pmq (fun T => pm k T) S 1 ++ (pmq (fun T => pm k T) S 2 ++ (pmq (fun T => pm k T) S 3 ++ (pmq (fun T => pm k T) S 4 ++ pmq (fun T => pm k T) S 5))))
theorem mem_pmq {r : Nat → List (List Nat)} {S a : Nat} {p : List Nat} : p ∈ pmq r S a ↔ S.testBit a = true ∧ ∃ p', p' ∈ r (S - 2 ^ a) ∧ p = a :: p' := by
  unfold pmq
  by_cases c : S.testBit a = true
  · rw [if_pos c, List.mem_map]
    constructor
    · rintro ⟨p', h1, h2⟩
      exact ⟨c, p', h1, h2.symm⟩
    · rintro ⟨_, p', h1, h2⟩
      exact ⟨p', h1, h2.symm⟩
  · rw [if_neg c]
    constructor
    · intro h; cases h
    · rintro ⟨h, _⟩; exact absurd h c
theorem mem_pm {k S : Nat} {p : List Nat} : p ∈ pm (k + 1) S ↔ ∃ a, a < 6 ∧ S.testBit a = true ∧ ∃ p', p' ∈ pm k (S - 2 ^ a) ∧ p = a :: p' := by
  have e : pm (k + 1) S = pmq (fun T => pm k T) S 0 ++ (pmq (fun T => pm k T) S 1 ++ (pmq (fun T => pm k T) S 2 ++ (pmq (fun T => pm k T) S 3 ++ (pmq (fun T => pm k T) S 4 ++ pmq (fun T => pm k T) S 5)))) := rfl
  rw [e, List.mem_append, List.mem_append, List.mem_append, List.mem_append, List.mem_append, mem_pmq, mem_pmq, mem_pmq, mem_pmq, mem_pmq, mem_pmq]
  constructor
  · rintro (h | h | h | h | h | h)
    · exact ⟨0, by omega, h⟩
    · exact ⟨1, by omega, h⟩
    · exact ⟨2, by omega, h⟩
    · exact ⟨3, by omega, h⟩
    · exact ⟨4, by omega, h⟩
    · exact ⟨5, by omega, h⟩
  · rintro ⟨a, ha, h⟩
    rcases (show a = 0 ∨ a = 1 ∨ a = 2 ∨ a = 3 ∨ a = 4 ∨ a = 5 by omega) with e | e | e | e | e | e
    · rw [e] at h; exact Or.inl h
    · rw [e] at h; exact Or.inr (Or.inl h)
    · rw [e] at h; exact Or.inr (Or.inr (Or.inl h))
    · rw [e] at h; exact Or.inr (Or.inr (Or.inr (Or.inl h)))
    · rw [e] at h; exact Or.inr (Or.inr (Or.inr (Or.inr (Or.inl h))))
    · rw [e] at h; exact Or.inr (Or.inr (Or.inr (Or.inr (Or.inr h))))
def fg : List Nat → Nat
  | [] => 0
  | a :: p => (a + 1) * 10 ^ p.length + fg p
theorem pm_len : ∀ k S p, p ∈ pm k S → p.length = k := by
  intro k
  induction k with
  | zero =>
    intro S p h
    have h' : p ∈ [[]] := h
    rw [List.mem_singleton] at h'
    rw [h']
    rfl
  | succ k ih =>
    intro S p h
    obtain ⟨a, _, _, p', h1, h2⟩ := mem_pm.mp h
    rw [h2, List.length_cons, ih _ _ h1]
theorem pm_lt : ∀ k S p, p ∈ pm k S → fg p < 10 ^ k := by
  intro k
  induction k with
  | zero =>
    intro S p h
    have h' : p ∈ [[]] := h
    rw [List.mem_singleton] at h'
    rw [h']
    decide
  | succ k ih =>
    intro S p h
    obtain ⟨a, ha, _, p', h1, h2⟩ := mem_pm.mp h
    have e : fg (a :: p') = (a + 1) * 10 ^ p'.length + fg p' := rfl
    have h3 := ih _ _ h1
    have h4 : (a + 1) * 10 ^ k ≤ 6 * 10 ^ k := Nat.mul_le_mul_right _ (by omega)
    rw [h2, e, pm_len _ _ _ h1, Nat.pow_succ]
    omega
theorem dg_inj {B a d x y : Nat} (hx : x < B) (hy : y < B) (h : a * B + x = d * B + y) : a = d ∧ x = y := by
  rcases Nat.lt_trichotomy a d with c | c | c
  · have h1 := Nat.mul_le_mul_right B (show a + 1 ≤ d from c)
    rw [Nat.add_mul, Nat.one_mul] at h1
    omega
  · rw [c] at h ⊢
    exact ⟨rfl, by omega⟩
  · have h1 := Nat.mul_le_mul_right B (show d + 1 ≤ a from c)
    rw [Nat.add_mul, Nat.one_mul] at h1
    omega
theorem md10 (f l : Nat) : f % 10 ^ (l + 1) = (f / 10 ^ l % 10) * 10 ^ l + f % 10 ^ l := by
  rw [Nat.pow_succ, Nat.mod_mul, Nat.mul_comm (10 ^ l) (f / 10 ^ l % 10), Nat.add_comm]
/-! what an order is paid -/
def pyl (mi py pa : Nat → Int) : List Nat → Int → Int → Int
  | [], _, s => s
  | a :: p, g, s => if g ≤ pa a then pyl mi py pa p (g + mi a) (s + py a) else pyl mi py pa p g s
theorem pyl_pos {mi py pa : Nat → Int} (h : ∀ a, 0 ≤ py a) : ∀ p g s, 0 ≤ s → 0 ≤ pyl mi py pa p g s := by
  intro p
  induction p with
  | nil => intro g s hs; exact hs
  | cons a p ih =>
    intro g s hs
    have e : pyl mi py pa (a :: p) g s = if g ≤ pa a then pyl mi py pa p (g + mi a) (s + py a) else pyl mi py pa p g s := rfl
    have ha := h a
    rw [e]
    by_cases c : g ≤ pa a
    · rw [if_pos c]; exact ih _ _ (by omega)
    · rw [if_neg c]; exact ih _ _ hs
def PoR (mi py pa : Nat → Int) (f l R : Nat) (g s r : Int) : Prop := (∃ p, p ∈ pm l R ∧ fg p = f % 10 ^ l ∧ r = pyl mi py pa p g s) ∨ (r = -1 ∧ ∀ p, p ∈ pm l R → ¬ fg p = f % 10 ^ l)
theorem por_0 {mi py pa : Nat → Int} {f R : Nat} {g s : Int} : PoR mi py pa f 0 R g s s := by
  refine Or.inl ⟨[], List.mem_singleton.mpr rfl, ?_, rfl⟩
  rw [Nat.pow_zero, Nat.mod_one]
  rfl
theorem por_bad {mi py pa : Nat → Int} {f l R : Nat} {g s : Int} (h : ∀ a, a < 6 → f / 10 ^ l % 10 = a + 1 → ¬ R.testBit a = true) : PoR mi py pa f (l + 1) R g s (-1) := by
  refine Or.inr ⟨rfl, fun p hp e => ?_⟩
  obtain ⟨a, ha, hb, p', h1, h2⟩ := mem_pm.mp hp
  have e2 : fg (a :: p') = (a + 1) * 10 ^ p'.length + fg p' := rfl
  have h3 := pm_lt _ _ _ h1
  have hpos : 0 < 10 ^ l := p10_pos _
  rw [h2, e2, pm_len _ _ _ h1, md10] at e
  have h4 := dg_inj h3 (Nat.mod_lt _ hpos) e
  exact h a ha h4.1.symm hb
theorem por_ok {mi py pa : Nat → Int} {f l R a : Nat} {g s r g' s' : Int} (ha : a < 6) (hd : f / 10 ^ l % 10 = a + 1) (hb : R.testBit a = true) (hg : (g ≤ pa a ∧ g' = g + mi a ∧ s' = s + py a) ∨ (¬ g ≤ pa a ∧ g' = g ∧ s' = s)) (h : PoR mi py pa f l (R - 2 ^ a) g' s' r) : PoR mi py pa f (l + 1) R g s r := by
  have hpos : 0 < 10 ^ l := p10_pos _
  rcases h with ⟨p, h1, h2, h3⟩ | ⟨h1, h2⟩
  · refine Or.inl ⟨a :: p, mem_pm.mpr ⟨a, ha, hb, p, h1, rfl⟩, ?_, ?_⟩
    · have e2 : fg (a :: p) = (a + 1) * 10 ^ p.length + fg p := rfl
      rw [e2, pm_len _ _ _ h1, md10, hd, h2]
    · have e : pyl mi py pa (a :: p) g s = if g ≤ pa a then pyl mi py pa p (g + mi a) (s + py a) else pyl mi py pa p g s := rfl
      rw [h3, e]
      rcases hg with ⟨c, c2, c3⟩ | ⟨c, c2, c3⟩
      · rw [if_pos c, c2, c3]
      · rw [if_neg c, c2, c3]
  · refine Or.inr ⟨h1, fun q hq e => ?_⟩
    obtain ⟨a2, _, _, p', k1, k2⟩ := mem_pm.mp hq
    have e2 : fg (a2 :: p') = (a2 + 1) * 10 ^ p'.length + fg p' := rfl
    have k3 := pm_lt _ _ _ k1
    rw [k2, e2, pm_len _ _ _ k1, md10] at e
    have k4 := dg_inj k3 (Nat.mod_lt _ hpos) e
    have ea : a2 = a := by omega
    rw [ea] at k1
    exact h2 p' k1 k4.2
/-! the figures of an order, one by one -/
theorem pm_dig : ∀ k S p n, p ∈ pm k S → S < 2 ^ n → n ≤ 6 → ∀ j, j < k → 1 ≤ fg p / 10 ^ j % 10 ∧ fg p / 10 ^ j % 10 ≤ n := by
  intro k
  induction k with
  | zero => intro S p n _ _ _ j hj; omega
  | succ k ih =>
    intro S p n h hS hn j hj
    obtain ⟨a, ha, hb, p', h1, h2⟩ := mem_pm.mp h
    have e2 : fg (a :: p') = (a + 1) * 10 ^ p'.length + fg p' := rfl
    have h3 := pm_lt _ _ _ h1
    have han := tb_lt hS hb
    have hpos : 0 < 10 ^ k := p10_pos _
    rw [h2, e2, pm_len _ _ _ h1]
    by_cases c : j = k
    · have e : ((a + 1) * 10 ^ k + fg p') / 10 ^ k = a + 1 := by
        rw [Nat.mul_comm, Nat.mul_add_div hpos, Nat.div_eq_of_lt h3]
      rw [c, e]
      omega
    · have hk : 10 ^ k = 10 ^ j * 10 ^ (k - j) := by rw [← Nat.pow_add]; congr 1; omega
      have hk2 : 10 ^ (k - j) = 10 ^ (k - j - 1) * 10 := by rw [← Nat.pow_succ]; congr 1; omega
      have hpj : 0 < 10 ^ j := p10_pos _
      have e : ((a + 1) * 10 ^ k + fg p') / 10 ^ j % 10 = fg p' / 10 ^ j % 10 := by
        rw [hk, show (a + 1) * (10 ^ j * 10 ^ (k - j)) = 10 ^ j * ((a + 1) * 10 ^ (k - j)) by rw [Nat.mul_left_comm], Nat.mul_add_div hpj, hk2, show (a + 1) * (10 ^ (k - j - 1) * 10) = 10 * ((a + 1) * 10 ^ (k - j - 1)) by rw [← Nat.mul_assoc, Nat.mul_comm], Nat.mul_add_mod]
      rw [e]
      exact ih _ p' n h1 (Nat.lt_of_le_of_lt (Nat.sub_le _ _) hS) hn j (by omega)
