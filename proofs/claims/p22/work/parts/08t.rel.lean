/-! TWO FUNCTIONS SIDE BY SIDE: if both end well, what they give satisfies P -/
def Pc {α : Type} (P : α → Prop) (o : Option α) : Prop := ∀ v, o = some v → P v
def Rc {α β : Type} (P : α → β → Prop) (o1 : Option α) (o2 : Option β) : Prop := ∀ v1 v2, o1 = some v1 → o2 = some v2 → P v1 v2
def lqP {S T : Type} (X : S → Prop) (P : T → Prop) : Sum S T → Prop
  | Sum.inl s => X s
  | Sum.inr r => P r
def lqR {S T S2 T2 : Type} (X : S → S2 → Prop) (P : T → T2 → Prop) : Sum S T → Sum S2 T2 → Prop
  | Sum.inl s, Sum.inl s2 => X s s2
  | Sum.inr r, Sum.inr r2 => P r r2
  | _, _ => False
theorem wu_ap (w : Mem) (k i : Nat) (v : Int32) (a b : Nat) : wu w k i v a b = if a = k ∧ b = i then v else w a b := by
  by_cases h : a = k ∧ b = i
  · rw [if_pos h, h.1, h.2, wu_at]
  · rw [if_neg h, wu_ne h]
section PCS
variable {α β γ : Type} {P : α → Prop}
theorem pc_some {v : α} (h : P v) : Pc P (some v) := by intro v2 h2; cases h2; exact h
theorem pc_none : Pc P none := by intro v2 h2; cases h2
theorem pc_mono {Q : α → Prop} {o : Option α} (h : Pc Q o) (hi : ∀ v, o = some v → Q v → P v) : Pc P o := fun v hv => hi v hv (h v hv)
theorem pc_lp {S T : Type} {P : T → Prop} {f : S → Option (Sum S T)} (X : S → Prop) (hb : ∀ s, X s → Pc (lqP X P) (f s)) : ∀ (n : Nat) (s : S), X s → Pc P (lp f n s) := by
  intro n
  induction n with
  | zero => intro s _ v h; cases h
  | succ n ih =>
    intro s hX v h
    unfold lp at h
    cases e : f s with
    | none => rw [e] at h; cases h
    | some q =>
      rw [e] at h
      have hq := hb s hX q e
      match q, h, hq with
      | Sum.inl s2, h, hq => exact ih s2 hq v h
      | Sum.inr r, h, hq => cases h; exact hq
theorem rc_lp {S T S2 T2 : Type} {P : T → T2 → Prop} {f : S → Option (Sum S T)} {f2 : S2 → Option (Sum S2 T2)} (X : S → S2 → Prop) (hb : ∀ s s2, X s s2 → Rc (lqR X P) (f s) (f2 s2)) : ∀ (n : Nat) (n2 : Nat) (s : S) (s2 : S2), X s s2 → Rc P (lp f n s) (lp f2 n2 s2) := by
  intro n
  induction n with
  | zero => intro n2 s s2 _ v v2 h; cases h
  | succ n ih =>
    intro n2 s s2 hX v v2 h h2
    cases n2 with
    | zero => cases h2
    | succ n2 =>
      unfold lp at h h2
      cases e : f s with
      | none => rw [e] at h; cases h
      | some q =>
        cases e2 : f2 s2 with
        | none => rw [e2] at h2; cases h2
        | some q2 =>
          rw [e] at h
          rw [e2] at h2
          have hq := hb s s2 hX q q2 e e2
          match q, q2, h, h2, hq with
          | Sum.inl s3, Sum.inl s4, h, h2, hq => exact ih n2 s3 s4 hq v v2 h h2
          | Sum.inr r, Sum.inr r2, h, h2, hq => cases h; cases h2; exact hq
          | Sum.inl s3, Sum.inr r2, h, h2, hq => exact hq.elim
          | Sum.inr r, Sum.inl s4, h, h2, hq => exact hq.elim
end PCS
section RCS
variable {α β γ δ : Type} {P : α → β → Prop}
theorem rc_some {v : α} {v2 : β} (h : P v v2) : Rc P (some v) (some v2) := by intro a b h1 h2; cases h1; cases h2; exact h
theorem rc_mono {Q : α → β → Prop} {o : Option α} {o2 : Option β} (h : Rc Q o o2) (hi : ∀ v v2, o = some v → o2 = some v2 → Q v v2 → P v v2) : Rc P o o2 := fun v v2 hv hv2 => hi v v2 hv hv2 (h v v2 hv hv2)
theorem rc_bind {Q : γ → δ → Prop} {F : Option γ} {F2 : Option δ} {K : γ → Option α} {K2 : δ → Option β} (hF : Rc Q F F2) (k : ∀ q q2, F = some q → F2 = some q2 → Q q q2 → Rc P (K q) (K2 q2)) : Rc P (F.bind K) (F2.bind K2) := by
  intro v v2 h h2
  cases e : F with
  | none => rw [e] at h; cases h
  | some q =>
    cases e2 : F2 with
    | none => rw [e2] at h2; cases h2
    | some q2 =>
      rw [e] at h
      rw [e2] at h2
      exact k q q2 e e2 (hF q q2 e e2) v v2 h h2
theorem rc_of_pc {o : Option α} {o2 : Option β} (h : Pc (fun v => Pc (P v) o2) o) : Rc P o o2 := fun v v2 hv hv2 => h v hv v2 hv2
end RCS
section Spc
variable {α γ : Type} {P : α → Prop}
theorem pc_rd {N : Nat} {a : Nat → Int32} {i : Int32} {K : Int32 → Option α} (h : 0 ≤ i.toInt ∧ i.toInt < N → Pc P (K (a i.toNatClampNeg))) : Pc P (rd N a i K) := by
  unfold rd
  by_cases hc : 0 ≤ i.toInt ∧ i.toInt < N
  · rw [if_pos hc]
    exact h hc
  · rw [if_neg hc]
    intro v9 h9; cases h9
theorem pc_rdl {N : Nat} {a : Nat → Int32} {i : Int32} {K : Int64 → Option α} (h : 0 ≤ i.toInt ∧ i.toInt < N → Pc P (K (a i.toNatClampNeg).toInt64)) : Pc P (rdl N a i K) := by
  unfold rdl
  by_cases hc : 0 ≤ i.toInt ∧ i.toInt < N
  · rw [if_pos hc]
    exact h hc
  · rw [if_neg hc]
    intro v9 h9; cases h9
theorem pc_wr {N k : Nat} {i v : Int32} {w : Mem} {K : Mem → Option α} (h : 0 ≤ i.toInt ∧ i.toInt < N → Pc P (K (wu w k i.toNatClampNeg v))) : Pc P (wr N k i v w K) := by
  unfold wr
  by_cases hc : 0 ≤ i.toInt ∧ i.toInt < N
  · rw [if_pos hc]
    exact h hc
  · rw [if_neg hc]
    intro v9 h9; cases h9
theorem pc_wrl {N k : Nat} {i : Int32} {v : Int64} {w : Mem} {K : Mem → Option α} (h : (0 ≤ i.toInt ∧ i.toInt < N) ∧ v.toInt32.toInt64 = v → Pc P (K (wu w k i.toNatClampNeg v.toInt32))) : Pc P (wrl N k i v w K) := by
  unfold wrl
  by_cases hc : (0 ≤ i.toInt ∧ i.toInt < N) ∧ v.toInt32.toInt64 = v
  · rw [if_pos hc]
    exact h hc
  · rw [if_neg hc]
    intro v9 h9; cases h9
theorem pc_pl {k i : Nat} {v : Int64} {w : Mem} {K : Mem → Option α} (h : v.toInt32.toInt64 = v → Pc P (K (wu w k i v.toInt32))) : Pc P (pl k i v w K) := by
  unfold pl
  by_cases hc : v.toInt32.toInt64 = v
  · rw [if_pos hc]
    exact h hc
  · rw [if_neg hc]
    intro v9 h9; cases h9
theorem pc_pr {k i b : Nat} {w : Mem} {K : Mem → Option α} (h : b = 112 ∨ b = 119 → Pc P (K (wu w k i (if b = 112 then 0 else 1)))) : Pc P (pr k i b w K) := by
  unfold pr
  by_cases hc : b = 112 ∨ b = 119
  · rw [if_pos hc]
    exact h hc
  · rw [if_neg hc]
    intro v9 h9; cases h9
theorem pc_rg {i : Int32} {K : Nat → Option α} (h : 0 ≤ i.toInt ∧ i.toInt < 30 → Pc P (K (8 + 3 * i.toNatClampNeg))) : Pc P (rg i K) := by
  unfold rg
  by_cases hc : 0 ≤ i.toInt ∧ i.toInt < 30
  · rw [if_pos hc]
    exact h hc
  · rw [if_neg hc]
    intro v9 h9; cases h9
theorem pc_ri {i : Int32} {K : Nat → Option α} (h : 0 ≤ i.toInt ∧ i.toInt < 2 → Pc P (K (126 + 4 * i.toNatClampNeg))) : Pc P (ri i K) := by
  unfold ri
  by_cases hc : 0 ≤ i.toInt ∧ i.toInt < 2
  · rw [if_pos hc]
    exact h hc
  · rw [if_neg hc]
    intro v9 h9; cases h9
theorem pc_zr {v : Int32} {o : Option α} (h : v = 0 ∨ v = 1 → Pc P (o)) : Pc P (zr v o) := by
  unfold zr
  by_cases hc : v = 0 ∨ v = 1
  · rw [if_pos hc]
    exact h hc
  · rw [if_neg hc]
    intro v9 h9; cases h9
theorem pc_nz {v : Int32} {o : Option α} (h : ¬ v = 0 → Pc P (o)) : Pc P (nz v o) := by
  unfold nz
  by_cases hc : v = 0
  · rw [if_pos hc]
    intro v9 h9; cases h9
  · rw [if_neg hc]
    exact h hc
theorem pc_nzl {v : Int64} {o : Option α} (h : ¬ v = 0 → Pc P (o)) : Pc P (nzl v o) := by
  unfold nzl
  by_cases hc : v = 0
  · rw [if_pos hc]
    intro v9 h9; cases h9
  · rw [if_neg hc]
    exact h hc
theorem pc_pw {k i : Nat} {v : Int32} {w : Mem} {K : Mem → Option α} (h : Pc P (K (wu w k i v))) : Pc P (pw k i v w K) := h
theorem pc_lt {v : Int32} {K : Int32 → Option α} (h : Pc P (K v)) : Pc P (lt v K) := h
theorem pc_ltl {v : Int64} {K : Int64 → Option α} (h : Pc P (K v)) : Pc P (ltl v K) := h
theorem pc_ite {c : Prop} [Decidable c] {A B : Option α} (h1 : c → Pc P (A)) (h2 : ¬ c → Pc P (B)) : Pc P (if c then A else B) := by
  by_cases h : c
  · rw [if_pos h]; exact h1 h
  · rw [if_neg h]; exact h2 h
theorem pc_bind {Q : γ → Prop} {F : Option γ} {K : γ → Option α} (hF : Pc Q F) (k : ∀ q, F = some q → Q q → Pc P (K q)) : Pc P (F.bind K) := by
  intro v h
  cases e : F with
  | none => rw [e] at h; cases h
  | some q => rw [e] at h; exact k q e (hF q e) v h
end Spc
section Srcl
variable {α γ : Type} {β : Type} {P : α → β → Prop} {o2 : Option β}
theorem rcl_rd {N : Nat} {a : Nat → Int32} {i : Int32} {K : Int32 → Option α} (h : 0 ≤ i.toInt ∧ i.toInt < N → Rc P (K (a i.toNatClampNeg)) o2) : Rc P (rd N a i K) o2 := by
  unfold rd
  by_cases hc : 0 ≤ i.toInt ∧ i.toInt < N
  · rw [if_pos hc]
    exact h hc
  · rw [if_neg hc]
    intro v9 v8 h9; cases h9
theorem rcl_rdl {N : Nat} {a : Nat → Int32} {i : Int32} {K : Int64 → Option α} (h : 0 ≤ i.toInt ∧ i.toInt < N → Rc P (K (a i.toNatClampNeg).toInt64) o2) : Rc P (rdl N a i K) o2 := by
  unfold rdl
  by_cases hc : 0 ≤ i.toInt ∧ i.toInt < N
  · rw [if_pos hc]
    exact h hc
  · rw [if_neg hc]
    intro v9 v8 h9; cases h9
theorem rcl_wr {N k : Nat} {i v : Int32} {w : Mem} {K : Mem → Option α} (h : 0 ≤ i.toInt ∧ i.toInt < N → Rc P (K (wu w k i.toNatClampNeg v)) o2) : Rc P (wr N k i v w K) o2 := by
  unfold wr
  by_cases hc : 0 ≤ i.toInt ∧ i.toInt < N
  · rw [if_pos hc]
    exact h hc
  · rw [if_neg hc]
    intro v9 v8 h9; cases h9
theorem rcl_wrl {N k : Nat} {i : Int32} {v : Int64} {w : Mem} {K : Mem → Option α} (h : (0 ≤ i.toInt ∧ i.toInt < N) ∧ v.toInt32.toInt64 = v → Rc P (K (wu w k i.toNatClampNeg v.toInt32)) o2) : Rc P (wrl N k i v w K) o2 := by
  unfold wrl
  by_cases hc : (0 ≤ i.toInt ∧ i.toInt < N) ∧ v.toInt32.toInt64 = v
  · rw [if_pos hc]
    exact h hc
  · rw [if_neg hc]
    intro v9 v8 h9; cases h9
theorem rcl_pl {k i : Nat} {v : Int64} {w : Mem} {K : Mem → Option α} (h : v.toInt32.toInt64 = v → Rc P (K (wu w k i v.toInt32)) o2) : Rc P (pl k i v w K) o2 := by
  unfold pl
  by_cases hc : v.toInt32.toInt64 = v
  · rw [if_pos hc]
    exact h hc
  · rw [if_neg hc]
    intro v9 v8 h9; cases h9
theorem rcl_pr {k i b : Nat} {w : Mem} {K : Mem → Option α} (h : b = 112 ∨ b = 119 → Rc P (K (wu w k i (if b = 112 then 0 else 1))) o2) : Rc P (pr k i b w K) o2 := by
  unfold pr
  by_cases hc : b = 112 ∨ b = 119
  · rw [if_pos hc]
    exact h hc
  · rw [if_neg hc]
    intro v9 v8 h9; cases h9
theorem rcl_rg {i : Int32} {K : Nat → Option α} (h : 0 ≤ i.toInt ∧ i.toInt < 30 → Rc P (K (8 + 3 * i.toNatClampNeg)) o2) : Rc P (rg i K) o2 := by
  unfold rg
  by_cases hc : 0 ≤ i.toInt ∧ i.toInt < 30
  · rw [if_pos hc]
    exact h hc
  · rw [if_neg hc]
    intro v9 v8 h9; cases h9
theorem rcl_ri {i : Int32} {K : Nat → Option α} (h : 0 ≤ i.toInt ∧ i.toInt < 2 → Rc P (K (126 + 4 * i.toNatClampNeg)) o2) : Rc P (ri i K) o2 := by
  unfold ri
  by_cases hc : 0 ≤ i.toInt ∧ i.toInt < 2
  · rw [if_pos hc]
    exact h hc
  · rw [if_neg hc]
    intro v9 v8 h9; cases h9
theorem rcl_zr {v : Int32} {o : Option α} (h : v = 0 ∨ v = 1 → Rc P (o) o2) : Rc P (zr v o) o2 := by
  unfold zr
  by_cases hc : v = 0 ∨ v = 1
  · rw [if_pos hc]
    exact h hc
  · rw [if_neg hc]
    intro v9 v8 h9; cases h9
theorem rcl_nz {v : Int32} {o : Option α} (h : ¬ v = 0 → Rc P (o) o2) : Rc P (nz v o) o2 := by
  unfold nz
  by_cases hc : v = 0
  · rw [if_pos hc]
    intro v9 v8 h9; cases h9
  · rw [if_neg hc]
    exact h hc
theorem rcl_nzl {v : Int64} {o : Option α} (h : ¬ v = 0 → Rc P (o) o2) : Rc P (nzl v o) o2 := by
  unfold nzl
  by_cases hc : v = 0
  · rw [if_pos hc]
    intro v9 v8 h9; cases h9
  · rw [if_neg hc]
    exact h hc
theorem rcl_pw {k i : Nat} {v : Int32} {w : Mem} {K : Mem → Option α} (h : Rc P (K (wu w k i v)) o2) : Rc P (pw k i v w K) o2 := h
theorem rcl_lt {v : Int32} {K : Int32 → Option α} (h : Rc P (K v) o2) : Rc P (lt v K) o2 := h
theorem rcl_ltl {v : Int64} {K : Int64 → Option α} (h : Rc P (K v) o2) : Rc P (ltl v K) o2 := h
theorem rcl_ite {c : Prop} [Decidable c] {A B : Option α} (h1 : c → Rc P (A) o2) (h2 : ¬ c → Rc P (B) o2) : Rc P (if c then A else B) o2 := by
  by_cases h : c
  · rw [if_pos h]; exact h1 h
  · rw [if_neg h]; exact h2 h
theorem rcl_bind {Q : γ → Prop} {F : Option γ} {K : γ → Option α} (hF : Pc Q F) (k : ∀ q, F = some q → Q q → Rc P (K q) o2) : Rc P (F.bind K) o2 := by
  intro v v2 h h2
  cases e : F with
  | none => rw [e] at h; cases h
  | some q => rw [e] at h; exact k q e (hF q e) v v2 h h2
end Srcl
section Srcr
variable {α γ : Type} {β : Type} {P : β → α → Prop} {o2 : Option β}
theorem rcr_rd {N : Nat} {a : Nat → Int32} {i : Int32} {K : Int32 → Option α} (h : 0 ≤ i.toInt ∧ i.toInt < N → Rc P o2 (K (a i.toNatClampNeg))) : Rc P o2 (rd N a i K) := by
  unfold rd
  by_cases hc : 0 ≤ i.toInt ∧ i.toInt < N
  · rw [if_pos hc]
    exact h hc
  · rw [if_neg hc]
    intro v9 v8 _ h9; cases h9
theorem rcr_rdl {N : Nat} {a : Nat → Int32} {i : Int32} {K : Int64 → Option α} (h : 0 ≤ i.toInt ∧ i.toInt < N → Rc P o2 (K (a i.toNatClampNeg).toInt64)) : Rc P o2 (rdl N a i K) := by
  unfold rdl
  by_cases hc : 0 ≤ i.toInt ∧ i.toInt < N
  · rw [if_pos hc]
    exact h hc
  · rw [if_neg hc]
    intro v9 v8 _ h9; cases h9
theorem rcr_wr {N k : Nat} {i v : Int32} {w : Mem} {K : Mem → Option α} (h : 0 ≤ i.toInt ∧ i.toInt < N → Rc P o2 (K (wu w k i.toNatClampNeg v))) : Rc P o2 (wr N k i v w K) := by
  unfold wr
  by_cases hc : 0 ≤ i.toInt ∧ i.toInt < N
  · rw [if_pos hc]
    exact h hc
  · rw [if_neg hc]
    intro v9 v8 _ h9; cases h9
theorem rcr_wrl {N k : Nat} {i : Int32} {v : Int64} {w : Mem} {K : Mem → Option α} (h : (0 ≤ i.toInt ∧ i.toInt < N) ∧ v.toInt32.toInt64 = v → Rc P o2 (K (wu w k i.toNatClampNeg v.toInt32))) : Rc P o2 (wrl N k i v w K) := by
  unfold wrl
  by_cases hc : (0 ≤ i.toInt ∧ i.toInt < N) ∧ v.toInt32.toInt64 = v
  · rw [if_pos hc]
    exact h hc
  · rw [if_neg hc]
    intro v9 v8 _ h9; cases h9
theorem rcr_pl {k i : Nat} {v : Int64} {w : Mem} {K : Mem → Option α} (h : v.toInt32.toInt64 = v → Rc P o2 (K (wu w k i v.toInt32))) : Rc P o2 (pl k i v w K) := by
  unfold pl
  by_cases hc : v.toInt32.toInt64 = v
  · rw [if_pos hc]
    exact h hc
  · rw [if_neg hc]
    intro v9 v8 _ h9; cases h9
theorem rcr_pr {k i b : Nat} {w : Mem} {K : Mem → Option α} (h : b = 112 ∨ b = 119 → Rc P o2 (K (wu w k i (if b = 112 then 0 else 1)))) : Rc P o2 (pr k i b w K) := by
  unfold pr
  by_cases hc : b = 112 ∨ b = 119
  · rw [if_pos hc]
    exact h hc
  · rw [if_neg hc]
    intro v9 v8 _ h9; cases h9
theorem rcr_rg {i : Int32} {K : Nat → Option α} (h : 0 ≤ i.toInt ∧ i.toInt < 30 → Rc P o2 (K (8 + 3 * i.toNatClampNeg))) : Rc P o2 (rg i K) := by
  unfold rg
  by_cases hc : 0 ≤ i.toInt ∧ i.toInt < 30
  · rw [if_pos hc]
    exact h hc
  · rw [if_neg hc]
    intro v9 v8 _ h9; cases h9
theorem rcr_ri {i : Int32} {K : Nat → Option α} (h : 0 ≤ i.toInt ∧ i.toInt < 2 → Rc P o2 (K (126 + 4 * i.toNatClampNeg))) : Rc P o2 (ri i K) := by
  unfold ri
  by_cases hc : 0 ≤ i.toInt ∧ i.toInt < 2
  · rw [if_pos hc]
    exact h hc
  · rw [if_neg hc]
    intro v9 v8 _ h9; cases h9
theorem rcr_zr {v : Int32} {o : Option α} (h : v = 0 ∨ v = 1 → Rc P o2 (o)) : Rc P o2 (zr v o) := by
  unfold zr
  by_cases hc : v = 0 ∨ v = 1
  · rw [if_pos hc]
    exact h hc
  · rw [if_neg hc]
    intro v9 v8 _ h9; cases h9
theorem rcr_nz {v : Int32} {o : Option α} (h : ¬ v = 0 → Rc P o2 (o)) : Rc P o2 (nz v o) := by
  unfold nz
  by_cases hc : v = 0
  · rw [if_pos hc]
    intro v9 v8 _ h9; cases h9
  · rw [if_neg hc]
    exact h hc
theorem rcr_nzl {v : Int64} {o : Option α} (h : ¬ v = 0 → Rc P o2 (o)) : Rc P o2 (nzl v o) := by
  unfold nzl
  by_cases hc : v = 0
  · rw [if_pos hc]
    intro v9 v8 _ h9; cases h9
  · rw [if_neg hc]
    exact h hc
theorem rcr_pw {k i : Nat} {v : Int32} {w : Mem} {K : Mem → Option α} (h : Rc P o2 (K (wu w k i v))) : Rc P o2 (pw k i v w K) := h
theorem rcr_lt {v : Int32} {K : Int32 → Option α} (h : Rc P o2 (K v)) : Rc P o2 (lt v K) := h
theorem rcr_ltl {v : Int64} {K : Int64 → Option α} (h : Rc P o2 (K v)) : Rc P o2 (ltl v K) := h
theorem rcr_ite {c : Prop} [Decidable c] {A B : Option α} (h1 : c → Rc P o2 (A)) (h2 : ¬ c → Rc P o2 (B)) : Rc P o2 (if c then A else B) := by
  by_cases h : c
  · rw [if_pos h]; exact h1 h
  · rw [if_neg h]; exact h2 h
theorem rcr_bind {Q : γ → Prop} {F : Option γ} {K : γ → Option α} (hF : Pc Q F) (k : ∀ q, F = some q → Q q → Rc P o2 (K q)) : Rc P o2 (F.bind K) := by
  intro v v2 h h2
  cases e : F with
  | none => rw [e] at h2; cases h2
  | some q => rw [e] at h2; exact k q e (hF q e) v v2 h h2
end Srcr
