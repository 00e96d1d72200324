/-! FRAMES: what a function leaves as it was -/
def Fr {α : Type} (U : Nat → Nat → Prop) (w : Mem) (mf : α → Mem) (o : Option α) : Prop := ∀ v, o = some v → ∀ k i, ¬ U k i → mf v k i = w k i
theorem wu_at (w : Mem) (k i : Nat) (v : Int32) : wu w k i v k i = v := by
  unfold wu upd
  rw [if_pos rfl, if_pos rfl]
theorem wu_ne {w : Mem} {k i a b : Nat} {v : Int32} (h : ¬ (a = k ∧ b = i)) : wu w k i v a b = w a b := by
  unfold wu
  by_cases e : a = k
  · subst e
    rw [if_pos rfl]
    unfold upd
    rw [if_neg (fun q => h ⟨rfl, q⟩)]
  · rw [if_neg e]
theorem brp_or (x : Int32) : brp x = 112 ∨ brp x = 119 := brp_ok x
section FRS
variable {α β : Type} {U : Nat → Nat → Prop} {w : Mem} {mf : α → Mem}
theorem fr_some {v : α} (h : mf v = w) : Fr U w mf (some v) := by
  intro v2 h2 k i _
  cases h2
  rw [h]
theorem fr_up {k i : Nat} {v : Int32} {o : Option α} (hU : U k i) (h : Fr U (wu w k i v) mf o) : Fr U w mf o := by
  intro v2 h2 a b hn
  rw [h v2 h2 a b hn, wu_ne]
  rintro ⟨rfl, rfl⟩
  exact hn hU
theorem fr_pw {k i : Nat} {v : Int32} {K : Mem → Option α} (hU : U k i) (h : ∀ w2, Fr U w2 mf (K w2)) : Fr U w mf (pw k i v w K) := fr_up hU (h _)
theorem fr_none : Fr U w mf none := by intro v h; cases h
theorem fr_pl {k i : Nat} {v : Int64} {K : Mem → Option α} (hU : U k i) (h : ∀ w2, Fr U w2 mf (K w2)) : Fr U w mf (pl k i v w K) := by
  unfold pl
  split
  · exact fr_up hU (h _)
  · exact fr_none
theorem fr_pr {k i b : Nat} {K : Mem → Option α} (hU : U k i) (h : ∀ w2, Fr U w2 mf (K w2)) : Fr U w mf (pr k i b w K) := by
  unfold pr
  split
  · exact fr_up hU (h _)
  · exact fr_none
theorem fr_rd {N : Nat} {a : Nat → Int32} {i : Int32} {K : Int32 → Option α} (h : ∀ x, Fr U w mf (K x)) : Fr U w mf (rd N a i K) := by
  unfold rd
  split
  · exact h _
  · exact fr_none
theorem fr_rdl {N : Nat} {a : Nat → Int32} {i : Int32} {K : Int64 → Option α} (h : ∀ x, Fr U w mf (K x)) : Fr U w mf (rdl N a i K) := by
  unfold rdl
  split
  · exact h _
  · exact fr_none
theorem fr_wr {N k : Nat} {i v : Int32} {K : Mem → Option α} (hU : ∀ j, U k j) (h : ∀ w2, Fr U w2 mf (K w2)) : Fr U w mf (wr N k i v w K) := by
  unfold wr
  split
  · exact fr_up (hU _) (h _)
  · exact fr_none
theorem fr_wrl {N k : Nat} {i : Int32} {v : Int64} {K : Mem → Option α} (hU : ∀ j, U k j) (h : ∀ w2, Fr U w2 mf (K w2)) : Fr U w mf (wrl N k i v w K) := by
  unfold wrl
  split
  · exact fr_up (hU _) (h _)
  · exact fr_none
theorem fr_rg {i : Int32} {K : Nat → Option α} (h : ∀ o, EvO o → (8 ≤ o ∧ o ≤ 95) → Fr U w mf (K o)) : Fr U w mf (rg i K) := by
  unfold rg
  split
  · rename_i hb
    have := i_cl0 (n := 30) hb.1 hb.2
    exact h _ (Or.inr (Or.inr (Or.inr ⟨_, this, rfl⟩))) (by omega)
  · exact fr_none
theorem fr_ri {i : Int32} {K : Nat → Option α} (h : ∀ o, ImO o → (o = 126 ∨ o = 130) → Fr U w mf (K o)) : Fr U w mf (ri i K) := by
  unfold ri
  split
  · rename_i hb
    have := i_cl0 (n := 2) hb.1 hb.2
    have h2 : 126 + 4 * i.toNatClampNeg = 126 ∨ 126 + 4 * i.toNatClampNeg = 130 := by omega
    exact h _ h2 h2
  · exact fr_none
theorem fr_nz {y : Int32} {o : Option α} (h : Fr U w mf o) : Fr U w mf (nz y o) := by
  unfold nz
  split
  · exact fr_none
  · exact h
theorem fr_nzl {y : Int64} {o : Option α} (h : Fr U w mf o) : Fr U w mf (nzl y o) := by
  unfold nzl
  split
  · exact fr_none
  · exact h
theorem fr_zr {y : Int32} {o : Option α} (h : Fr U w mf o) : Fr U w mf (zr y o) := by
  unfold zr
  split
  · exact h
  · exact fr_none
theorem fr_lt {v : Int32} {K : Int32 → Option α} (h : ∀ x, Fr U w mf (K x)) : Fr U w mf (lt v K) := h v
theorem fr_ltl {v : Int64} {K : Int64 → Option α} (h : ∀ x, Fr U w mf (K x)) : Fr U w mf (ltl v K) := h v
theorem fr_ite {P : Prop} [Decidable P] {A B : Option α} (h1 : Fr U w mf A) (h2 : Fr U w mf B) : Fr U w mf (if P then A else B) := by
  split
  · exact h1
  · exact h2
theorem fr_call1 {F : Option Int32} {K : Int32 → Option α} (h : ∀ q, Fr U w mf (K q)) : Fr U w mf (F.bind K) := by
  intro v hv
  obtain ⟨q, h1, h2⟩ := Option.bind_eq_some_iff.mp hv
  exact h q v h2
theorem fr_join {A : Option β} {K : β → Option α} (mA : β → Mem) (h1 : Fr U w mA A) (h2 : ∀ v, Fr U (mA v) mf (K v)) : Fr U w mf (A.bind K) := by
  intro v hv k i hn
  obtain ⟨q, e1, e2⟩ := Option.bind_eq_some_iff.mp hv
  rw [h2 q v e2 k i hn, h1 q e1 k i hn]
theorem fr_call2 {F : Option (Int32 × Mem)} {K : Int32 × Mem → Option α} (h1 : ∀ q, F = some q → ∀ k i, ¬ U k i → q.2 k i = w k i) (h2 : ∀ q, Fr U q.2 mf (K q)) : Fr U w mf (F.bind K) := fr_join (fun q => q.2) h1 h2
theorem fr_call3 {F : Option Mem} {K : Mem → Option α} (h1 : ∀ q, F = some q → ∀ k i, ¬ U k i → q k i = w k i) (h2 : ∀ q, Fr U q mf (K q)) : Fr U w mf (F.bind K) := fr_join (fun q => q) h1 h2
theorem fr_lp {S T : Type} {f : S → Option (Sum S T)} {mt : T → Mem} (ms : S → Mem) (h : ∀ s, Fr U (ms s) (Sum.elim ms mt) (f s)) : ∀ (n : Nat) (s : S), Fr U (ms s) mt (lp f n s) := by
  intro n
  induction n with
  | zero => intro s v h2; cases h2
  | succ n ih =>
    intro s v h2 k i hn
    unfold lp at h2
    match hf : f s with
    | none => rw [hf] at h2; cases h2
    | some (Sum.inl s2) =>
      rw [hf] at h2
      rw [ih s2 v h2 k i hn]
      exact h s (Sum.inl s2) hf k i hn
    | some (Sum.inr r) =>
      rw [hf] at h2
      cases h2
      exact h s (Sum.inr v) hf k i hn
end FRS
theorem fr_X7_add (a1 : Int32) (w : Mem) (q : Int32 × Mem) (hq : f_X7_add a1 w = some q) : ∀ k i, ¬ ((k = 1 ∧ i = 1) ∨ k = 2) → q.2 k i = w k i := by
  refine (?_ : Fr (fun k i => (k = 1 ∧ i = 1) ∨ k = 2) w (fun q => q.2) (f_X7_add a1 w)) q hq
  unfold f_X7_add
  refine fr_ite ?_ ?_
  · refine fr_wr (fun i => by omega) (fun w1 => ?_)
    refine fr_pw (by omega) (fun w2 => ?_)
    exact fr_some rfl
  · exact fr_some rfl
theorem fr_X9_feed (a1 : Int32) (w : Mem) (q : Int32 × Mem) (hq : f_X9_feed a1 w = some q) : ∀ k i, ¬ ((k = 1 ∧ i = 1) ∨ k = 2) → q.2 k i = w k i := by
  refine (?_ : Fr (fun k i => (k = 1 ∧ i = 1) ∨ k = 2) w (fun q => q.2) (f_X9_feed a1 w)) q hq
  unfold f_X9_feed
  refine fr_ite ?_ ?_
  · exact fr_some rfl
  · refine fr_ite ?_ ?_
    · exact fr_some rfl
    · refine fr_call2 (fun q h k i hU => fr_X7_add a1 w q h k i (by omega)) (fun q1 => ?_)
      refine fr_ite ?_ ?_
      · exact fr_some rfl
      · exact fr_some rfl
theorem fr_X1_clear (b0 : Nat) (hb0 : BrO b0) (w : Mem) (q : Mem) (hq : f_X1_clear b0 w = some q) : ∀ k i, ¬ (k = b0) → q k i = w k i := by
  refine (?_ : Fr (fun k i => k = b0) w (fun q => q) (f_X1_clear b0 w)) q hq
  unfold f_X1_clear
  refine fr_pw (by omega) (fun w1 => ?_)
  refine fr_pw (by omega) (fun w2 => ?_)
  refine fr_pw (by omega) (fun w3 => ?_)
  refine fr_pw (by omega) (fun w4 => ?_)
  exact fr_some rfl
theorem fr_X7_skipBlanks (w : Mem) (q : Mem) (hq : f_X7_skipBlanks w = some q) : ∀ k i, ¬ ((k = 1 ∧ i = 2)) → q k i = w k i := by
  refine (?_ : Fr (fun k i => (k = 1 ∧ i = 2)) w (fun q => q) (f_X7_skipBlanks w)) q hq
  unfold f_X7_skipBlanks
  refine fr_join (fun (v3 : Mem) => v3) ?_ (fun v3 => ?_)
  · refine fr_lp (fun (s0 : Mem) => s0) (fun s0 => ?_) _ _
    refine fr_ite ?_ ?_
    · refine fr_call1 (fun r1 => ?_)
      refine fr_ite ?_ ?_
      · refine fr_pw (by omega) (fun w2 => ?_)
        exact fr_some rfl
      · exact fr_some rfl
    · exact fr_some rfl
  · exact fr_some rfl
theorem fr_X7_note (a1 : Int32) (a2 : Int32) (w : Mem) (q : Mem) (hq : f_X7_note a1 a2 w = some q) : ∀ k i, ¬ ((k = 1 ∧ 3 ≤ i ∧ i ≤ 4)) → q k i = w k i := by
  refine (?_ : Fr (fun k i => (k = 1 ∧ 3 ≤ i ∧ i ≤ 4)) w (fun q => q) (f_X7_note a1 a2 w)) q hq
  unfold f_X7_note
  refine fr_ite ?_ ?_
  · refine fr_pw (by omega) (fun w1 => ?_)
    refine fr_pw (by omega) (fun w2 => ?_)
    exact fr_some rfl
  · exact fr_some rfl
theorem fr_X7_readNumber (a1 : Int32) (a2 : Int32) (w : Mem) (q : Int32 × Mem) (hq : f_X7_readNumber a1 a2 w = some q) : ∀ k i, ¬ ((k = 1 ∧ 2 ≤ i ∧ i ≤ 4)) → q.2 k i = w k i := by
  refine (?_ : Fr (fun k i => (k = 1 ∧ 2 ≤ i ∧ i ≤ 4)) w (fun q => q.2) (f_X7_readNumber a1 a2 w)) q hq
  unfold f_X7_readNumber
  refine fr_call3 (fun q h k i hU => fr_X7_skipBlanks  w q h k i (by omega)) (fun w1 => ?_)
  refine fr_join (fun (v8 : (Int32 × Mem)) => v8.2) ?_ (fun v8 => ?_)
  · refine fr_lp (fun (s12 : (Int32 × Mem)) => s12.2) (fun s12 => ?_) _ _
    refine fr_ite ?_ ?_
    · refine fr_call1 (fun r2 => ?_)
      refine fr_call1 (fun r3 => ?_)
      refine fr_ite ?_ ?_
      · exact fr_some rfl
      · refine fr_join (fun (v4 : Int32) => s12.2) ?_ (fun v4 => ?_)
        · refine fr_ite ?_ ?_
          · refine fr_call1 (fun r6 => ?_)
            refine fr_lt (fun t7 => ?_)
            exact fr_some rfl
          · exact fr_some rfl
        · refine fr_pw (by omega) (fun w5 => ?_)
          exact fr_some rfl
    · exact fr_some rfl
  · refine fr_join (fun (v9 : Mem) => v9) ?_ (fun v9 => ?_)
    · refine fr_ite ?_ ?_
      · refine fr_call3 (fun q h k i hU => fr_X7_note (1 : Int32) (w1 1 2) v8.2 q h k i (by omega)) (fun w13 => ?_)
        exact fr_some rfl
      · refine fr_ite ?_ ?_
        · refine fr_call3 (fun q h k i hU => fr_X7_note (2 : Int32) (w1 1 2) v8.2 q h k i (by omega)) (fun w10 => ?_)
          exact fr_some rfl
        · refine fr_ite ?_ ?_
          · refine fr_call3 (fun q h k i hU => fr_X7_note (2 : Int32) (w1 1 2) v8.2 q h k i (by omega)) (fun w11 => ?_)
            exact fr_some rfl
          · refine fr_ite ?_ ?_
            · refine fr_call3 (fun q h k i hU => fr_X7_note (2 : Int32) (w1 1 2) v8.2 q h k i (by omega)) (fun w12 => ?_)
              exact fr_some rfl
            · exact fr_some rfl
    · exact fr_some rfl
theorem fr_X7_readEnd (w : Mem) (q : Int32 × Mem) (hq : f_X7_readEnd w = some q) : ∀ k i, ¬ ((k = 1 ∧ 2 ≤ i ∧ i ≤ 4)) → q.2 k i = w k i := by
  refine (?_ : Fr (fun k i => (k = 1 ∧ 2 ≤ i ∧ i ≤ 4)) w (fun q => q.2) (f_X7_readEnd w)) q hq
  unfold f_X7_readEnd
  refine fr_call3 (fun q h k i hU => fr_X7_skipBlanks  w q h k i (by omega)) (fun w1 => ?_)
  refine fr_call1 (fun r2 => ?_)
  refine fr_join (fun (v3 : Mem) => v3) ?_ (fun v3 => ?_)
  · refine fr_ite ?_ ?_
    · exact fr_some rfl
    · refine fr_call3 (fun q h k i hU => fr_X7_note (1 : Int32) (w1 1 2) w1 q h k i (by omega)) (fun w5 => ?_)
      exact fr_some rfl
  · refine fr_pw (by omega) (fun w4 => ?_)
    refine fr_ite ?_ ?_
    · exact fr_some rfl
    · exact fr_some rfl
theorem fr_X1_addTraveller (b0 : Nat) (hb0 : BrO b0) (a1 : Int32) (a2 : Int32) (a3 : Int32) (w : Mem) (q : Mem) (hq : f_X1_addTraveller b0 a1 a2 a3 w = some q) : ∀ k i, ¬ ((b0 + 3 ≤ k ∧ k ≤ b0 + 5) ∨ (k = b0 ∧ i = 3)) → q k i = w k i := by
  refine (?_ : Fr (fun k i => (b0 + 3 ≤ k ∧ k ≤ b0 + 5) ∨ (k = b0 ∧ i = 3)) w (fun q => q) (f_X1_addTraveller b0 a1 a2 a3 w)) q hq
  unfold f_X1_addTraveller
  refine fr_ite ?_ ?_
  · refine fr_wr (fun i => by omega) (fun w1 => ?_)
    refine fr_wr (fun i => by omega) (fun w2 => ?_)
    refine fr_wr (fun i => by omega) (fun w3 => ?_)
    refine fr_pw (by omega) (fun w4 => ?_)
    exact fr_some rfl
  · exact fr_some rfl
theorem fr_X7_readTraveller (b1 : Nat) (hb1 : BrO b1) (w : Mem) (q : Mem) (hq : f_X7_readTraveller b1 w = some q) : ∀ k i, ¬ ((b1 + 3 ≤ k ∧ k ≤ b1 + 5) ∨ (k = 1 ∧ 2 ≤ i ∧ i ≤ 4) ∨ (k = b1 ∧ i = 3)) → q k i = w k i := by
  refine (?_ : Fr (fun k i => (b1 + 3 ≤ k ∧ k ≤ b1 + 5) ∨ (k = 1 ∧ 2 ≤ i ∧ i ≤ 4) ∨ (k = b1 ∧ i = 3)) w (fun q => q) (f_X7_readTraveller b1 w)) q hq
  unfold f_X7_readTraveller
  refine fr_call2 (fun q h k i hU => fr_X7_readNumber (0 : Int32) (4 : Int32) w q h k i (by omega)) (fun q1 => ?_)
  refine fr_call2 (fun q h k i hU => fr_X7_readNumber (0 : Int32) (9 : Int32) q1.2 q h k i (by omega)) (fun q2 => ?_)
  refine fr_call2 (fun q h k i hU => fr_X7_readNumber (0 : Int32) (255 : Int32) q2.2 q h k i (by omega)) (fun q3 => ?_)
  refine fr_call2 (fun q h k i hU => fr_X7_readEnd  q3.2 q h k i (by omega)) (fun q4 => ?_)
  refine fr_ite ?_ ?_
  · exact fr_some rfl
  · refine fr_call3 (fun q h k i hU => fr_X1_addTraveller b1 hb1 q1.1 q2.1 q3.1 q4.2 q h k i (by omega)) (fun w5 => ?_)
    exact fr_some rfl
theorem fr_X1_addMatter (b0 : Nat) (hb0 : BrO b0) (a1 : Int32) (a2 : Int32) (w : Mem) (q : Mem) (hq : f_X1_addMatter b0 a1 a2 w = some q) : ∀ k i, ¬ ((b0 + 1 ≤ k ∧ k ≤ b0 + 2) ∨ (k = b0 ∧ i = 2)) → q k i = w k i := by
  refine (?_ : Fr (fun k i => (b0 + 1 ≤ k ∧ k ≤ b0 + 2) ∨ (k = b0 ∧ i = 2)) w (fun q => q) (f_X1_addMatter b0 a1 a2 w)) q hq
  unfold f_X1_addMatter
  refine fr_ite ?_ ?_
  · refine fr_wr (fun i => by omega) (fun w1 => ?_)
    refine fr_wr (fun i => by omega) (fun w2 => ?_)
    refine fr_pw (by omega) (fun w3 => ?_)
    exact fr_some rfl
  · exact fr_some rfl
theorem fr_X7_readMatter (b1 : Nat) (hb1 : BrO b1) (w : Mem) (q : Mem) (hq : f_X7_readMatter b1 w = some q) : ∀ k i, ¬ ((b1 + 1 ≤ k ∧ k ≤ b1 + 2) ∨ (k = 1 ∧ 2 ≤ i ∧ i ≤ 4) ∨ (k = b1 ∧ i = 2)) → q k i = w k i := by
  refine (?_ : Fr (fun k i => (b1 + 1 ≤ k ∧ k ≤ b1 + 2) ∨ (k = 1 ∧ 2 ≤ i ∧ i ≤ 4) ∨ (k = b1 ∧ i = 2)) w (fun q => q) (f_X7_readMatter b1 w)) q hq
  unfold f_X7_readMatter
  refine fr_call2 (fun q h k i hU => fr_X7_readNumber (1 : Int32) (60 : Int32) w q h k i (by omega)) (fun q1 => ?_)
  refine fr_call2 (fun q h k i hU => fr_X7_readNumber (0 : Int32) (255 : Int32) q1.2 q h k i (by omega)) (fun q2 => ?_)
  refine fr_call2 (fun q h k i hU => fr_X7_readEnd  q2.2 q h k i (by omega)) (fun q3 => ?_)
  refine fr_ite ?_ ?_
  · exact fr_some rfl
  · refine fr_call3 (fun q h k i hU => fr_X1_addMatter b1 hb1 q1.1 q2.1 q3.2 q h k i (by omega)) (fun w4 => ?_)
    exact fr_some rfl
theorem fr_X7_readRate (b1 : Nat) (hb1 : BrO b1) (w : Mem) (q : Mem) (hq : f_X7_readRate b1 w = some q) : ∀ k i, ¬ ((k = 1 ∧ 2 ≤ i ∧ i ≤ 4) ∨ (k = b1 ∧ i = 0) ∨ (k = b1 ∧ i = 1)) → q k i = w k i := by
  refine (?_ : Fr (fun k i => (k = 1 ∧ 2 ≤ i ∧ i ≤ 4) ∨ (k = b1 ∧ i = 0) ∨ (k = b1 ∧ i = 1)) w (fun q => q) (f_X7_readRate b1 w)) q hq
  unfold f_X7_readRate
  refine fr_call2 (fun q h k i hU => fr_X7_readNumber (1 : Int32) (60 : Int32) w q h k i (by omega)) (fun q1 => ?_)
  refine fr_call2 (fun q h k i hU => fr_X7_readNumber (1 : Int32) (9 : Int32) q1.2 q h k i (by omega)) (fun q2 => ?_)
  refine fr_call2 (fun q h k i hU => fr_X7_readEnd  q2.2 q h k i (by omega)) (fun q3 => ?_)
  refine fr_ite ?_ ?_
  · exact fr_some rfl
  · refine fr_pw (by omega) (fun w4 => ?_)
    refine fr_pw (by omega) (fun w5 => ?_)
    exact fr_some rfl
theorem fr_X7_readClause (b1 : Nat) (hb1 : BrO b1) (w : Mem) (q : Mem) (hq : f_X7_readClause b1 w = some q) : ∀ k i, ¬ ((b1 + 0 ≤ k ∧ k ≤ b1 + 5) ∨ (k = 1 ∧ 2 ≤ i ∧ i ≤ 4)) → q k i = w k i := by
  refine (?_ : Fr (fun k i => (b1 + 0 ≤ k ∧ k ≤ b1 + 5) ∨ (k = 1 ∧ 2 ≤ i ∧ i ≤ 4)) w (fun q => q) (f_X7_readClause b1 w)) q hq
  unfold f_X7_readClause
  refine fr_call1 (fun r1 => ?_)
  refine fr_call1 (fun r2 => ?_)
  refine fr_ite ?_ ?_
  · refine fr_pw (by omega) (fun w3 => ?_)
    refine fr_ite ?_ ?_
    · refine fr_call3 (fun q h k i hU => fr_X7_readRate b1 hb1 w3 q h k i (by omega)) (fun w6 => ?_)
      exact fr_some rfl
    · refine fr_ite ?_ ?_
      · refine fr_call3 (fun q h k i hU => fr_X7_readMatter b1 hb1 w3 q h k i (by omega)) (fun w5 => ?_)
        exact fr_some rfl
      · refine fr_call3 (fun q h k i hU => fr_X7_readTraveller b1 hb1 w3 q h k i (by omega)) (fun w4 => ?_)
        exact fr_some rfl
  · refine fr_call3 (fun q h k i hU => fr_X7_note r2 (w 1 2) w q h k i (by omega)) (fun w7 => ?_)
    exact fr_some rfl
theorem fr_X1_settle (b0 : Nat) (hb0 : BrO b0) (w : Mem) (q : Mem) (hq : f_X1_settle b0 w = some q) : ∀ k i, ¬ ((b0 + 5 ≤ k ∧ k ≤ b0 + 6) ∨ k = b0 + 2) → q k i = w k i := by
  refine (?_ : Fr (fun k i => (b0 + 5 ≤ k ∧ k ≤ b0 + 6) ∨ k = b0 + 2) w (fun q => q) (f_X1_settle b0 w)) q hq
  unfold f_X1_settle
  refine fr_call1 (fun r1 => ?_)
  refine fr_join (fun (v4 : Mem) => v4) ?_ (fun v4 => ?_)
  · refine fr_lp (fun (s10 : (Int32 × Mem)) => s10.2) (fun s10 => ?_) _ _
    refine fr_ite ?_ ?_
    · refine fr_rd (fun x2 => ?_)
      refine fr_wr (fun i => by omega) (fun w3 => ?_)
      exact fr_some rfl
    · exact fr_some rfl
  · refine fr_join (fun (v7 : Mem) => v7) ?_ (fun v7 => ?_)
    · refine fr_lp (fun (s36 : (Int32 × Mem)) => s36.2) (fun s36 => ?_) _ _
      refine fr_ite ?_ ?_
      · refine fr_rd (fun x5 => ?_)
        refine fr_wr (fun i => by omega) (fun w6 => ?_)
        exact fr_some rfl
      · exact fr_some rfl
    · refine fr_join (fun (v10 : Mem) => v10) ?_ (fun v10 => ?_)
      · refine fr_lp (fun (s62 : (Int32 × Mem)) => s62.2) (fun s62 => ?_) _ _
        refine fr_ite ?_ ?_
        · exact fr_some rfl
        · refine fr_call1 (fun r8 => ?_)
          refine fr_wr (fun i => by omega) (fun w9 => ?_)
          exact fr_some rfl
      · exact fr_some rfl
theorem fr_X7_readInto (b1 : Nat) (hb1 : BrO b1) (w : Mem) (q : Mem) (hq : f_X7_readInto b1 w = some q) : ∀ k i, ¬ ((b1 + 0 ≤ k ∧ k ≤ b1 + 6) ∨ (k = 1 ∧ 2 ≤ i ∧ i ≤ 4)) → q k i = w k i := by
  refine (?_ : Fr (fun k i => (b1 + 0 ≤ k ∧ k ≤ b1 + 6) ∨ (k = 1 ∧ 2 ≤ i ∧ i ≤ 4)) w (fun q => q) (f_X7_readInto b1 w)) q hq
  unfold f_X7_readInto
  refine fr_pw (by omega) (fun w1 => ?_)
  refine fr_pw (by omega) (fun w2 => ?_)
  refine fr_pw (by omega) (fun w3 => ?_)
  refine fr_call3 (fun q h k i hU => fr_X1_clear b1 hb1 w3 q h k i (by omega)) (fun w4 => ?_)
  refine fr_call3 (fun q h k i hU => fr_X7_skipBlanks  w4 q h k i (by omega)) (fun w5 => ?_)
  refine fr_join (fun (v8 : Mem) => v8) ?_ (fun v8 => ?_)
  · refine fr_lp (fun (s25 : (Int32 × Mem)) => s25.2) (fun s25 => ?_) _ _
    refine fr_ite ?_ ?_
    · refine fr_ite ?_ ?_
      · refine fr_ite ?_ ?_
        · refine fr_call3 (fun q h k i hU => fr_X7_readClause b1 hb1 s25.2 q h k i (by omega)) (fun w6 => ?_)
          refine fr_call3 (fun q h k i hU => fr_X7_skipBlanks  w6 q h k i (by omega)) (fun w7 => ?_)
          exact fr_some rfl
        · exact fr_some rfl
      · exact fr_some rfl
    · exact fr_some rfl
  · refine fr_ite ?_ ?_
    · refine fr_call3 (fun q h k i hU => fr_X1_settle b1 hb1 v8 q h k i (by omega)) (fun w9 => ?_)
      exact fr_some rfl
    · exact fr_some rfl
theorem fr_X7_empty (w : Mem) (q : Mem) (hq : f_X7_empty w = some q) : ∀ k i, ¬ ((k = 1 ∧ i = 1)) → q k i = w k i := by
  refine (?_ : Fr (fun k i => (k = 1 ∧ i = 1)) w (fun q => q) (f_X7_empty w)) q hq
  unfold f_X7_empty
  refine fr_pw (by omega) (fun w1 => ?_)
  exact fr_some rfl
theorem fr_X3_emptySeat (w : Mem) (q : Mem) (hq : f_X3_emptySeat w = some q) : ∀ k i, ¬ ((k = 3 ∧ 4 ≤ i ∧ i ≤ 6)) → q k i = w k i := by
  refine (?_ : Fr (fun k i => (k = 3 ∧ 4 ≤ i ∧ i ≤ 6)) w (fun q => q) (f_X3_emptySeat w)) q hq
  unfold f_X3_emptySeat
  refine fr_pw (by omega) (fun w1 => ?_)
  refine fr_pw (by omega) (fun w2 => ?_)
  refine fr_pw (by omega) (fun w3 => ?_)
  exact fr_some rfl
theorem fr_X3_gather (b1 : Nat) (hb1 : BrO b1) (w : Mem) (q : Mem) (hq : f_X3_gather b1 w = some q) : ∀ k i, ¬ ((3 ≤ k ∧ k ≤ 5)) → q k i = w k i := by
  refine (?_ : Fr (fun k i => (3 ≤ k ∧ k ≤ 5)) w (fun q => q) (f_X3_gather b1 w)) q hq
  unfold f_X3_gather
  refine fr_call3 (fun q h k i hU => fr_X3_emptySeat  w q h k i (by omega)) (fun w1 => ?_)
  refine fr_call1 (fun r2 => ?_)
  refine fr_pw (by omega) (fun w3 => ?_)
  refine fr_pw (by omega) (fun w4 => ?_)
  refine fr_pw (by omega) (fun w5 => ?_)
  refine fr_join (fun (v8 : Mem) => v8) ?_ (fun v8 => ?_)
  · refine fr_lp (fun (s27 : (Int32 × Mem)) => s27.2) (fun s27 => ?_) _ _
    refine fr_ite ?_ ?_
    · refine fr_wr (fun i => by omega) (fun w6 => ?_)
      refine fr_wr (fun i => by omega) (fun w7 => ?_)
      exact fr_some rfl
    · exact fr_some rfl
  · exact fr_some rfl
theorem fr_X3_begin (b1 : Nat) (hb1 : BrO b1) (w : Mem) (q : Mem) (hq : f_X3_begin b1 w = some q) : ∀ k i, ¬ ((3 ≤ k ∧ k ≤ 5)) → q k i = w k i := by
  refine (?_ : Fr (fun k i => (3 ≤ k ∧ k ≤ 5)) w (fun q => q) (f_X3_begin b1 w)) q hq
  unfold f_X3_begin
  refine fr_pw (by omega) (fun w1 => ?_)
  refine fr_pw (by omega) (fun w2 => ?_)
  refine fr_pw (by omega) (fun w3 => ?_)
  refine fr_join (fun (v4 : Int32) => w3) ?_ (fun v4 => ?_)
  · refine fr_ite ?_ ?_
    · exact fr_some rfl
    · exact fr_some rfl
  · refine fr_pw (by omega) (fun w5 => ?_)
    refine fr_call3 (fun q h k i hU => fr_X3_gather b1 hb1 w5 q h k i (by omega)) (fun w6 => ?_)
    exact fr_some rfl
theorem fr_X6_forget (w : Mem) (q : Mem) (hq : f_X6_forget w = some q) : ∀ k i, ¬ ((k = 6 ∧ i = 1)) → q k i = w k i := by
  refine (?_ : Fr (fun k i => (k = 6 ∧ i = 1)) w (fun q => q) (f_X6_forget w)) q hq
  unfold f_X6_forget
  refine fr_pw (by omega) (fun w1 => ?_)
  exact fr_some rfl
theorem fr_X2_forget_106 (w : Mem) (q : Mem) (hq : f_X2_forget_106 w = some q) : ∀ k i, ¬ ((k = 106 ∧ i = 2)) → q k i = w k i := by
  refine (?_ : Fr (fun k i => (k = 106 ∧ i = 2)) w (fun q => q) (f_X2_forget_106 w)) q hq
  unfold f_X2_forget_106
  refine fr_pw (by omega) (fun w1 => ?_)
  exact fr_some rfl
theorem fr_X2_forget_109 (w : Mem) (q : Mem) (hq : f_X2_forget_109 w = some q) : ∀ k i, ¬ ((k = 109 ∧ i = 2)) → q k i = w k i := by
  refine (?_ : Fr (fun k i => (k = 109 ∧ i = 2)) w (fun q => q) (f_X2_forget_109 w)) q hq
  unfold f_X2_forget_109
  refine fr_pw (by omega) (fun w1 => ?_)
  exact fr_some rfl
theorem fr_X9_beginBridge (w : Mem) (q : Mem) (hq : f_X9_beginBridge w = some q) : ∀ k i, ¬ ((k = 106 ∧ i = 2) ∨ (k = 109 ∧ i = 2) ∨ (k = 6 ∧ i = 1) ∨ (126 ≤ k ∧ k ≤ 133) ∨ (3 ≤ k ∧ k ≤ 5)) → q k i = w k i := by
  refine (?_ : Fr (fun k i => (k = 106 ∧ i = 2) ∨ (k = 109 ∧ i = 2) ∨ (k = 6 ∧ i = 1) ∨ (126 ≤ k ∧ k ≤ 133) ∨ (3 ≤ k ∧ k ≤ 5)) w (fun q => q) (f_X9_beginBridge w)) q hq
  unfold f_X9_beginBridge
  refine fr_call3 (fun q h k i hU => fr_X3_begin (brp (w 0 8)) (brp_ok (w 0 8)) w q h k i (by have brf := brp_or (w 0 8); omega)) (fun w1 => ?_)
  refine fr_call3 (fun q h k i hU => fr_X6_forget  w1 q h k i (by omega)) (fun w2 => ?_)
  refine fr_call3 (fun q h k i hU => fr_X2_forget_106  w2 q h k i (by omega)) (fun w3 => ?_)
  refine fr_call3 (fun q h k i hU => fr_X2_forget_109  w3 q h k i (by omega)) (fun w4 => ?_)
  refine fr_join (fun (v7 : Mem) => v7) ?_ (fun v7 => ?_)
  · refine fr_lp (fun (s34 : (Int32 × Mem)) => s34.2) (fun s34 => ?_) _ _
    refine fr_ite ?_ ?_
    · refine fr_ri (fun o5 ho5 go5 => ?_)
      refine fr_pw (by omega) (fun w6 => ?_)
      exact fr_some rfl
    · exact fr_some rfl
  · exact fr_some rfl
theorem fr_X9_bridge (w : Mem) (q : Int32 × Mem) (hq : f_X9_bridge w = some q) : ∀ k i, ¬ ((k = 0 ∧ i = 11) ∨ (k = 106 ∧ i = 2) ∨ (k = 109 ∧ i = 2) ∨ (k = 6 ∧ i = 1) ∨ (k = 0 ∧ 8 ≤ i ∧ i ≤ 9) ∨ (k = 1 ∧ 1 ≤ i ∧ i ≤ 4) ∨ (112 ≤ k ∧ k ≤ 133) ∨ (3 ≤ k ∧ k ≤ 5)) → q.2 k i = w k i := by
  refine (?_ : Fr (fun k i => (k = 0 ∧ i = 11) ∨ (k = 106 ∧ i = 2) ∨ (k = 109 ∧ i = 2) ∨ (k = 6 ∧ i = 1) ∨ (k = 0 ∧ 8 ≤ i ∧ i ≤ 9) ∨ (k = 1 ∧ 1 ≤ i ∧ i ≤ 4) ∨ (112 ≤ k ∧ k ≤ 133) ∨ (3 ≤ k ∧ k ≤ 5)) w (fun q => q.2) (f_X9_bridge w)) q hq
  unfold f_X9_bridge
  refine fr_call3 (fun q h k i hU => fr_X7_readInto (brp (w 0 9)) (brp_ok (w 0 9)) w q h k i (by have brf := brp_or (w 0 9); omega)) (fun w1 => ?_)
  refine fr_call3 (fun q h k i hU => fr_X7_empty  w1 q h k i (by omega)) (fun w2 => ?_)
  refine fr_pw (by omega) (fun w3 => ?_)
  refine fr_ite ?_ ?_
  · refine fr_pr (by omega) (fun w4 => ?_)
    refine fr_pr (by omega) (fun w5 => ?_)
    refine fr_call3 (fun q h k i hU => fr_X9_beginBridge  w5 q h k i (by omega)) (fun w6 => ?_)
    exact fr_some rfl
  · exact fr_some rfl
theorem fr_X8_weigh (a1 : Int32) (a2 : Int32) (w : Mem) (q : Mem) (hq : f_X8_weigh a1 a2 w = some q) : ∀ k i, ¬ ((k = 99 ∧ 1 ≤ i ∧ i ≤ 3)) → q k i = w k i := by
  refine (?_ : Fr (fun k i => (k = 99 ∧ 1 ≤ i ∧ i ≤ 3)) w (fun q => q) (f_X8_weigh a1 a2 w)) q hq
  unfold f_X8_weigh
  refine fr_ite ?_ ?_
  · exact fr_some rfl
  · refine fr_rd (fun x1 => ?_)
    refine fr_ite ?_ ?_
    · exact fr_some rfl
    · refine fr_rd (fun x2 => ?_)
      refine fr_ite ?_ ?_
      · exact fr_some rfl
      · refine fr_call1 (fun r3 => ?_)
        refine fr_call1 (fun r4 => ?_)
        refine fr_rd (fun x5 => ?_)
        refine fr_ite ?_ ?_
        · refine fr_rd (fun x6 => ?_)
          refine fr_pw (by omega) (fun w7 => ?_)
          refine fr_pw (by omega) (fun w8 => ?_)
          refine fr_pw (by omega) (fun w9 => ?_)
          exact fr_some rfl
        · refine fr_ite ?_ ?_
          · refine fr_rd (fun x10 => ?_)
            refine fr_pw (by omega) (fun w11 => ?_)
            refine fr_pw (by omega) (fun w12 => ?_)
            refine fr_pw (by omega) (fun w13 => ?_)
            exact fr_some rfl
          · refine fr_ite ?_ ?_
            · refine fr_ite ?_ ?_
              · refine fr_rd (fun x14 => ?_)
                refine fr_pw (by omega) (fun w15 => ?_)
                refine fr_pw (by omega) (fun w16 => ?_)
                refine fr_pw (by omega) (fun w17 => ?_)
                exact fr_some rfl
              · exact fr_some rfl
            · exact fr_some rfl
theorem fr_X8_tryWith (b1 : Nat) (hb1 : BrO b1) (a2 : Int32) (a3 : Int32) (w : Mem) (q : Mem) (hq : f_X8_tryWith b1 a2 a3 w = some q) : ∀ k i, ¬ (k = 100 ∨ (k = 99 ∧ 1 ≤ i ∧ i ≤ 3)) → q k i = w k i := by
  refine (?_ : Fr (fun k i => k = 100 ∨ (k = 99 ∧ 1 ≤ i ∧ i ≤ 3)) w (fun q => q) (f_X8_tryWith b1 a2 a3 w)) q hq
  unfold f_X8_tryWith
  refine fr_pw (by omega) (fun w1 => ?_)
  refine fr_pw (by omega) (fun w2 => ?_)
  refine fr_pw (by omega) (fun w3 => ?_)
  refine fr_call1 (fun r4 => ?_)
  refine fr_join (fun (v12 : Mem) => v12) ?_ (fun v12 => ?_)
  · refine fr_lp (fun (s27 : (Int32 × Mem)) => s27.2) (fun s27 => ?_) _ _
    refine fr_ite ?_ ?_
    · exact fr_some rfl
    · refine fr_join (fun (v5 : Mem) => v5) ?_ (fun v5 => ?_)
      · refine fr_ite ?_ ?_
        · refine fr_rd (fun x6 => ?_)
          refine fr_call1 (fun r7 => ?_)
          refine fr_call1 (fun r8 => ?_)
          refine fr_wr (fun i => by omega) (fun w9 => ?_)
          refine fr_rd (fun x10 => ?_)
          refine fr_call3 (fun q h k i hU => fr_X8_weigh s27.1 x10 w9 q h k i (by omega)) (fun w11 => ?_)
          exact fr_some rfl
        · exact fr_some rfl
      · exact fr_some rfl
  · exact fr_some rfl
theorem fr_X8_worthOfAll (b1 : Nat) (hb1 : BrO b1) (a2 : Int32) (w : Mem) (q : Int32 × Mem) (hq : f_X8_worthOfAll b1 a2 w = some q) : ∀ k i, ¬ (k = 100 ∨ (k = 99 ∧ 1 ≤ i ∧ i ≤ 3)) → q.2 k i = w k i := by
  refine (?_ : Fr (fun k i => k = 100 ∨ (k = 99 ∧ 1 ≤ i ∧ i ≤ 3)) w (fun q => q.2) (f_X8_worthOfAll b1 a2 w)) q hq
  unfold f_X8_worthOfAll
  refine fr_join (fun (v3 : (Int32 × Mem)) => v3.2) ?_ (fun v3 => ?_)
  · refine fr_lp (fun (s5 : (Int32 × Int32 × Mem)) => s5.2.2) (fun s5 => ?_) _ _
    refine fr_ite ?_ ?_
    · refine fr_call3 (fun q h k i hU => fr_X8_tryWith b1 hb1 s5.2.1 a2 s5.2.2 q h k i (by omega)) (fun w1 => ?_)
      refine fr_call1 (fun r2 => ?_)
      exact fr_some rfl
    · exact fr_some rfl
  · exact fr_some rfl
theorem fr_X8_bestToLearn (b1 : Nat) (hb1 : BrO b1) (a2 : Int32) (w : Mem) (q : Int32 × Mem) (hq : f_X8_bestToLearn b1 a2 w = some q) : ∀ k i, ¬ (k = 100 ∨ (k = 99 ∧ 1 ≤ i ∧ i ≤ 3)) → q.2 k i = w k i := by
  refine (?_ : Fr (fun k i => k = 100 ∨ (k = 99 ∧ 1 ≤ i ∧ i ≤ 3)) w (fun q => q.2) (f_X8_bestToLearn b1 a2 w)) q hq
  unfold f_X8_bestToLearn
  refine fr_join (fun (v5 : (Int32 × Mem)) => v5.2) ?_ (fun v5 => ?_)
  · refine fr_lp (fun (s8 : (Int32 × Int32 × Int32 × Mem)) => s8.2.2.2) (fun s8 => ?_) _ _
    refine fr_ite ?_ ?_
    · refine fr_call1 (fun r1 => ?_)
      refine fr_join (fun (v2 : (Int32 × Mem)) => v2.2) ?_ (fun v2 => ?_)
      · refine fr_ite ?_ ?_
        · refine fr_call2 (fun q h k i hU => fr_X8_worthOfAll b1 hb1 (a2 ||| ((1 : Int32) <<< (s8.2.2.1 &&& 31))) s8.2.2.2 q h k i (by omega)) (fun q4 => ?_)
          exact fr_some rfl
        · exact fr_some rfl
      · refine fr_join (fun (v3 : (Int32 × Int32)) => v2.2) ?_ (fun v3 => ?_)
        · refine fr_ite ?_ ?_
          · exact fr_some rfl
          · exact fr_some rfl
        · exact fr_some rfl
    · exact fr_some rfl
  · exact fr_some rfl
theorem fr_X9_told (a1 : Int32) (w : Mem) (q : Int32 × Mem) (hq : f_X9_told a1 w = some q) : ∀ k i, ¬ (k = 100 ∨ (k = 99 ∧ 1 ≤ i ∧ i ≤ 3)) → q.2 k i = w k i := by
  refine (?_ : Fr (fun k i => k = 100 ∨ (k = 99 ∧ 1 ≤ i ∧ i ≤ 3)) w (fun q => q.2) (f_X9_told a1 w)) q hq
  unfold f_X9_told
  refine fr_ite ?_ ?_
  · exact fr_some rfl
  · refine fr_ite ?_ ?_
    · exact fr_some rfl
    · refine fr_ite ?_ ?_
      · exact fr_some rfl
      · refine fr_ite ?_ ?_
        · exact fr_some rfl
        · refine fr_ite ?_ ?_
          · exact fr_some rfl
          · refine fr_ite ?_ ?_
            · refine fr_call1 (fun r6 => ?_)
              exact fr_some rfl
            · refine fr_ite ?_ ?_
              · refine fr_call1 (fun r8 => ?_)
                exact fr_some rfl
              · refine fr_ite ?_ ?_
                · refine fr_call1 (fun r10 => ?_)
                  exact fr_some rfl
                · refine fr_ite ?_ ?_
                  · refine fr_call1 (fun r12 => ?_)
                    exact fr_some rfl
                  · refine fr_ite ?_ ?_
                    · refine fr_call1 (fun r14 => ?_)
                      exact fr_some rfl
                    · refine fr_ite ?_ ?_
                      · refine fr_call1 (fun r16 => ?_)
                        exact fr_some rfl
                      · refine fr_ite ?_ ?_
                        · refine fr_call1 (fun r18 => ?_)
                          exact fr_some rfl
                        · refine fr_ite ?_ ?_
                          · refine fr_call1 (fun r20 => ?_)
                            exact fr_some rfl
                          · refine fr_ite ?_ ?_
                            · refine fr_call1 (fun r22 => ?_)
                              exact fr_some rfl
                            · refine fr_ite ?_ ?_
                              · refine fr_call1 (fun r24 => ?_)
                                exact fr_some rfl
                              · refine fr_ite ?_ ?_
                                · refine fr_call1 (fun r26 => ?_)
                                  exact fr_some rfl
                                · refine fr_ite ?_ ?_
                                  · refine fr_call1 (fun r28 => ?_)
                                    exact fr_some rfl
                                  · refine fr_ite ?_ ?_
                                    · refine fr_call2 (fun q h k i hU => fr_X8_bestToLearn (brp (w 0 8)) (brp_ok (w 0 8)) (w 3 3) w q h k i (by have brf := brp_or (w 0 8); omega)) (fun q30 => ?_)
                                      exact fr_some rfl
                                    · refine fr_ite ?_ ?_
                                      · exact fr_some rfl
                                      · refine fr_ite ?_ ?_
                                        · exact fr_some rfl
                                        · refine fr_ite ?_ ?_
                                          · exact fr_some rfl
                                          · refine fr_call1 (fun r35 => ?_)
                                            exact fr_some rfl
theorem fr_X3_copyFrom (b0 : Nat) (hb0 : EvO b0) (b1 : Nat) (hb1 : EvO b1) (w : Mem) (q : Mem) (hq : f_X3_copyFrom b0 b1 w = some q) : ∀ k i, ¬ ((b0 + 0 ≤ k ∧ k ≤ b0 + 2)) → q k i = w k i := by
  refine (?_ : Fr (fun k i => (b0 + 0 ≤ k ∧ k ≤ b0 + 2)) w (fun q => q) (f_X3_copyFrom b0 b1 w)) q hq
  unfold f_X3_copyFrom
  refine fr_pw (by omega) (fun w1 => ?_)
  refine fr_pw (by omega) (fun w2 => ?_)
  refine fr_pw (by omega) (fun w3 => ?_)
  refine fr_pw (by omega) (fun w4 => ?_)
  refine fr_pw (by omega) (fun w5 => ?_)
  refine fr_pw (by omega) (fun w6 => ?_)
  refine fr_pw (by omega) (fun w7 => ?_)
  refine fr_pw (by omega) (fun w8 => ?_)
  refine fr_pw (by omega) (fun w9 => ?_)
  refine fr_pw (by omega) (fun w10 => ?_)
  refine fr_join (fun (v15 : Mem) => v15) ?_ (fun v15 => ?_)
  · refine fr_lp (fun (s82 : (Int32 × Mem)) => s82.2) (fun s82 => ?_) _ _
    refine fr_ite ?_ ?_
    · refine fr_rd (fun x11 => ?_)
      refine fr_wr (fun i => by omega) (fun w12 => ?_)
      refine fr_rd (fun x13 => ?_)
      refine fr_wr (fun i => by omega) (fun w14 => ?_)
      exact fr_some rfl
    · exact fr_some rfl
  · exact fr_some rfl
theorem fr_X6_remember (w : Mem) (q : Mem) (hq : f_X6_remember w = some q) : ∀ k i, ¬ ((k = 6 ∧ 1 ≤ i ∧ i ≤ 2) ∨ (8 ≤ k ∧ k ≤ 97)) → q k i = w k i := by
  refine (?_ : Fr (fun k i => (k = 6 ∧ 1 ≤ i ∧ i ≤ 2) ∨ (8 ≤ k ∧ k ≤ 97)) w (fun q => q) (f_X6_remember w)) q hq
  unfold f_X6_remember
  refine fr_rg (fun o1 ho1 go1 => ?_)
  refine fr_call3 (fun q h k i hU => fr_X3_copyFrom o1 ho1 3 (Or.inl rfl) w q h k i (by omega)) (fun w2 => ?_)
  refine fr_pw (by omega) (fun w3 => ?_)
  refine fr_pw (by omega) (fun w4 => ?_)
  exact fr_some rfl
theorem fr_X3_takeSeat (a1 : Int32) (w : Mem) (q : Mem) (hq : f_X3_takeSeat a1 w = some q) : ∀ k i, ¬ ((k = 3 ∧ i = 4) ∨ (k = 3 ∧ i = 7)) → q k i = w k i := by
  refine (?_ : Fr (fun k i => (k = 3 ∧ i = 4) ∨ (k = 3 ∧ i = 7)) w (fun q => q) (f_X3_takeSeat a1 w)) q hq
  unfold f_X3_takeSeat
  refine fr_pw (by omega) (fun w1 => ?_)
  refine fr_pw (by omega) (fun w2 => ?_)
  exact fr_some rfl
theorem fr_X9_seat (a1 : Int32) (w : Mem) (q : Int32 × Mem) (hq : f_X9_seat a1 w = some q) : ∀ k i, ¬ ((k = 3 ∧ i = 4) ∨ (k = 3 ∧ i = 7) ∨ (k = 6 ∧ 1 ≤ i ∧ i ≤ 2) ∨ (8 ≤ k ∧ k ≤ 97)) → q.2 k i = w k i := by
  refine (?_ : Fr (fun k i => (k = 3 ∧ i = 4) ∨ (k = 3 ∧ i = 7) ∨ (k = 6 ∧ 1 ≤ i ∧ i ≤ 2) ∨ (8 ≤ k ∧ k ≤ 97)) w (fun q => q.2) (f_X9_seat a1 w)) q hq
  unfold f_X9_seat
  refine fr_call1 (fun r1 => ?_)
  refine fr_ite ?_ ?_
  · exact fr_some rfl
  · refine fr_ite ?_ ?_
    · refine fr_call1 (fun r2 => ?_)
      refine fr_ite ?_ ?_
      · exact fr_some rfl
      · refine fr_call3 (fun q h k i hU => fr_X6_remember  w q h k i (by omega)) (fun w3 => ?_)
        refine fr_call3 (fun q h k i hU => fr_X3_takeSeat a1 w3 q h k i (by omega)) (fun w4 => ?_)
        refine fr_rd (fun x5 => ?_)
        exact fr_some rfl
    · exact fr_some rfl
theorem fr_X3_takeUp (a1 : Int32) (w : Mem) (q : Mem) (hq : f_X3_takeUp a1 w = some q) : ∀ k i, ¬ ((k = 3 ∧ i = 3)) → q k i = w k i := by
  refine (?_ : Fr (fun k i => (k = 3 ∧ i = 3)) w (fun q => q) (f_X3_takeUp a1 w)) q hq
  unfold f_X3_takeUp
  refine fr_lt (fun t1 => ?_)
  refine fr_pw (by omega) (fun w2 => ?_)
  exact fr_some rfl
theorem fr_X3_leaveSeat (b1 : Nat) (hb1 : BrO b1) (w : Mem) (q : Int32 × Mem) (hq : f_X3_leaveSeat b1 w = some q) : ∀ k i, ¬ (k = 3) → q.2 k i = w k i := by
  refine (?_ : Fr (fun k i => k = 3) w (fun q => q.2) (f_X3_leaveSeat b1 w)) q hq
  unfold f_X3_leaveSeat
  refine fr_call3 (fun q h k i hU => fr_X3_emptySeat  w q h k i (by omega)) (fun w1 => ?_)
  refine fr_call1 (fun r2 => ?_)
  refine fr_ite ?_ ?_
  · exact fr_some rfl
  · refine fr_pw (by omega) (fun w3 => ?_)
    refine fr_rd (fun x4 => ?_)
    refine fr_call1 (fun r5 => ?_)
    refine fr_lt (fun t6 => ?_)
    refine fr_pw (by omega) (fun w7 => ?_)
    refine fr_call1 (fun r8 => ?_)
    refine fr_join (fun (v9 : Mem) => v9) ?_ (fun v9 => ?_)
    · refine fr_ite ?_ ?_
      · exact fr_some rfl
      · refine fr_rd (fun x10 => ?_)
        refine fr_call3 (fun q h k i hU => fr_X3_takeUp x10 w7 q h k i (by omega)) (fun w11 => ?_)
        exact fr_some rfl
    · exact fr_some rfl
theorem fr_X3_passMinutes (b1 : Nat) (hb1 : BrO b1) (a2 : Int32) (w : Mem) (q : Mem) (hq : f_X3_passMinutes b1 a2 w = some q) : ∀ k i, ¬ ((k = 3 ∧ i = 0) ∨ (k = 3 ∧ i = 7) ∨ (k = 3 ∧ i = 9) ∨ k = 4) → q k i = w k i := by
  refine (?_ : Fr (fun k i => (k = 3 ∧ i = 0) ∨ (k = 3 ∧ i = 7) ∨ (k = 3 ∧ i = 9) ∨ k = 4) w (fun q => q) (f_X3_passMinutes b1 a2 w)) q hq
  unfold f_X3_passMinutes
  refine fr_pw (by omega) (fun w1 => ?_)
  refine fr_join (fun (v10 : Mem) => v10) ?_ (fun v10 => ?_)
  · refine fr_lp (fun (s12 : (Int32 × Mem)) => s12.2) (fun s12 => ?_) _ _
    refine fr_ite ?_ ?_
    · refine fr_call1 (fun r2 => ?_)
      refine fr_join (fun (v3 : Mem) => v3) ?_ (fun v3 => ?_)
      · refine fr_ite ?_ ?_
        · exact fr_some rfl
        · refine fr_call1 (fun r4 => ?_)
          refine fr_rd (fun x5 => ?_)
          refine fr_wr (fun i => by omega) (fun w6 => ?_)
          refine fr_rd (fun x7 => ?_)
          refine fr_ite ?_ ?_
          · exact fr_some rfl
          · refine fr_pw (by omega) (fun w8 => ?_)
            refine fr_pw (by omega) (fun w9 => ?_)
            exact fr_some rfl
      · exact fr_some rfl
    · exact fr_some rfl
  · exact fr_some rfl
theorem fr_X3_hear (b1 : Nat) (hb1 : BrO b1) (a2 : Int32) (w : Mem) (q : Int32 × Mem) (hq : f_X3_hear b1 a2 w = some q) : ∀ k i, ¬ ((3 ≤ k ∧ k ≤ 5)) → q.2 k i = w k i := by
  refine (?_ : Fr (fun k i => (3 ≤ k ∧ k ≤ 5)) w (fun q => q.2) (f_X3_hear b1 a2 w)) q hq
  unfold f_X3_hear
  refine fr_call1 (fun r1 => ?_)
  refine fr_ite ?_ ?_
  · refine fr_call2 (fun q h k i hU => fr_X3_leaveSeat b1 hb1 w q h k i (by omega)) (fun q2 => ?_)
    exact fr_some rfl
  · refine fr_call1 (fun r3 => ?_)
    refine fr_ite ?_ ?_
    · refine fr_call2 (fun q h k i hU => fr_X3_leaveSeat b1 hb1 w q h k i (by omega)) (fun q10 => ?_)
      exact fr_some rfl
    · refine fr_call1 (fun r4 => ?_)
      refine fr_pw (by omega) (fun w5 => ?_)
      refine fr_pw (by omega) (fun w6 => ?_)
      refine fr_rd (fun x7 => ?_)
      refine fr_wr (fun i => by omega) (fun w8 => ?_)
      refine fr_call3 (fun q h k i hU => fr_X3_passMinutes b1 hb1 r4 w8 q h k i (by omega)) (fun w9 => ?_)
      exact fr_some rfl
theorem fr_X9_tell (a1 : Int32) (w : Mem) (q : Int32 × Mem) (hq : f_X9_tell a1 w = some q) : ∀ k i, ¬ ((k = 6 ∧ 1 ≤ i ∧ i ≤ 2) ∨ (3 ≤ k ∧ k ≤ 5) ∨ (8 ≤ k ∧ k ≤ 97)) → q.2 k i = w k i := by
  refine (?_ : Fr (fun k i => (k = 6 ∧ 1 ≤ i ∧ i ≤ 2) ∨ (3 ≤ k ∧ k ≤ 5) ∨ (8 ≤ k ∧ k ≤ 97)) w (fun q => q.2) (f_X9_tell a1 w)) q hq
  unfold f_X9_tell
  refine fr_call1 (fun r1 => ?_)
  refine fr_ite ?_ ?_
  · exact fr_some rfl
  · refine fr_call1 (fun r2 => ?_)
    refine fr_ite ?_ ?_
    · exact fr_some rfl
    · refine fr_call3 (fun q h k i hU => fr_X6_remember  w q h k i (by omega)) (fun w3 => ?_)
      refine fr_call2 (fun q h k i hU => fr_X3_hear (brp (w3 0 8)) (brp_ok (w3 0 8)) a1 w3 q h k i (by have brf := brp_or (w3 0 8); omega)) (fun q4 => ?_)
      exact fr_some rfl
theorem fr_X9_rise (w : Mem) (q : Int32 × Mem) (hq : f_X9_rise w = some q) : ∀ k i, ¬ (k = 3 ∨ (k = 6 ∧ 1 ≤ i ∧ i ≤ 2) ∨ (8 ≤ k ∧ k ≤ 97)) → q.2 k i = w k i := by
  refine (?_ : Fr (fun k i => k = 3 ∨ (k = 6 ∧ 1 ≤ i ∧ i ≤ 2) ∨ (8 ≤ k ∧ k ≤ 97)) w (fun q => q.2) (f_X9_rise w)) q hq
  unfold f_X9_rise
  refine fr_ite ?_ ?_
  · exact fr_some rfl
  · refine fr_call3 (fun q h k i hU => fr_X6_remember  w q h k i (by omega)) (fun w1 => ?_)
    refine fr_call2 (fun q h k i hU => fr_X3_leaveSeat (brp (w1 0 8)) (brp_ok (w1 0 8)) w1 q h k i (by have brf := brp_or (w1 0 8); omega)) (fun q2 => ?_)
    exact fr_some rfl
theorem fr_X9_learn (a1 : Int32) (w : Mem) (q : Int32 × Mem) (hq : f_X9_learn a1 w = some q) : ∀ k i, ¬ ((k = 3 ∧ i = 0) ∨ (k = 3 ∧ i = 3) ∨ (k = 3 ∧ i = 7) ∨ (k = 3 ∧ i = 9) ∨ k = 4 ∨ (k = 6 ∧ 1 ≤ i ∧ i ≤ 2) ∨ (8 ≤ k ∧ k ≤ 97)) → q.2 k i = w k i := by
  refine (?_ : Fr (fun k i => (k = 3 ∧ i = 0) ∨ (k = 3 ∧ i = 3) ∨ (k = 3 ∧ i = 7) ∨ (k = 3 ∧ i = 9) ∨ k = 4 ∨ (k = 6 ∧ 1 ≤ i ∧ i ≤ 2) ∨ (8 ≤ k ∧ k ≤ 97)) w (fun q => q.2) (f_X9_learn a1 w)) q hq
  unfold f_X9_learn
  refine fr_call1 (fun r1 => ?_)
  refine fr_ite ?_ ?_
  · exact fr_some rfl
  · refine fr_call1 (fun r2 => ?_)
    refine fr_ite ?_ ?_
    · refine fr_call3 (fun q h k i hU => fr_X6_remember  w q h k i (by omega)) (fun w3 => ?_)
      refine fr_pw (by omega) (fun w4 => ?_)
      refine fr_call3 (fun q h k i hU => fr_X3_passMinutes (brp (w4 0 8)) (brp_ok (w4 0 8)) (60 : Int32) w4 q h k i (by have brf := brp_or (w4 0 8); omega)) (fun w5 => ?_)
      refine fr_call1 (fun r6 => ?_)
      exact fr_some rfl
    · exact fr_some rfl
theorem fr_X9_minute (a1 : Int32) (w : Mem) (q : Int32 × Mem) (hq : f_X9_minute a1 w = some q) : ∀ k i, ¬ ((k = 3 ∧ i = 0) ∨ (k = 3 ∧ i = 7) ∨ (k = 3 ∧ i = 9) ∨ k = 4 ∨ (k = 6 ∧ 1 ≤ i ∧ i ≤ 2) ∨ (8 ≤ k ∧ k ≤ 97)) → q.2 k i = w k i := by
  refine (?_ : Fr (fun k i => (k = 3 ∧ i = 0) ∨ (k = 3 ∧ i = 7) ∨ (k = 3 ∧ i = 9) ∨ k = 4 ∨ (k = 6 ∧ 1 ≤ i ∧ i ≤ 2) ∨ (8 ≤ k ∧ k ≤ 97)) w (fun q => q.2) (f_X9_minute a1 w)) q hq
  unfold f_X9_minute
  refine fr_ite ?_ ?_
  · exact fr_some rfl
  · refine fr_ite ?_ ?_
    · exact fr_some rfl
    · refine fr_call1 (fun r1 => ?_)
      refine fr_ite ?_ ?_
      · exact fr_some rfl
      · refine fr_ite ?_ ?_
        · exact fr_some rfl
        · refine fr_call3 (fun q h k i hU => fr_X6_remember  w q h k i (by omega)) (fun w2 => ?_)
          refine fr_call3 (fun q h k i hU => fr_X3_passMinutes (brp (w2 0 8)) (brp_ok (w2 0 8)) a1 w2 q h k i (by have brf := brp_or (w2 0 8); omega)) (fun w3 => ?_)
          exact fr_some rfl
theorem fr_X9_anew (w : Mem) (q : Int32 × Mem) (hq : f_X9_anew w = some q) : ∀ k i, ¬ ((k = 6 ∧ 1 ≤ i ∧ i ≤ 2) ∨ (3 ≤ k ∧ k ≤ 5) ∨ (8 ≤ k ∧ k ≤ 97)) → q.2 k i = w k i := by
  refine (?_ : Fr (fun k i => (k = 6 ∧ 1 ≤ i ∧ i ≤ 2) ∨ (3 ≤ k ∧ k ≤ 5) ∨ (8 ≤ k ∧ k ≤ 97)) w (fun q => q.2) (f_X9_anew w)) q hq
  unfold f_X9_anew
  refine fr_call1 (fun r1 => ?_)
  refine fr_ite ?_ ?_
  · exact fr_some rfl
  · refine fr_ite ?_ ?_
    · refine fr_call3 (fun q h k i hU => fr_X6_remember  w q h k i (by omega)) (fun w2 => ?_)
      refine fr_pw (by omega) (fun w3 => ?_)
      refine fr_call3 (fun q h k i hU => fr_X3_gather (brp (w3 0 8)) (brp_ok (w3 0 8)) w3 q h k i (by have brf := brp_or (w3 0 8); omega)) (fun w4 => ?_)
      exact fr_some rfl
    · exact fr_some rfl
theorem fr_X9_drawOf (a1 : Int32) (w : Mem) (q : Int32 × Mem) (hq : f_X9_drawOf a1 w = some q) : ∀ k i, ¬ ((k = 0 ∧ i = 10)) → q.2 k i = w k i := by
  refine (?_ : Fr (fun k i => (k = 0 ∧ i = 10)) w (fun q => q.2) (f_X9_drawOf a1 w)) q hq
  unfold f_X9_drawOf
  refine fr_pw (by omega) (fun w1 => ?_)
  refine fr_ite ?_ ?_
  · exact fr_some rfl
  · refine fr_nz ?_
    exact fr_some rfl
theorem fr_X9_drawTelling (w : Mem) (q : Mem) (hq : f_X9_drawTelling w = some q) : ∀ k i, ¬ ((k = 0 ∧ i = 10) ∨ (3 ≤ k ∧ k ≤ 5)) → q k i = w k i := by
  refine (?_ : Fr (fun k i => (k = 0 ∧ i = 10) ∨ (3 ≤ k ∧ k ≤ 5)) w (fun q => q) (f_X9_drawTelling w)) q hq
  unfold f_X9_drawTelling
  refine fr_call2 (fun q h k i hU => fr_X9_drawOf (4 : Int32) w q h k i (by omega)) (fun q1 => ?_)
  refine fr_ite ?_ ?_
  · refine fr_call2 (fun q h k i hU => fr_X3_leaveSeat (brp (q1.2 0 8)) (brp_ok (q1.2 0 8)) q1.2 q h k i (by have brf := brp_or (q1.2 0 8); omega)) (fun q5 => ?_)
    exact fr_some rfl
  · refine fr_ite ?_ ?_
    · exact fr_some rfl
    · refine fr_call2 (fun q h k i hU => fr_X9_drawOf (q1.2 (brp (q1.2 0 8)) 2) q1.2 q h k i (by omega)) (fun q2 => ?_)
      refine fr_call1 (fun r3 => ?_)
      refine fr_ite ?_ ?_
      · exact fr_some rfl
      · refine fr_call2 (fun q h k i hU => fr_X3_hear (brp (q2.2 0 8)) (brp_ok (q2.2 0 8)) q2.1 q2.2 q h k i (by have brf := brp_or (q2.2 0 8); omega)) (fun q4 => ?_)
        exact fr_some rfl
theorem fr_X9_drawSeat (w : Mem) (q : Mem) (hq : f_X9_drawSeat w = some q) : ∀ k i, ¬ ((k = 0 ∧ i = 10) ∨ (k = 3 ∧ i = 4) ∨ (k = 3 ∧ i = 7)) → q k i = w k i := by
  refine (?_ : Fr (fun k i => (k = 0 ∧ i = 10) ∨ (k = 3 ∧ i = 4) ∨ (k = 3 ∧ i = 7)) w (fun q => q) (f_X9_drawSeat w)) q hq
  unfold f_X9_drawSeat
  refine fr_ite ?_ ?_
  · exact fr_some rfl
  · refine fr_call2 (fun q h k i hU => fr_X9_drawOf (w (brp (w 0 8)) 3) w q h k i (by omega)) (fun q1 => ?_)
    refine fr_call1 (fun r2 => ?_)
    refine fr_ite ?_ ?_
    · exact fr_some rfl
    · refine fr_call3 (fun q h k i hU => fr_X3_takeSeat q1.1 q1.2 q h k i (by omega)) (fun w3 => ?_)
      exact fr_some rfl
theorem fr_X9_driftOnce (w : Mem) (q : Mem) (hq : f_X9_driftOnce w = some q) : ∀ k i, ¬ ((k = 0 ∧ i = 10) ∨ (3 ≤ k ∧ k ≤ 5)) → q k i = w k i := by
  refine (?_ : Fr (fun k i => (k = 0 ∧ i = 10) ∨ (3 ≤ k ∧ k ≤ 5)) w (fun q => q) (f_X9_driftOnce w)) q hq
  unfold f_X9_driftOnce
  refine fr_join (fun (v1 : Mem) => v1) ?_ (fun v1 => ?_)
  · refine fr_ite ?_ ?_
    · refine fr_call3 (fun q h k i hU => fr_X9_drawSeat  w q h k i (by omega)) (fun w4 => ?_)
      exact fr_some rfl
    · refine fr_call3 (fun q h k i hU => fr_X9_drawTelling  w q h k i (by omega)) (fun w3 => ?_)
      exact fr_some rfl
  · refine fr_call3 (fun q h k i hU => fr_X3_passMinutes (brp (v1 0 8)) (brp_ok (v1 0 8)) (1 : Int32) v1 q h k i (by have brf := brp_or (v1 0 8); omega)) (fun w2 => ?_)
    exact fr_some rfl
theorem fr_X9_drift (a1 : Int32) (w : Mem) (q : Int32 × Mem) (hq : f_X9_drift a1 w = some q) : ∀ k i, ¬ ((k = 0 ∧ i = 10) ∨ (k = 6 ∧ 1 ≤ i ∧ i ≤ 2) ∨ (3 ≤ k ∧ k ≤ 5) ∨ (8 ≤ k ∧ k ≤ 97)) → q.2 k i = w k i := by
  refine (?_ : Fr (fun k i => (k = 0 ∧ i = 10) ∨ (k = 6 ∧ 1 ≤ i ∧ i ≤ 2) ∨ (3 ≤ k ∧ k ≤ 5) ∨ (8 ≤ k ∧ k ≤ 97)) w (fun q => q.2) (f_X9_drift a1 w)) q hq
  unfold f_X9_drift
  refine fr_ite ?_ ?_
  · exact fr_some rfl
  · refine fr_ite ?_ ?_
    · exact fr_some rfl
    · refine fr_call1 (fun r1 => ?_)
      refine fr_ite ?_ ?_
      · exact fr_some rfl
      · refine fr_ite ?_ ?_
        · exact fr_some rfl
        · refine fr_join (fun (v4 : Mem) => v4) ?_ (fun v4 => ?_)
          · refine fr_lp (fun (s44 : (Int32 × Mem)) => s44.2) (fun s44 => ?_) _ _
            refine fr_ite ?_ ?_
            · refine fr_call3 (fun q h k i hU => fr_X6_remember  s44.2 q h k i (by omega)) (fun w2 => ?_)
              refine fr_call3 (fun q h k i hU => fr_X9_driftOnce  w2 q h k i (by omega)) (fun w3 => ?_)
              exact fr_some rfl
            · exact fr_some rfl
          · exact fr_some rfl
theorem fr_X6_takeBack (a1 : Int32) (w : Mem) (q : Mem) (hq : f_X6_takeBack a1 w = some q) : ∀ k i, ¬ ((k = 6 ∧ 1 ≤ i ∧ i ≤ 2) ∨ (3 ≤ k ∧ k ≤ 5)) → q k i = w k i := by
  refine (?_ : Fr (fun k i => (k = 6 ∧ 1 ≤ i ∧ i ≤ 2) ∨ (3 ≤ k ∧ k ≤ 5)) w (fun q => q) (f_X6_takeBack a1 w)) q hq
  unfold f_X6_takeBack
  refine fr_ite ?_ ?_
  · exact fr_some rfl
  · refine fr_ite ?_ ?_
    · exact fr_some rfl
    · refine fr_pw (by omega) (fun w1 => ?_)
      refine fr_pw (by omega) (fun w2 => ?_)
      refine fr_rg (fun o3 ho3 go3 => ?_)
      refine fr_call3 (fun q h k i hU => fr_X3_copyFrom 3 (Or.inl rfl) o3 ho3 w2 q h k i (by omega)) (fun w4 => ?_)
      exact fr_some rfl
theorem fr_X9_undo (a1 : Int32) (w : Mem) (q : Int32 × Mem) (hq : f_X9_undo a1 w = some q) : ∀ k i, ¬ ((k = 6 ∧ 1 ≤ i ∧ i ≤ 2) ∨ (3 ≤ k ∧ k ≤ 5)) → q.2 k i = w k i := by
  refine (?_ : Fr (fun k i => (k = 6 ∧ 1 ≤ i ∧ i ≤ 2) ∨ (3 ≤ k ∧ k ≤ 5)) w (fun q => q.2) (f_X9_undo a1 w)) q hq
  unfold f_X9_undo
  refine fr_ite ?_ ?_
  · exact fr_some rfl
  · refine fr_ite ?_ ?_
    · exact fr_some rfl
    · refine fr_ite ?_ ?_
      · exact fr_some rfl
      · refine fr_call3 (fun q h k i hU => fr_X6_takeBack a1 w q h k i (by omega)) (fun w1 => ?_)
        exact fr_some rfl
theorem fr_X9_talk (a1 : Int32) (a2 : Int32) (w : Mem) (q : Int32 × Mem) (hq : f_X9_talk a1 a2 w = some q) : ∀ k i, ¬ (k = 100 ∨ (k = 99 ∧ 1 ≤ i ∧ i ≤ 3)) → q.2 k i = w k i := by
  refine (?_ : Fr (fun k i => k = 100 ∨ (k = 99 ∧ 1 ≤ i ∧ i ≤ 3)) w (fun q => q.2) (f_X9_talk a1 a2 w)) q hq
  unfold f_X9_talk
  refine fr_call1 (fun r1 => ?_)
  refine fr_ite ?_ ?_
  · exact fr_some rfl
  · refine fr_ite ?_ ?_
    · exact fr_some rfl
    · refine fr_ite ?_ ?_
      · exact fr_some rfl
      · refine fr_call3 (fun q h k i hU => fr_X8_tryWith (brp (w 0 8)) (brp_ok (w 0 8)) a1 (w 3 3) w q h k i (by have brf := brp_or (w 0 8); omega)) (fun w2 => ?_)
        refine fr_ite ?_ ?_
        · exact fr_some rfl
        · refine fr_ite ?_ ?_
          · exact fr_some rfl
          · refine fr_ite ?_ ?_
            · exact fr_some rfl
            · refine fr_call1 (fun r6 => ?_)
              exact fr_some rfl
theorem fr_X5_fill (b1 : Nat) (hb1 : BrO b1) (w : Mem) (q : Mem) (hq : f_X5_fill b1 w = some q) : ∀ k i, ¬ (k = 100 ∨ (k = 101 ∧ i = 4) ∨ (k = 99 ∧ 1 ≤ i ∧ i ≤ 3) ∨ (102 ≤ k ∧ k ≤ 105)) → q k i = w k i := by
  refine (?_ : Fr (fun k i => k = 100 ∨ (k = 101 ∧ i = 4) ∨ (k = 99 ∧ 1 ≤ i ∧ i ≤ 3) ∨ (102 ≤ k ∧ k ≤ 105)) w (fun q => q) (f_X5_fill b1 w)) q hq
  unfold f_X5_fill
  refine fr_pw (by omega) (fun w1 => ?_)
  refine fr_join (fun (v12 : Mem) => v12) ?_ (fun v12 => ?_)
  · refine fr_lp (fun (s8 : (Int32 × Mem)) => s8.2) (fun s8 => ?_) _ _
    refine fr_ite ?_ ?_
    · refine fr_call1 (fun r2 => ?_)
      refine fr_join (fun (v3 : Mem) => v3) ?_ (fun v3 => ?_)
      · refine fr_ite ?_ ?_
        · exact fr_some rfl
        · refine fr_call3 (fun q h k i hU => fr_X8_tryWith b1 hb1 s8.1 (s8.2 3 3) s8.2 q h k i (by omega)) (fun w4 => ?_)
          refine fr_wr (fun i => by omega) (fun w5 => ?_)
          refine fr_call1 (fun r6 => ?_)
          refine fr_wr (fun i => by omega) (fun w7 => ?_)
          refine fr_call1 (fun r8 => ?_)
          refine fr_wr (fun i => by omega) (fun w9 => ?_)
          refine fr_wr (fun i => by omega) (fun w10 => ?_)
          refine fr_pw (by omega) (fun w11 => ?_)
          exact fr_some rfl
      · exact fr_some rfl
    · exact fr_some rfl
  · exact fr_some rfl
theorem fr_X5_swap (a1 : Int32) (a2 : Int32) (w : Mem) (q : Mem) (hq : f_X5_swap a1 a2 w = some q) : ∀ k i, ¬ (k = 102) → q k i = w k i := by
  refine (?_ : Fr (fun k i => k = 102) w (fun q => q) (f_X5_swap a1 a2 w)) q hq
  unfold f_X5_swap
  refine fr_rd (fun x1 => ?_)
  refine fr_rd (fun x2 => ?_)
  refine fr_wr (fun i => by omega) (fun w3 => ?_)
  refine fr_wr (fun i => by omega) (fun w4 => ?_)
  exact fr_some rfl
theorem fr_X5_nextOrder (w : Mem) (q : Int32 × Mem) (hq : f_X5_nextOrder w = some q) : ∀ k i, ¬ (k = 102) → q.2 k i = w k i := by
  refine (?_ : Fr (fun k i => k = 102) w (fun q => q.2) (f_X5_nextOrder w)) q hq
  unfold f_X5_nextOrder
  refine fr_lt (fun t1 => ?_)
  refine fr_join (fun (v4 : Int32) => w) ?_ (fun v4 => ?_)
  · refine fr_lp (fun (s7 : Int32) => w) (fun s7 => ?_) _ _
    refine fr_ite ?_ ?_
    · exact fr_some rfl
    · refine fr_rd (fun x2 => ?_)
      refine fr_rd (fun x3 => ?_)
      refine fr_ite ?_ ?_
      · exact fr_some rfl
      · exact fr_some rfl
  · refine fr_ite ?_ ?_
    · exact fr_some rfl
    · refine fr_lt (fun t5 => ?_)
      refine fr_join (fun (v8 : Int32) => w) ?_ (fun v8 => ?_)
      · refine fr_lp (fun (s47 : Int32) => w) (fun s47 => ?_) _ _
        refine fr_ite ?_ ?_
        · refine fr_rd (fun x6 => ?_)
          refine fr_rd (fun x7 => ?_)
          refine fr_ite ?_ ?_
          · exact fr_some rfl
          · exact fr_some rfl
        · exact fr_some rfl
      · refine fr_call3 (fun q h k i hU => fr_X5_swap v4 v8 w q h k i (by omega)) (fun w9 => ?_)
        refine fr_lt (fun t10 => ?_)
        refine fr_join (fun (v12 : Mem) => v12) ?_ (fun v12 => ?_)
        · refine fr_lp (fun (s91 : (Int32 × Int32 × Mem)) => s91.2.2) (fun s91 => ?_) _ _
          refine fr_ite ?_ ?_
          · refine fr_call3 (fun q h k i hU => fr_X5_swap s91.1 s91.2.1 s91.2.2 q h k i (by omega)) (fun w11 => ?_)
            exact fr_some rfl
          · exact fr_some rfl
        · exact fr_some rfl
theorem fr_X5_tryOrders (w : Mem) (q : Mem) (hq : f_X5_tryOrders w = some q) : ∀ k i, ¬ (k = 102 ∨ (k = 101 ∧ 5 ≤ i ∧ i ≤ 6)) → q k i = w k i := by
  refine (?_ : Fr (fun k i => k = 102 ∨ (k = 101 ∧ 5 ≤ i ∧ i ≤ 6)) w (fun q => q) (f_X5_tryOrders w)) q hq
  unfold f_X5_tryOrders
  refine fr_pw (by omega) (fun w1 => ?_)
  refine fr_pw (by omega) (fun w2 => ?_)
  refine fr_join (fun (v9 : Mem) => v9) ?_ (fun v9 => ?_)
  · refine fr_lp (fun (s14 : (Int32 × Int32 × Mem)) => s14.2.2) (fun s14 => ?_) _ _
    refine fr_ite ?_ ?_
    · refine fr_ite ?_ ?_
      · exact fr_some rfl
      · refine fr_call1 (fun r3 => ?_)
        refine fr_join (fun (v4 : Mem) => v4) ?_ (fun v4 => ?_)
        · refine fr_ite ?_ ?_
          · refine fr_pw (by omega) (fun w6 => ?_)
            refine fr_call1 (fun r7 => ?_)
            refine fr_pw (by omega) (fun w8 => ?_)
            exact fr_some rfl
          · exact fr_some rfl
        · refine fr_call2 (fun q h k i hU => fr_X5_nextOrder  v4 q h k i (by omega)) (fun q5 => ?_)
          exact fr_some rfl
    · exact fr_some rfl
  · exact fr_some rfl
theorem fr_X9_queue (a1 : Int32) (w : Mem) (q : Int32 × Mem) (hq : f_X9_queue a1 w = some q) : ∀ k i, ¬ (k = 100 ∨ (k = 101 ∧ 4 ≤ i ∧ i ≤ 6) ∨ (k = 99 ∧ 1 ≤ i ∧ i ≤ 3) ∨ (102 ≤ k ∧ k ≤ 105)) → q.2 k i = w k i := by
  refine (?_ : Fr (fun k i => k = 100 ∨ (k = 101 ∧ 4 ≤ i ∧ i ≤ 6) ∨ (k = 99 ∧ 1 ≤ i ∧ i ≤ 3) ∨ (102 ≤ k ∧ k ≤ 105)) w (fun q => q.2) (f_X9_queue a1 w)) q hq
  unfold f_X9_queue
  refine fr_ite ?_ ?_
  · exact fr_some rfl
  · refine fr_ite ?_ ?_
    · exact fr_some rfl
    · refine fr_ite ?_ ?_
      · refine fr_call3 (fun q h k i hU => fr_X5_fill (brp (w 0 8)) (brp_ok (w 0 8)) w q h k i (by have brf := brp_or (w 0 8); omega)) (fun w1 => ?_)
        refine fr_call3 (fun q h k i hU => fr_X5_tryOrders  w1 q h k i (by omega)) (fun w2 => ?_)
        refine fr_ite ?_ ?_
        · exact fr_some rfl
        · exact fr_some rfl
      · exact fr_some rfl
theorem fr_X2_add_106 (a1 : Int32) (a2 : Int32) (w : Mem) (q : Int32 × Mem) (hq : f_X2_add_106 a1 a2 w = some q) : ∀ k i, ¬ ((k = 106 ∧ i = 2) ∨ (107 ≤ k ∧ k ≤ 108)) → q.2 k i = w k i := by
  refine (?_ : Fr (fun k i => (k = 106 ∧ i = 2) ∨ (107 ≤ k ∧ k ≤ 108)) w (fun q => q.2) (f_X2_add_106 a1 a2 w)) q hq
  unfold f_X2_add_106
  refine fr_ite ?_ ?_
  · refine fr_ite ?_ ?_
    · refine fr_wr (fun i => by omega) (fun w1 => ?_)
      refine fr_wr (fun i => by omega) (fun w2 => ?_)
      refine fr_pw (by omega) (fun w3 => ?_)
      exact fr_some rfl
    · exact fr_some rfl
  · exact fr_some rfl
theorem fr_X9_stayed (a1 : Int32) (a2 : Int32) (w : Mem) (q : Int32 × Mem) (hq : f_X9_stayed a1 a2 w = some q) : ∀ k i, ¬ ((k = 106 ∧ i = 2) ∨ (107 ≤ k ∧ k ≤ 108)) → q.2 k i = w k i := by
  refine (?_ : Fr (fun k i => (k = 106 ∧ i = 2) ∨ (107 ≤ k ∧ k ≤ 108)) w (fun q => q.2) (f_X9_stayed a1 a2 w)) q hq
  unfold f_X9_stayed
  refine fr_call1 (fun r1 => ?_)
  refine fr_ite ?_ ?_
  · exact fr_some rfl
  · refine fr_ite ?_ ?_
    · exact fr_some rfl
    · refine fr_ite ?_ ?_
      · exact fr_some rfl
      · refine fr_call2 (fun q h k i hU => fr_X2_add_106 a1 a2 w q h k i (by omega)) (fun q2 => ?_)
        refine fr_ite ?_ ?_
        · exact fr_some rfl
        · exact fr_some rfl
theorem fr_X2_add_109 (a1 : Int32) (a2 : Int32) (w : Mem) (q : Int32 × Mem) (hq : f_X2_add_109 a1 a2 w = some q) : ∀ k i, ¬ ((k = 109 ∧ i = 2) ∨ (110 ≤ k ∧ k ≤ 111)) → q.2 k i = w k i := by
  refine (?_ : Fr (fun k i => (k = 109 ∧ i = 2) ∨ (110 ≤ k ∧ k ≤ 111)) w (fun q => q.2) (f_X2_add_109 a1 a2 w)) q hq
  unfold f_X2_add_109
  refine fr_ite ?_ ?_
  · refine fr_ite ?_ ?_
    · refine fr_wr (fun i => by omega) (fun w1 => ?_)
      refine fr_wr (fun i => by omega) (fun w2 => ?_)
      refine fr_pw (by omega) (fun w3 => ?_)
      exact fr_some rfl
    · exact fr_some rfl
  · exact fr_some rfl
theorem fr_X9_write (a1 : Int32) (a2 : Int32) (w : Mem) (q : Int32 × Mem) (hq : f_X9_write a1 a2 w = some q) : ∀ k i, ¬ ((k = 109 ∧ i = 2) ∨ (110 ≤ k ∧ k ≤ 111)) → q.2 k i = w k i := by
  refine (?_ : Fr (fun k i => (k = 109 ∧ i = 2) ∨ (110 ≤ k ∧ k ≤ 111)) w (fun q => q.2) (f_X9_write a1 a2 w)) q hq
  unfold f_X9_write
  refine fr_call1 (fun r1 => ?_)
  refine fr_ite ?_ ?_
  · exact fr_some rfl
  · refine fr_ite ?_ ?_
    · exact fr_some rfl
    · refine fr_ite ?_ ?_
      · exact fr_some rfl
      · refine fr_call2 (fun q h k i hU => fr_X2_add_109 a1 a2 w q h k i (by omega)) (fun q2 => ?_)
        refine fr_ite ?_ ?_
        · exact fr_some rfl
        · exact fr_some rfl
theorem fr_X9_tear (w : Mem) (q : Int32 × Mem) (hq : f_X9_tear w = some q) : ∀ k i, ¬ ((k = 106 ∧ i = 2) ∨ (k = 109 ∧ i = 2)) → q.2 k i = w k i := by
  refine (?_ : Fr (fun k i => (k = 106 ∧ i = 2) ∨ (k = 109 ∧ i = 2)) w (fun q => q.2) (f_X9_tear w)) q hq
  unfold f_X9_tear
  refine fr_call3 (fun q h k i hU => fr_X2_forget_106  w q h k i (by omega)) (fun w1 => ?_)
  refine fr_call3 (fun q h k i hU => fr_X2_forget_109  w1 q h k i (by omega)) (fun w2 => ?_)
  exact fr_some rfl
theorem fr_X9_seed (a1 : Int32) (w : Mem) (q : Int32 × Mem) (hq : f_X9_seed a1 w = some q) : ∀ k i, ¬ ((k = 0 ∧ i = 10)) → q.2 k i = w k i := by
  refine (?_ : Fr (fun k i => (k = 0 ∧ i = 10)) w (fun q => q.2) (f_X9_seed a1 w)) q hq
  unfold f_X9_seed
  refine fr_ite ?_ ?_
  · exact fr_some rfl
  · refine fr_pw (by omega) (fun w1 => ?_)
    exact fr_some rfl
theorem fr_X9_keep (a1 : Int32) (w : Mem) (q : Int32 × Mem) (hq : f_X9_keep a1 w = some q) : ∀ k i, ¬ ((k = 6 ∧ i = 1) ∨ (126 ≤ k ∧ k ≤ 133)) → q.2 k i = w k i := by
  refine (?_ : Fr (fun k i => (k = 6 ∧ i = 1) ∨ (126 ≤ k ∧ k ≤ 133)) w (fun q => q.2) (f_X9_keep a1 w)) q hq
  unfold f_X9_keep
  refine fr_ite ?_ ?_
  · exact fr_some rfl
  · refine fr_ite ?_ ?_
    · refine fr_ri (fun o1 ho1 go1 => ?_)
      refine fr_call3 (fun q h k i hU => fr_X3_copyFrom (o1 + 1) (ev_im ho1) 3 (Or.inl rfl) w q h k i (by omega)) (fun w2 => ?_)
      refine fr_pw (by omega) (fun w3 => ?_)
      refine fr_pw (by omega) (fun w4 => ?_)
      refine fr_call3 (fun q h k i hU => fr_X6_forget  w4 q h k i (by omega)) (fun w5 => ?_)
      exact fr_some rfl
    · exact fr_some rfl
theorem fr_X9_goBack (a1 : Int32) (w : Mem) (q : Int32 × Mem) (hq : f_X9_goBack a1 w = some q) : ∀ k i, ¬ ((k = 0 ∧ i = 10) ∨ (k = 6 ∧ i = 1) ∨ (3 ≤ k ∧ k ≤ 5)) → q.2 k i = w k i := by
  refine (?_ : Fr (fun k i => (k = 0 ∧ i = 10) ∨ (k = 6 ∧ i = 1) ∨ (3 ≤ k ∧ k ≤ 5)) w (fun q => q.2) (f_X9_goBack a1 w)) q hq
  unfold f_X9_goBack
  refine fr_ite ?_ ?_
  · exact fr_some rfl
  · refine fr_ite ?_ ?_
    · refine fr_ri (fun o1 ho1 go1 => ?_)
      refine fr_ite ?_ ?_
      · exact fr_some rfl
      · refine fr_call3 (fun q h k i hU => fr_X3_copyFrom 3 (Or.inl rfl) (o1 + 1) (ev_im ho1) w q h k i (by omega)) (fun w2 => ?_)
        refine fr_pw (by omega) (fun w3 => ?_)
        refine fr_call3 (fun q h k i hU => fr_X6_forget  w3 q h k i (by omega)) (fun w4 => ?_)
        exact fr_some rfl
    · exact fr_some rfl
theorem fr_X10_feed (a1 : Int32) (w : Mem) (q : Int32 × Mem) (hq : f_X10_feed a1 w = some q) : ∀ k i, ¬ ((k = 134 ∧ i = 0) ∨ k = 135) → q.2 k i = w k i := by
  refine (?_ : Fr (fun k i => (k = 134 ∧ i = 0) ∨ k = 135) w (fun q => q.2) (f_X10_feed a1 w)) q hq
  unfold f_X10_feed
  refine fr_call1 (fun r1 => ?_)
  refine fr_ite ?_ ?_
  · exact fr_some rfl
  · refine fr_ite ?_ ?_
    · exact fr_some rfl
    · refine fr_wr (fun i => by omega) (fun w2 => ?_)
      refine fr_pw (by omega) (fun w3 => ?_)
      exact fr_some rfl
theorem fr_X10_nextLetter (w : Mem) (q : Int32 × Mem) (hq : f_X10_nextLetter w = some q) : ∀ k i, ¬ ((k = 134 ∧ i = 2)) → q.2 k i = w k i := by
  refine (?_ : Fr (fun k i => (k = 134 ∧ i = 2)) w (fun q => q.2) (f_X10_nextLetter w)) q hq
  unfold f_X10_nextLetter
  refine fr_join (fun (v3 : Mem) => v3) ?_ (fun v3 => ?_)
  · refine fr_lp (fun (s0 : Mem) => s0) (fun s0 => ?_) _ _
    refine fr_call1 (fun r1 => ?_)
    refine fr_ite ?_ ?_
    · refine fr_pw (by omega) (fun w2 => ?_)
      exact fr_some rfl
    · exact fr_some rfl
  · refine fr_call1 (fun r4 => ?_)
    exact fr_some rfl
theorem fr_X10_fails (a1 : Int32) (a2 : Int32) (w : Mem) (q : Int32 × Mem) (hq : f_X10_fails a1 a2 w = some q) : ∀ k i, ¬ ((k = 134 ∧ i = 2) ∨ (k = 134 ∧ i = 4)) → q.2 k i = w k i := by
  refine (?_ : Fr (fun k i => (k = 134 ∧ i = 2) ∨ (k = 134 ∧ i = 4)) w (fun q => q.2) (f_X10_fails a1 a2 w)) q hq
  unfold f_X10_fails
  refine fr_pw (by omega) (fun w1 => ?_)
  refine fr_pw (by omega) (fun w2 => ?_)
  exact fr_some rfl
theorem fr_X10_readsNumber (a1 : Int32) (a2 : Int32) (w : Mem) (q : Int32 × Mem) (hq : f_X10_readsNumber a1 a2 w = some q) : ∀ k i, ¬ ((k = 134 ∧ 2 ≤ i ∧ i ≤ 4)) → q.2 k i = w k i := by
  refine (?_ : Fr (fun k i => (k = 134 ∧ 2 ≤ i ∧ i ≤ 4)) w (fun q => q.2) (f_X10_readsNumber a1 a2 w)) q hq
  unfold f_X10_readsNumber
  refine fr_call2 (fun q h k i hU => fr_X10_nextLetter  w q h k i (by omega)) (fun q1 => ?_)
  refine fr_call1 (fun r2 => ?_)
  refine fr_ite ?_ ?_
  · refine fr_call2 (fun q h k i hU => fr_X10_fails (1 : Int32) (q1.2 134 2) q1.2 q h k i (by omega)) (fun q13 => ?_)
    exact fr_some rfl
  · refine fr_pw (by omega) (fun w3 => ?_)
    refine fr_join (fun (v9 : (Int32 × Mem)) => v9.2) ?_ (fun v9 => ?_)
    · refine fr_lp (fun (s34 : (Int32 × Mem)) => s34.2) (fun s34 => ?_) _ _
      refine fr_call1 (fun r4 => ?_)
      refine fr_call1 (fun r5 => ?_)
      refine fr_ite ?_ ?_
      · exact fr_some rfl
      · refine fr_join (fun (v6 : Int32) => s34.2) ?_ (fun v6 => ?_)
        · refine fr_ite ?_ ?_
          · exact fr_some rfl
          · refine fr_call1 (fun r8 => ?_)
            exact fr_some rfl
        · refine fr_pw (by omega) (fun w7 => ?_)
          exact fr_some rfl
    · refine fr_ite ?_ ?_
      · refine fr_call2 (fun q h k i hU => fr_X10_fails (2 : Int32) (v9.2 134 3) v9.2 q h k i (by omega)) (fun q10 => ?_)
        exact fr_some rfl
      · refine fr_call1 (fun r11 => ?_)
        refine fr_ite ?_ ?_
        · refine fr_call2 (fun q h k i hU => fr_X10_fails (2 : Int32) (v9.2 134 3) v9.2 q h k i (by omega)) (fun q12 => ?_)
          exact fr_some rfl
        · exact fr_some rfl
theorem fr_X10_readsSign (a1 : Int32) (w : Mem) (q : Int32 × Mem) (hq : f_X10_readsSign a1 w = some q) : ∀ k i, ¬ ((k = 134 ∧ i = 2) ∨ (k = 134 ∧ i = 4)) → q.2 k i = w k i := by
  refine (?_ : Fr (fun k i => (k = 134 ∧ i = 2) ∨ (k = 134 ∧ i = 4)) w (fun q => q.2) (f_X10_readsSign a1 w)) q hq
  unfold f_X10_readsSign
  refine fr_call2 (fun q h k i hU => fr_X10_nextLetter  w q h k i (by omega)) (fun q1 => ?_)
  refine fr_ite ?_ ?_
  · refine fr_pw (by omega) (fun w2 => ?_)
    exact fr_some rfl
  · refine fr_call2 (fun q h k i hU => fr_X10_fails (1 : Int32) (q1.2 134 2) q1.2 q h k i (by omega)) (fun q3 => ?_)
    exact fr_some rfl
theorem fr_X10_readsTraveller (w : Mem) (q : Int32 × Mem) (hq : f_X10_readsTraveller w = some q) : ∀ k i, ¬ ((k = 134 ∧ i = 9) ∨ (k = 134 ∧ 2 ≤ i ∧ i ≤ 4) ∨ (138 ≤ k ∧ k ≤ 140)) → q.2 k i = w k i := by
  refine (?_ : Fr (fun k i => (k = 134 ∧ i = 9) ∨ (k = 134 ∧ 2 ≤ i ∧ i ≤ 4) ∨ (138 ≤ k ∧ k ≤ 140)) w (fun q => q.2) (f_X10_readsTraveller w)) q hq
  unfold f_X10_readsTraveller
  refine fr_call2 (fun q h k i hU => fr_X10_readsNumber (0 : Int32) (4 : Int32) w q h k i (by omega)) (fun q1 => ?_)
  refine fr_wr (fun i => by omega) (fun w2 => ?_)
  refine fr_rd (fun x3 => ?_)
  refine fr_join (fun (v4 : (Int32 × Mem)) => v4.2) ?_ (fun v4 => ?_)
  · refine fr_ite ?_ ?_
    · exact fr_some rfl
    · refine fr_call2 (fun q h k i hU => fr_X10_readsNumber (0 : Int32) (9 : Int32) w2 q h k i (by omega)) (fun q13 => ?_)
      exact fr_some rfl
  · refine fr_wr (fun i => by omega) (fun w5 => ?_)
    refine fr_rd (fun x6 => ?_)
    refine fr_join (fun (v7 : (Int32 × Mem)) => v7.2) ?_ (fun v7 => ?_)
    · refine fr_ite ?_ ?_
      · exact fr_some rfl
      · refine fr_call2 (fun q h k i hU => fr_X10_readsNumber (0 : Int32) (255 : Int32) w5 q h k i (by omega)) (fun q12 => ?_)
        exact fr_some rfl
    · refine fr_wr (fun i => by omega) (fun w8 => ?_)
      refine fr_pw (by omega) (fun w9 => ?_)
      refine fr_rd (fun x10 => ?_)
      refine fr_ite ?_ ?_
      · exact fr_some rfl
      · refine fr_call2 (fun q h k i hU => fr_X10_readsSign (59 : Int32) w9 q h k i (by omega)) (fun q11 => ?_)
        refine fr_ite ?_ ?_
        · exact fr_some rfl
        · exact fr_some rfl
theorem fr_X10_readsMatter (w : Mem) (q : Int32 × Mem) (hq : f_X10_readsMatter w = some q) : ∀ k i, ¬ ((k = 134 ∧ i = 8) ∨ (k = 134 ∧ 2 ≤ i ∧ i ≤ 4) ∨ (136 ≤ k ∧ k ≤ 137)) → q.2 k i = w k i := by
  refine (?_ : Fr (fun k i => (k = 134 ∧ i = 8) ∨ (k = 134 ∧ 2 ≤ i ∧ i ≤ 4) ∨ (136 ≤ k ∧ k ≤ 137)) w (fun q => q.2) (f_X10_readsMatter w)) q hq
  unfold f_X10_readsMatter
  refine fr_call2 (fun q h k i hU => fr_X10_readsNumber (1 : Int32) (60 : Int32) w q h k i (by omega)) (fun q1 => ?_)
  refine fr_wr (fun i => by omega) (fun w2 => ?_)
  refine fr_rd (fun x3 => ?_)
  refine fr_join (fun (v4 : (Int32 × Mem)) => v4.2) ?_ (fun v4 => ?_)
  · refine fr_ite ?_ ?_
    · exact fr_some rfl
    · refine fr_call2 (fun q h k i hU => fr_X10_readsNumber (0 : Int32) (255 : Int32) w2 q h k i (by omega)) (fun q9 => ?_)
      exact fr_some rfl
  · refine fr_wr (fun i => by omega) (fun w5 => ?_)
    refine fr_pw (by omega) (fun w6 => ?_)
    refine fr_rd (fun x7 => ?_)
    refine fr_ite ?_ ?_
    · exact fr_some rfl
    · refine fr_call2 (fun q h k i hU => fr_X10_readsSign (59 : Int32) w6 q h k i (by omega)) (fun q8 => ?_)
      refine fr_ite ?_ ?_
      · exact fr_some rfl
      · exact fr_some rfl
theorem fr_X10_readsHead (w : Mem) (q : Int32 × Mem) (hq : f_X10_readsHead w = some q) : ∀ k i, ¬ ((k = 134 ∧ 2 ≤ i ∧ i ≤ 4) ∨ (k = 134 ∧ 6 ≤ i ∧ i ≤ 7)) → q.2 k i = w k i := by
  refine (?_ : Fr (fun k i => (k = 134 ∧ 2 ≤ i ∧ i ≤ 4) ∨ (k = 134 ∧ 6 ≤ i ∧ i ≤ 7)) w (fun q => q.2) (f_X10_readsHead w)) q hq
  unfold f_X10_readsHead
  refine fr_call2 (fun q h k i hU => fr_X10_readsNumber (1 : Int32) (60 : Int32) w q h k i (by omega)) (fun q1 => ?_)
  refine fr_join (fun (v2 : (Int32 × Mem)) => v2.2) ?_ (fun v2 => ?_)
  · refine fr_ite ?_ ?_
    · exact fr_some rfl
    · refine fr_call2 (fun q h k i hU => fr_X10_readsNumber (1 : Int32) (9 : Int32) q1.2 q h k i (by omega)) (fun q6 => ?_)
      exact fr_some rfl
  · refine fr_pw (by omega) (fun w3 => ?_)
    refine fr_pw (by omega) (fun w4 => ?_)
    refine fr_ite ?_ ?_
    · exact fr_some rfl
    · refine fr_call2 (fun q h k i hU => fr_X10_readsSign (59 : Int32) w4 q h k i (by omega)) (fun q5 => ?_)
      refine fr_ite ?_ ?_
      · exact fr_some rfl
      · exact fr_some rfl
theorem fr_X10_readsClause (w : Mem) (q : Int32 × Mem) (hq : f_X10_readsClause w = some q) : ∀ k i, ¬ ((k = 134 ∧ 2 ≤ i ∧ i ≤ 4) ∨ (k = 134 ∧ 6 ≤ i ∧ i ≤ 9) ∨ (136 ≤ k ∧ k ≤ 140)) → q.2 k i = w k i := by
  refine (?_ : Fr (fun k i => (k = 134 ∧ 2 ≤ i ∧ i ≤ 4) ∨ (k = 134 ∧ 6 ≤ i ∧ i ≤ 9) ∨ (136 ≤ k ∧ k ≤ 140)) w (fun q => q.2) (f_X10_readsClause w)) q hq
  unfold f_X10_readsClause
  refine fr_call2 (fun q h k i hU => fr_X10_nextLetter  w q h k i (by omega)) (fun q1 => ?_)
  refine fr_pw (by omega) (fun w2 => ?_)
  refine fr_ite ?_ ?_
  · refine fr_ite ?_ ?_
    · refine fr_call2 (fun q h k i hU => fr_X10_readsHead  w2 q h k i (by omega)) (fun q49 => ?_)
      refine fr_zr ?_
      exact fr_some rfl
    · refine fr_join (fun (v26 : Int32) => w2) ?_ (fun v26 => ?_)
      · refine fr_ite ?_ ?_
        · exact fr_some rfl
        · refine fr_ite ?_ ?_
          · exact fr_some rfl
          · refine fr_ite ?_ ?_
            · exact fr_some rfl
            · exact fr_some rfl
      · refine fr_ite ?_ ?_
        · refine fr_call2 (fun q h k i hU => fr_X10_fails (1 : Int32) (q1.2 134 2) w2 q h k i (by omega)) (fun q27 => ?_)
          exact fr_some rfl
        · refine fr_ite ?_ ?_
          · refine fr_call2 (fun q h k i hU => fr_X10_fails (1 : Int32) (q1.2 134 2) w2 q h k i (by omega)) (fun q48 => ?_)
            exact fr_some rfl
          · refine fr_ite ?_ ?_
            · refine fr_call2 (fun q h k i hU => fr_X10_fails (3 : Int32) (q1.2 134 2) w2 q h k i (by omega)) (fun q28 => ?_)
              exact fr_some rfl
            · refine fr_ite ?_ ?_
              · refine fr_ite ?_ ?_
                · refine fr_call2 (fun q h k i hU => fr_X10_fails (3 : Int32) (q1.2 134 2) w2 q h k i (by omega)) (fun q38 => ?_)
                  exact fr_some rfl
                · refine fr_ite ?_ ?_
                  · refine fr_ite ?_ ?_
                    · refine fr_call2 (fun q h k i hU => fr_X10_fails (3 : Int32) (q1.2 134 2) w2 q h k i (by omega)) (fun q47 => ?_)
                      exact fr_some rfl
                    · refine fr_ite ?_ ?_
                      · refine fr_call2 (fun q h k i hU => fr_X10_readsMatter  w2 q h k i (by omega)) (fun q45 => ?_)
                        refine fr_zr ?_
                        exact fr_some rfl
                      · refine fr_call2 (fun q h k i hU => fr_X10_readsTraveller  w2 q h k i (by omega)) (fun q43 => ?_)
                        refine fr_zr ?_
                        exact fr_some rfl
                  · refine fr_ite ?_ ?_
                    · refine fr_call2 (fun q h k i hU => fr_X10_readsMatter  w2 q h k i (by omega)) (fun q41 => ?_)
                      refine fr_zr ?_
                      exact fr_some rfl
                    · refine fr_call2 (fun q h k i hU => fr_X10_readsTraveller  w2 q h k i (by omega)) (fun q39 => ?_)
                      refine fr_zr ?_
                      exact fr_some rfl
              · refine fr_ite ?_ ?_
                · refine fr_ite ?_ ?_
                  · refine fr_call2 (fun q h k i hU => fr_X10_fails (3 : Int32) (q1.2 134 2) w2 q h k i (by omega)) (fun q37 => ?_)
                    exact fr_some rfl
                  · refine fr_ite ?_ ?_
                    · refine fr_call2 (fun q h k i hU => fr_X10_readsMatter  w2 q h k i (by omega)) (fun q35 => ?_)
                      refine fr_zr ?_
                      exact fr_some rfl
                    · refine fr_call2 (fun q h k i hU => fr_X10_readsTraveller  w2 q h k i (by omega)) (fun q33 => ?_)
                      refine fr_zr ?_
                      exact fr_some rfl
                · refine fr_ite ?_ ?_
                  · refine fr_call2 (fun q h k i hU => fr_X10_readsMatter  w2 q h k i (by omega)) (fun q31 => ?_)
                    refine fr_zr ?_
                    exact fr_some rfl
                  · refine fr_call2 (fun q h k i hU => fr_X10_readsTraveller  w2 q h k i (by omega)) (fun q29 => ?_)
                    refine fr_zr ?_
                    exact fr_some rfl
  · refine fr_join (fun (v3 : Int32) => w2) ?_ (fun v3 => ?_)
    · refine fr_ite ?_ ?_
      · exact fr_some rfl
      · refine fr_ite ?_ ?_
        · exact fr_some rfl
        · refine fr_ite ?_ ?_
          · exact fr_some rfl
          · exact fr_some rfl
    · refine fr_ite ?_ ?_
      · refine fr_call2 (fun q h k i hU => fr_X10_fails (1 : Int32) (q1.2 134 2) w2 q h k i (by omega)) (fun q4 => ?_)
        exact fr_some rfl
      · refine fr_ite ?_ ?_
        · refine fr_call2 (fun q h k i hU => fr_X10_fails (1 : Int32) (q1.2 134 2) w2 q h k i (by omega)) (fun q25 => ?_)
          exact fr_some rfl
        · refine fr_ite ?_ ?_
          · refine fr_call2 (fun q h k i hU => fr_X10_fails (3 : Int32) (q1.2 134 2) w2 q h k i (by omega)) (fun q5 => ?_)
            exact fr_some rfl
          · refine fr_ite ?_ ?_
            · refine fr_ite ?_ ?_
              · refine fr_call2 (fun q h k i hU => fr_X10_fails (3 : Int32) (q1.2 134 2) w2 q h k i (by omega)) (fun q15 => ?_)
                exact fr_some rfl
              · refine fr_ite ?_ ?_
                · refine fr_ite ?_ ?_
                  · refine fr_call2 (fun q h k i hU => fr_X10_fails (3 : Int32) (q1.2 134 2) w2 q h k i (by omega)) (fun q24 => ?_)
                    exact fr_some rfl
                  · refine fr_ite ?_ ?_
                    · refine fr_call2 (fun q h k i hU => fr_X10_readsMatter  w2 q h k i (by omega)) (fun q22 => ?_)
                      refine fr_zr ?_
                      exact fr_some rfl
                    · refine fr_call2 (fun q h k i hU => fr_X10_readsTraveller  w2 q h k i (by omega)) (fun q20 => ?_)
                      refine fr_zr ?_
                      exact fr_some rfl
                · refine fr_ite ?_ ?_
                  · refine fr_call2 (fun q h k i hU => fr_X10_readsMatter  w2 q h k i (by omega)) (fun q18 => ?_)
                    refine fr_zr ?_
                    exact fr_some rfl
                  · refine fr_call2 (fun q h k i hU => fr_X10_readsTraveller  w2 q h k i (by omega)) (fun q16 => ?_)
                    refine fr_zr ?_
                    exact fr_some rfl
            · refine fr_ite ?_ ?_
              · refine fr_ite ?_ ?_
                · refine fr_call2 (fun q h k i hU => fr_X10_fails (3 : Int32) (q1.2 134 2) w2 q h k i (by omega)) (fun q14 => ?_)
                  exact fr_some rfl
                · refine fr_ite ?_ ?_
                  · refine fr_call2 (fun q h k i hU => fr_X10_readsMatter  w2 q h k i (by omega)) (fun q12 => ?_)
                    refine fr_zr ?_
                    exact fr_some rfl
                  · refine fr_call2 (fun q h k i hU => fr_X10_readsTraveller  w2 q h k i (by omega)) (fun q10 => ?_)
                    refine fr_zr ?_
                    exact fr_some rfl
              · refine fr_ite ?_ ?_
                · refine fr_call2 (fun q h k i hU => fr_X10_readsMatter  w2 q h k i (by omega)) (fun q8 => ?_)
                  refine fr_zr ?_
                  exact fr_some rfl
                · refine fr_call2 (fun q h k i hU => fr_X10_readsTraveller  w2 q h k i (by omega)) (fun q6 => ?_)
                  refine fr_zr ?_
                  exact fr_some rfl
theorem fr_X10_readsBridge (w : Mem) (q : Int32 × Mem) (hq : f_X10_readsBridge w = some q) : ∀ k i, ¬ ((k = 134 ∧ 2 ≤ i ∧ i ≤ 4) ∨ (k = 134 ∧ 6 ≤ i ∧ i ≤ 9) ∨ (136 ≤ k ∧ k ≤ 140)) → q.2 k i = w k i := by
  refine (?_ : Fr (fun k i => (k = 134 ∧ 2 ≤ i ∧ i ≤ 4) ∨ (k = 134 ∧ 6 ≤ i ∧ i ≤ 9) ∨ (136 ≤ k ∧ k ≤ 140)) w (fun q => q.2) (f_X10_readsBridge w)) q hq
  unfold f_X10_readsBridge
  refine fr_pw (by omega) (fun w1 => ?_)
  refine fr_pw (by omega) (fun w2 => ?_)
  refine fr_pw (by omega) (fun w3 => ?_)
  refine fr_pw (by omega) (fun w4 => ?_)
  refine fr_pw (by omega) (fun w5 => ?_)
  refine fr_join (fun (v8 : (Int32 × Mem)) => v8.2) ?_ (fun v8 => ?_)
  · refine fr_lp (fun (s27 : (Int32 × Mem)) => s27.2) (fun s27 => ?_) _ _
    refine fr_ite ?_ ?_
    · exact fr_some rfl
    · refine fr_call2 (fun q h k i hU => fr_X10_nextLetter  s27.2 q h k i (by omega)) (fun q6 => ?_)
      refine fr_ite ?_ ?_
      · exact fr_some rfl
      · refine fr_call2 (fun q h k i hU => fr_X10_readsClause  q6.2 q h k i (by omega)) (fun q7 => ?_)
        exact fr_some rfl
  · refine fr_zr ?_
    exact fr_some rfl
theorem fr_X10_bridge (w : Mem) (q : Int32 × Mem) (hq : f_X10_bridge w = some q) : ∀ k i, ¬ ((k = 134 ∧ i = 0) ∨ (k = 134 ∧ i = 25) ∨ (k = 134 ∧ i = 34) ∨ (k = 134 ∧ i = 37) ∨ k = 154 ∨ (k = 134 ∧ 15 ≤ i ∧ i ≤ 18) ∨ (k = 134 ∧ 2 ≤ i ∧ i ≤ 9) ∨ (136 ≤ k ∧ k ≤ 146)) → q.2 k i = w k i := by
  refine (?_ : Fr (fun k i => (k = 134 ∧ i = 0) ∨ (k = 134 ∧ i = 25) ∨ (k = 134 ∧ i = 34) ∨ (k = 134 ∧ i = 37) ∨ k = 154 ∨ (k = 134 ∧ 15 ≤ i ∧ i ≤ 18) ∨ (k = 134 ∧ 2 ≤ i ∧ i ≤ 9) ∨ (136 ≤ k ∧ k ≤ 146)) w (fun q => q.2) (f_X10_bridge w)) q hq
  unfold f_X10_bridge
  refine fr_call2 (fun q h k i hU => fr_X10_readsBridge  w q h k i (by omega)) (fun q1 => ?_)
  refine fr_pw (by omega) (fun w2 => ?_)
  refine fr_join (fun (v3 : Int32) => w2) ?_ (fun v3 => ?_)
  · refine fr_ite ?_ ?_
    · exact fr_some rfl
    · exact fr_some rfl
  · refine fr_pw (by omega) (fun w4 => ?_)
    refine fr_ite ?_ ?_
    · exact fr_some rfl
    · refine fr_pw (by omega) (fun w5 => ?_)
      refine fr_pw (by omega) (fun w6 => ?_)
      refine fr_pw (by omega) (fun w7 => ?_)
      refine fr_pw (by omega) (fun w8 => ?_)
      refine fr_lt (fun t9 => ?_)
      refine fr_join (fun (v14 : Mem) => v14) ?_ (fun v14 => ?_)
      · refine fr_lp (fun (s81 : (Int32 × Mem)) => s81.2) (fun s81 => ?_) _ _
        refine fr_ite ?_ ?_
        · refine fr_rd (fun x10 => ?_)
          refine fr_wr (fun i => by omega) (fun w11 => ?_)
          refine fr_rd (fun x12 => ?_)
          refine fr_wr (fun i => by omega) (fun w13 => ?_)
          exact fr_some rfl
        · exact fr_some rfl
      · refine fr_join (fun (v21 : Mem) => v21) ?_ (fun v21 => ?_)
        · refine fr_lp (fun (s123 : (Int32 × Mem)) => s123.2) (fun s123 => ?_) _ _
          refine fr_ite ?_ ?_
          · refine fr_rd (fun x15 => ?_)
            refine fr_wr (fun i => by omega) (fun w16 => ?_)
            refine fr_rd (fun x17 => ?_)
            refine fr_wr (fun i => by omega) (fun w18 => ?_)
            refine fr_rd (fun x19 => ?_)
            refine fr_wr (fun i => by omega) (fun w20 => ?_)
            exact fr_some rfl
          · exact fr_some rfl
        · refine fr_join (fun (v23 : Mem) => v23) ?_ (fun v23 => ?_)
          · refine fr_lp (fun (s177 : (Int32 × Mem)) => s177.2) (fun s177 => ?_) _ _
            refine fr_ite ?_ ?_
            · refine fr_wr (fun i => by omega) (fun w22 => ?_)
              exact fr_some rfl
            · exact fr_some rfl
          · refine fr_wr (fun i => by omega) (fun w24 => ?_)
            refine fr_wr (fun i => by omega) (fun w25 => ?_)
            refine fr_join (fun (v26 : Int32) => w25) ?_ (fun v26 => ?_)
            · refine fr_ite ?_ ?_
              · exact fr_some rfl
              · exact fr_some rfl
            · refine fr_wr (fun i => by omega) (fun w27 => ?_)
              refine fr_pw (by omega) (fun w28 => ?_)
              refine fr_pw (by omega) (fun w29 => ?_)
              refine fr_pw (by omega) (fun w30 => ?_)
              refine fr_wr (fun i => by omega) (fun w31 => ?_)
              refine fr_wr (fun i => by omega) (fun w32 => ?_)
              exact fr_some rfl
theorem fr_X10_layTalks (a1 : Int32) (w : Mem) (q : Mem) (hq : f_X10_layTalks a1 w = some q) : ∀ k i, ¬ (k = 148) → q k i = w k i := by
  refine (?_ : Fr (fun k i => k = 148) w (fun q => q) (f_X10_layTalks a1 w)) q hq
  unfold f_X10_layTalks
  refine fr_join (fun (v2 : Mem) => v2) ?_ (fun v2 => ?_)
  · refine fr_lp (fun (s2 : (Int32 × Mem)) => s2.2) (fun s2 => ?_) _ _
    refine fr_ite ?_ ?_
    · refine fr_wr (fun i => by omega) (fun w1 => ?_)
      exact fr_some rfl
    · exact fr_some rfl
  · refine fr_join (fun (v15 : Mem) => v15) ?_ (fun v15 => ?_)
    · refine fr_lp (fun (s24 : (Int32 × Mem)) => s24.2) (fun s24 => ?_) _ _
      refine fr_ite ?_ ?_
      · refine fr_join (fun (v14 : Mem) => v14) ?_ (fun v14 => ?_)
        · refine fr_lp (fun (s33 : (Int32 × Mem)) => s33.2) (fun s33 => ?_) _ _
          refine fr_ite ?_ ?_
          · refine fr_ite ?_ ?_
            · refine fr_call1 (fun r3 => ?_)
              refine fr_join (fun (v4 : Mem) => v4) ?_ (fun v4 => ?_)
              · refine fr_ite ?_ ?_
                · exact fr_some rfl
                · refine fr_lt (fun t5 => ?_)
                  refine fr_join (fun (v6 : Int32) => s33.2) ?_ (fun v6 => ?_)
                  · refine fr_ite ?_ ?_
                    · exact fr_some rfl
                    · exact fr_some rfl
                  · refine fr_join (fun (v12 : Int32) => s33.2) ?_ (fun v12 => ?_)
                    · refine fr_lp (fun (s83 : (Int32 × Int32)) => s33.2) (fun s83 => ?_) _ _
                      refine fr_ite ?_ ?_
                      · refine fr_call1 (fun r7 => ?_)
                        refine fr_join (fun (v8 : Int32) => s33.2) ?_ (fun v8 => ?_)
                        · refine fr_ite ?_ ?_
                          · exact fr_some rfl
                          · refine fr_rd (fun x9 => ?_)
                            refine fr_call1 (fun r10 => ?_)
                            refine fr_ite ?_ ?_
                            · exact fr_some rfl
                            · refine fr_rd (fun x11 => ?_)
                              exact fr_some rfl
                        · exact fr_some rfl
                      · exact fr_some rfl
                    · refine fr_wr (fun i => by omega) (fun w13 => ?_)
                      exact fr_some rfl
              · exact fr_some rfl
            · exact fr_some rfl
          · exact fr_some rfl
        · exact fr_some rfl
      · exact fr_some rfl
    · exact fr_some rfl
theorem fr_X10_layTalk (a1 : Int32) (a2 : Int32) (w : Mem) (q : Mem) (hq : f_X10_layTalk a1 a2 w = some q) : ∀ k i, ¬ (k = 148 ∨ (k = 134 ∧ 30 ≤ i ∧ i ≤ 32)) → q k i = w k i := by
  refine (?_ : Fr (fun k i => k = 148 ∨ (k = 134 ∧ 30 ≤ i ∧ i ≤ 32)) w (fun q => q) (f_X10_layTalk a1 a2 w)) q hq
  unfold f_X10_layTalk
  refine fr_call3 (fun q h k i hU => fr_X10_layTalks a2 w q h k i (by omega)) (fun w1 => ?_)
  refine fr_pw (by omega) (fun w2 => ?_)
  refine fr_pw (by omega) (fun w3 => ?_)
  refine fr_pw (by omega) (fun w4 => ?_)
  refine fr_join (fun (v19 : Mem) => v19) ?_ (fun v19 => ?_)
  · refine fr_lp (fun (s22 : (Int32 × Mem)) => s22.2) (fun s22 => ?_) _ _
    refine fr_ite ?_ ?_
    · refine fr_join (fun (v9 : (Int32 × Int32)) => s22.2) ?_ (fun v9 => ?_)
      · refine fr_lp (fun (s38 : (Int32 × Int32 × Int32)) => s22.2) (fun s38 => ?_) _ _
        refine fr_ite ?_ ?_
        · refine fr_rd (fun x5 => ?_)
          refine fr_call1 (fun r6 => ?_)
          refine fr_join (fun (v7 : Int32) => s22.2) ?_ (fun v7 => ?_)
          · refine fr_ite ?_ ?_
            · exact fr_some rfl
            · refine fr_call1 (fun r8 => ?_)
              exact fr_some rfl
          · exact fr_some rfl
        · exact fr_some rfl
      · refine fr_call1 (fun r10 => ?_)
        refine fr_join (fun (v11 : Int32) => s22.2) ?_ (fun v11 => ?_)
        · refine fr_ite ?_ ?_
          · exact fr_some rfl
          · refine fr_ite ?_ ?_
            · refine fr_call1 (fun r17 => ?_)
              refine fr_ite ?_ ?_
              · exact fr_some rfl
              · refine fr_call1 (fun r18 => ?_)
                refine fr_ite ?_ ?_
                · refine fr_ite ?_ ?_
                  · exact fr_some rfl
                  · exact fr_some rfl
                · exact fr_some rfl
            · exact fr_some rfl
        · refine fr_join (fun (v12 : Mem) => v12) ?_ (fun v12 => ?_)
          · refine fr_ite ?_ ?_
            · exact fr_some rfl
            · refine fr_ite ?_ ?_
              · refine fr_ite ?_ ?_
                · exact fr_some rfl
                · refine fr_pw (by omega) (fun w13 => ?_)
                  refine fr_pw (by omega) (fun w14 => ?_)
                  refine fr_call1 (fun r15 => ?_)
                  refine fr_pw (by omega) (fun w16 => ?_)
                  exact fr_some rfl
              · exact fr_some rfl
          · exact fr_some rfl
    · exact fr_some rfl
  · exact fr_some rfl
theorem fr_X10_worthOfAll (a1 : Int32) (w : Mem) (q : Int32 × Mem) (hq : f_X10_worthOfAll a1 w = some q) : ∀ k i, ¬ (k = 148 ∨ (k = 134 ∧ 30 ≤ i ∧ i ≤ 32)) → q.2 k i = w k i := by
  refine (?_ : Fr (fun k i => k = 148 ∨ (k = 134 ∧ 30 ≤ i ∧ i ≤ 32)) w (fun q => q.2) (f_X10_worthOfAll a1 w)) q hq
  unfold f_X10_worthOfAll
  refine fr_join (fun (v3 : (Int32 × Mem)) => v3.2) ?_ (fun v3 => ?_)
  · refine fr_lp (fun (s4 : (Int32 × Int32 × Mem)) => s4.2.2) (fun s4 => ?_) _ _
    refine fr_ite ?_ ?_
    · refine fr_call3 (fun q h k i hU => fr_X10_layTalk s4.2.1 a1 s4.2.2 q h k i (by omega)) (fun w1 => ?_)
      refine fr_call1 (fun r2 => ?_)
      exact fr_some rfl
    · exact fr_some rfl
  · exact fr_some rfl
theorem fr_X10_bestToLearn (w : Mem) (q : Int32 × Mem) (hq : f_X10_bestToLearn w = some q) : ∀ k i, ¬ (k = 148 ∨ (k = 134 ∧ 30 ≤ i ∧ i ≤ 32)) → q.2 k i = w k i := by
  refine (?_ : Fr (fun k i => k = 148 ∨ (k = 134 ∧ 30 ≤ i ∧ i ≤ 32)) w (fun q => q.2) (f_X10_bestToLearn w)) q hq
  unfold f_X10_bestToLearn
  refine fr_join (fun (v8 : (Int32 × Mem)) => v8.2) ?_ (fun v8 => ?_)
  · refine fr_lp (fun (s6 : (Int32 × Int32 × Int32 × Mem)) => s6.2.2.2) (fun s6 => ?_) _ _
    refine fr_ite ?_ ?_
    · refine fr_rd (fun x1 => ?_)
      refine fr_call1 (fun r2 => ?_)
      refine fr_join (fun (v3 : (Int32 × Mem)) => v3.2) ?_ (fun v3 => ?_)
      · refine fr_ite ?_ ?_
        · refine fr_rd (fun x6 => ?_)
          refine fr_call2 (fun q h k i hU => fr_X10_worthOfAll (x6 ||| ((1 : Int32) <<< (s6.2.2.1 &&& 31))) s6.2.2.2 q h k i (by omega)) (fun q7 => ?_)
          exact fr_some rfl
        · exact fr_some rfl
      · refine fr_join (fun (v4 : Int32) => v3.2) ?_ (fun v4 => ?_)
        · refine fr_ite ?_ ?_
          · exact fr_some rfl
          · exact fr_some rfl
        · refine fr_join (fun (v5 : Int32) => v3.2) ?_ (fun v5 => ?_)
          · refine fr_ite ?_ ?_
            · exact fr_some rfl
            · exact fr_some rfl
          · exact fr_some rfl
    · exact fr_some rfl
  · exact fr_some rfl
theorem fr_X10_told (a1 : Int32) (w : Mem) (q : Int32 × Mem) (hq : f_X10_told a1 w = some q) : ∀ k i, ¬ (k = 148 ∨ (k = 134 ∧ 30 ≤ i ∧ i ≤ 32)) → q.2 k i = w k i := by
  refine (?_ : Fr (fun k i => k = 148 ∨ (k = 134 ∧ 30 ≤ i ∧ i ≤ 32)) w (fun q => q.2) (f_X10_told a1 w)) q hq
  unfold f_X10_told
  refine fr_ite ?_ ?_
  · exact fr_some rfl
  · refine fr_ite ?_ ?_
    · exact fr_some rfl
    · refine fr_ite ?_ ?_
      · exact fr_some rfl
      · refine fr_ite ?_ ?_
        · exact fr_some rfl
        · refine fr_ite ?_ ?_
          · exact fr_some rfl
          · refine fr_ite ?_ ?_
            · refine fr_rd (fun x6 => ?_)
              exact fr_some rfl
            · refine fr_ite ?_ ?_
              · refine fr_rd (fun x8 => ?_)
                exact fr_some rfl
              · refine fr_ite ?_ ?_
                · refine fr_rd (fun x10 => ?_)
                  exact fr_some rfl
                · refine fr_ite ?_ ?_
                  · refine fr_rd (fun x12 => ?_)
                    exact fr_some rfl
                  · refine fr_ite ?_ ?_
                    · refine fr_rd (fun x14 => ?_)
                      exact fr_some rfl
                    · refine fr_ite ?_ ?_
                      · refine fr_rd (fun x16 => ?_)
                        exact fr_some rfl
                      · refine fr_ite ?_ ?_
                        · refine fr_rd (fun x18 => ?_)
                          exact fr_some rfl
                        · refine fr_ite ?_ ?_
                          · refine fr_call1 (fun r20 => ?_)
                            exact fr_some rfl
                          · refine fr_ite ?_ ?_
                            · refine fr_call1 (fun r22 => ?_)
                              exact fr_some rfl
                            · refine fr_ite ?_ ?_
                              · refine fr_call1 (fun r24 => ?_)
                                exact fr_some rfl
                              · refine fr_ite ?_ ?_
                                · refine fr_call1 (fun r26 => ?_)
                                  exact fr_some rfl
                                · refine fr_ite ?_ ?_
                                  · refine fr_call1 (fun r28 => ?_)
                                    exact fr_some rfl
                                  · refine fr_ite ?_ ?_
                                    · refine fr_call2 (fun q h k i hU => fr_X10_bestToLearn  w q h k i (by omega)) (fun q30 => ?_)
                                      exact fr_some rfl
                                    · refine fr_ite ?_ ?_
                                      · exact fr_some rfl
                                      · refine fr_ite ?_ ?_
                                        · exact fr_some rfl
                                        · refine fr_ite ?_ ?_
                                          · exact fr_some rfl
                                          · exact fr_some rfl
theorem fr_X10_remember (w : Mem) (q : Mem) (hq : f_X10_remember w = some q) : ∀ k i, ¬ (k = 147 ∨ (k = 134 ∧ 25 ≤ i ∧ i ≤ 26)) → q k i = w k i := by
  refine (?_ : Fr (fun k i => k = 147 ∨ (k = 134 ∧ 25 ≤ i ∧ i ≤ 26)) w (fun q => q) (f_X10_remember w)) q hq
  unfold f_X10_remember
  refine fr_join (fun (v3 : Mem) => v3) ?_ (fun v3 => ?_)
  · refine fr_lp (fun (s2 : (Int32 × Mem)) => s2.2) (fun s2 => ?_) _ _
    refine fr_ite ?_ ?_
    · refine fr_rd (fun x1 => ?_)
      refine fr_wr (fun i => by omega) (fun w2 => ?_)
      exact fr_some rfl
    · exact fr_some rfl
  · refine fr_pw (by omega) (fun w4 => ?_)
    refine fr_join (fun (v5 : Int32) => w4) ?_ (fun v5 => ?_)
    · refine fr_ite ?_ ?_
      · exact fr_some rfl
      · exact fr_some rfl
    · refine fr_pw (by omega) (fun w6 => ?_)
      exact fr_some rfl
theorem fr_X10_seats (a1 : Int32) (w : Mem) (q : Mem) (hq : f_X10_seats a1 w = some q) : ∀ k i, ¬ (k = 146) → q k i = w k i := by
  refine (?_ : Fr (fun k i => k = 146) w (fun q => q) (f_X10_seats a1 w)) q hq
  unfold f_X10_seats
  refine fr_wr (fun i => by omega) (fun w1 => ?_)
  refine fr_wr (fun i => by omega) (fun w2 => ?_)
  refine fr_wr (fun i => by omega) (fun w3 => ?_)
  refine fr_wr (fun i => by omega) (fun w4 => ?_)
  exact fr_some rfl
theorem fr_X10_seat (a1 : Int32) (w : Mem) (q : Int32 × Mem) (hq : f_X10_seat a1 w = some q) : ∀ k i, ¬ ((k = 134 ∧ 25 ≤ i ∧ i ≤ 26) ∨ (146 ≤ k ∧ k ≤ 147)) → q.2 k i = w k i := by
  refine (?_ : Fr (fun k i => (k = 134 ∧ 25 ≤ i ∧ i ≤ 26) ∨ (146 ≤ k ∧ k ≤ 147)) w (fun q => q.2) (f_X10_seat a1 w)) q hq
  unfold f_X10_seat
  refine fr_call1 (fun r1 => ?_)
  refine fr_ite ?_ ?_
  · exact fr_some rfl
  · refine fr_rd (fun x2 => ?_)
    refine fr_ite ?_ ?_
    · refine fr_rd (fun x3 => ?_)
      refine fr_ite ?_ ?_
      · refine fr_call3 (fun q h k i hU => fr_X10_remember  w q h k i (by omega)) (fun w4 => ?_)
        refine fr_call3 (fun q h k i hU => fr_X10_seats a1 w4 q h k i (by omega)) (fun w5 => ?_)
        refine fr_rd (fun x6 => ?_)
        exact fr_some rfl
      · exact fr_some rfl
    · exact fr_some rfl
theorem fr_X10_passes (a1 : Int32) (w : Mem) (q : Mem) (hq : f_X10_passes a1 w = some q) : ∀ k i, ¬ (k = 146) → q k i = w k i := by
  refine (?_ : Fr (fun k i => k = 146) w (fun q => q) (f_X10_passes a1 w)) q hq
  unfold f_X10_passes
  refine fr_join (fun (v15 : Mem) => v15) ?_ (fun v15 => ?_)
  · refine fr_lp (fun (s2 : (Int32 × Mem)) => s2.2) (fun s2 => ?_) _ _
    refine fr_ite ?_ ?_
    · refine fr_join (fun (v12 : Mem) => v12) ?_ (fun v12 => ?_)
      · refine fr_lp (fun (s9 : (Int32 × Mem)) => s9.2) (fun s9 => ?_) _ _
        refine fr_ite ?_ ?_
        · refine fr_rd (fun x1 => ?_)
          refine fr_join (fun (v2 : Int32) => s9.2) ?_ (fun v2 => ?_)
          · refine fr_ite ?_ ?_
            · exact fr_some rfl
            · exact fr_some rfl
          · refine fr_rd (fun x3 => ?_)
            refine fr_join (fun (v4 : Int32) => s9.2) ?_ (fun v4 => ?_)
            · refine fr_ite ?_ ?_
              · exact fr_some rfl
              · exact fr_some rfl
            · refine fr_wr (fun i => by omega) (fun w5 => ?_)
              refine fr_join (fun (v6 : Int32) => w5) ?_ (fun v6 => ?_)
              · refine fr_ite ?_ ?_
                · refine fr_rd (fun x8 => ?_)
                  exact fr_some rfl
                · refine fr_rd (fun x9 => ?_)
                  refine fr_call1 (fun r10 => ?_)
                  refine fr_ite ?_ ?_
                  · exact fr_some rfl
                  · refine fr_rd (fun x11 => ?_)
                    exact fr_some rfl
              · refine fr_wr (fun i => by omega) (fun w7 => ?_)
                exact fr_some rfl
        · exact fr_some rfl
      · refine fr_rd (fun x13 => ?_)
        refine fr_wr (fun i => by omega) (fun w14 => ?_)
        exact fr_some rfl
    · exact fr_some rfl
  · exact fr_some rfl
theorem fr_X10_rises (w : Mem) (q : Int32 × Mem) (hq : f_X10_rises w = some q) : ∀ k i, ¬ (k = 146) → q.2 k i = w k i := by
  refine (?_ : Fr (fun k i => k = 146) w (fun q => q.2) (f_X10_rises w)) q hq
  unfold f_X10_rises
  refine fr_rd (fun x1 => ?_)
  refine fr_rd (fun x2 => ?_)
  refine fr_call1 (fun r3 => ?_)
  refine fr_rd (fun x4 => ?_)
  refine fr_join (fun (v5 : Int32) => w) ?_ (fun v5 => ?_)
  · refine fr_ite ?_ ?_
    · exact fr_some rfl
    · refine fr_rd (fun x18 => ?_)
      exact fr_some rfl
  · refine fr_wr (fun i => by omega) (fun w6 => ?_)
    refine fr_wr (fun i => by omega) (fun w7 => ?_)
    refine fr_wr (fun i => by omega) (fun w8 => ?_)
    refine fr_wr (fun i => by omega) (fun w9 => ?_)
    refine fr_wr (fun i => by omega) (fun w10 => ?_)
    refine fr_rd (fun x11 => ?_)
    refine fr_rd (fun x12 => ?_)
    refine fr_lt (fun t13 => ?_)
    refine fr_rd (fun x14 => ?_)
    refine fr_rd (fun x15 => ?_)
    refine fr_join (fun (v16 : Int32) => w10) ?_ (fun v16 => ?_)
    · refine fr_ite ?_ ?_
      · exact fr_some rfl
      · exact fr_some rfl
    · refine fr_wr (fun i => by omega) (fun w17 => ?_)
      exact fr_some rfl
theorem fr_X10_tells (a1 : Int32) (w : Mem) (q : Int32 × Mem) (hq : f_X10_tells a1 w = some q) : ∀ k i, ¬ (k = 146) → q.2 k i = w k i := by
  refine (?_ : Fr (fun k i => k = 146) w (fun q => q.2) (f_X10_tells a1 w)) q hq
  unfold f_X10_tells
  refine fr_rd (fun x1 => ?_)
  refine fr_rd (fun x2 => ?_)
  refine fr_ite ?_ ?_
  · refine fr_call1 (fun r3 => ?_)
    refine fr_rd (fun x4 => ?_)
    refine fr_wr (fun i => by omega) (fun w5 => ?_)
    refine fr_wr (fun i => by omega) (fun w6 => ?_)
    refine fr_rd (fun x7 => ?_)
    refine fr_wr (fun i => by omega) (fun w8 => ?_)
    refine fr_call3 (fun q h k i hU => fr_X10_passes r3 w8 q h k i (by omega)) (fun w9 => ?_)
    exact fr_some rfl
  · refine fr_rd (fun x10 => ?_)
    refine fr_rd (fun x11 => ?_)
    refine fr_call1 (fun r12 => ?_)
    refine fr_ite ?_ ?_
    · refine fr_call2 (fun q h k i hU => fr_X10_rises  w q h k i (by omega)) (fun q20 => ?_)
      exact fr_some rfl
    · refine fr_call1 (fun r13 => ?_)
      refine fr_rd (fun x14 => ?_)
      refine fr_wr (fun i => by omega) (fun w15 => ?_)
      refine fr_wr (fun i => by omega) (fun w16 => ?_)
      refine fr_rd (fun x17 => ?_)
      refine fr_wr (fun i => by omega) (fun w18 => ?_)
      refine fr_call3 (fun q h k i hU => fr_X10_passes r13 w18 q h k i (by omega)) (fun w19 => ?_)
      exact fr_some rfl
theorem fr_X10_tell (a1 : Int32) (w : Mem) (q : Int32 × Mem) (hq : f_X10_tell a1 w = some q) : ∀ k i, ¬ ((k = 134 ∧ 25 ≤ i ∧ i ≤ 26) ∨ (146 ≤ k ∧ k ≤ 147)) → q.2 k i = w k i := by
  refine (?_ : Fr (fun k i => (k = 134 ∧ 25 ≤ i ∧ i ≤ 26) ∨ (146 ≤ k ∧ k ≤ 147)) w (fun q => q.2) (f_X10_tell a1 w)) q hq
  unfold f_X10_tell
  refine fr_call1 (fun r1 => ?_)
  refine fr_ite ?_ ?_
  · exact fr_some rfl
  · refine fr_call1 (fun r2 => ?_)
    refine fr_ite ?_ ?_
    · exact fr_some rfl
    · refine fr_call3 (fun q h k i hU => fr_X10_remember  w q h k i (by omega)) (fun w3 => ?_)
      refine fr_call2 (fun q h k i hU => fr_X10_tells a1 w3 q h k i (by omega)) (fun q4 => ?_)
      exact fr_some rfl
theorem fr_X10_rise (w : Mem) (q : Int32 × Mem) (hq : f_X10_rise w = some q) : ∀ k i, ¬ ((k = 134 ∧ 25 ≤ i ∧ i ≤ 26) ∨ (146 ≤ k ∧ k ≤ 147)) → q.2 k i = w k i := by
  refine (?_ : Fr (fun k i => (k = 134 ∧ 25 ≤ i ∧ i ≤ 26) ∨ (146 ≤ k ∧ k ≤ 147)) w (fun q => q.2) (f_X10_rise w)) q hq
  unfold f_X10_rise
  refine fr_rd (fun x1 => ?_)
  refine fr_ite ?_ ?_
  · exact fr_some rfl
  · refine fr_call3 (fun q h k i hU => fr_X10_remember  w q h k i (by omega)) (fun w2 => ?_)
    refine fr_call2 (fun q h k i hU => fr_X10_rises  w2 q h k i (by omega)) (fun q3 => ?_)
    exact fr_some rfl
theorem fr_X10_learn (a1 : Int32) (w : Mem) (q : Int32 × Mem) (hq : f_X10_learn a1 w = some q) : ∀ k i, ¬ ((k = 134 ∧ 25 ≤ i ∧ i ≤ 26) ∨ (146 ≤ k ∧ k ≤ 147)) → q.2 k i = w k i := by
  refine (?_ : Fr (fun k i => (k = 134 ∧ 25 ≤ i ∧ i ≤ 26) ∨ (146 ≤ k ∧ k ≤ 147)) w (fun q => q.2) (f_X10_learn a1 w)) q hq
  unfold f_X10_learn
  refine fr_call1 (fun r1 => ?_)
  refine fr_ite ?_ ?_
  · exact fr_some rfl
  · refine fr_rd (fun x2 => ?_)
    refine fr_call1 (fun r3 => ?_)
    refine fr_ite ?_ ?_
    · refine fr_call3 (fun q h k i hU => fr_X10_remember  w q h k i (by omega)) (fun w4 => ?_)
      refine fr_rd (fun x5 => ?_)
      refine fr_wr (fun i => by omega) (fun w6 => ?_)
      refine fr_call3 (fun q h k i hU => fr_X10_passes (60 : Int32) w6 q h k i (by omega)) (fun w7 => ?_)
      refine fr_rd (fun x8 => ?_)
      refine fr_call1 (fun r9 => ?_)
      exact fr_some rfl
    · exact fr_some rfl
theorem fr_X10_minute (a1 : Int32) (w : Mem) (q : Int32 × Mem) (hq : f_X10_minute a1 w = some q) : ∀ k i, ¬ ((k = 134 ∧ 25 ≤ i ∧ i ≤ 26) ∨ (146 ≤ k ∧ k ≤ 147)) → q.2 k i = w k i := by
  refine (?_ : Fr (fun k i => (k = 134 ∧ 25 ≤ i ∧ i ≤ 26) ∨ (146 ≤ k ∧ k ≤ 147)) w (fun q => q.2) (f_X10_minute a1 w)) q hq
  unfold f_X10_minute
  refine fr_call1 (fun r1 => ?_)
  refine fr_ite ?_ ?_
  · exact fr_some rfl
  · refine fr_call1 (fun r2 => ?_)
    refine fr_ite ?_ ?_
    · exact fr_some rfl
    · refine fr_rd (fun x3 => ?_)
      refine fr_ite ?_ ?_
      · exact fr_some rfl
      · refine fr_call3 (fun q h k i hU => fr_X10_remember  w q h k i (by omega)) (fun w4 => ?_)
        refine fr_call3 (fun q h k i hU => fr_X10_passes a1 w4 q h k i (by omega)) (fun w5 => ?_)
        refine fr_rd (fun x6 => ?_)
        exact fr_some rfl
theorem fr_X10_anew (w : Mem) (q : Int32 × Mem) (hq : f_X10_anew w = some q) : ∀ k i, ¬ ((k = 134 ∧ 25 ≤ i ∧ i ≤ 26) ∨ (146 ≤ k ∧ k ≤ 147)) → q.2 k i = w k i := by
  refine (?_ : Fr (fun k i => (k = 134 ∧ 25 ≤ i ∧ i ≤ 26) ∨ (146 ≤ k ∧ k ≤ 147)) w (fun q => q.2) (f_X10_anew w)) q hq
  unfold f_X10_anew
  refine fr_call1 (fun r1 => ?_)
  refine fr_ite ?_ ?_
  · exact fr_some rfl
  · refine fr_rd (fun x2 => ?_)
    refine fr_ite ?_ ?_
    · exact fr_some rfl
    · refine fr_call3 (fun q h k i hU => fr_X10_remember  w q h k i (by omega)) (fun w3 => ?_)
      refine fr_join (fun (v7 : Mem) => v7) ?_ (fun v7 => ?_)
      · refine fr_lp (fun (s31 : (Int32 × Mem)) => s31.2) (fun s31 => ?_) _ _
        refine fr_ite ?_ ?_
        · refine fr_wr (fun i => by omega) (fun w4 => ?_)
          refine fr_wr (fun i => by omega) (fun w5 => ?_)
          refine fr_wr (fun i => by omega) (fun w6 => ?_)
          exact fr_some rfl
        · exact fr_some rfl
      · refine fr_wr (fun i => by omega) (fun w8 => ?_)
        refine fr_wr (fun i => by omega) (fun w9 => ?_)
        refine fr_wr (fun i => by omega) (fun w10 => ?_)
        refine fr_rd (fun x11 => ?_)
        refine fr_wr (fun i => by omega) (fun w12 => ?_)
        refine fr_rd (fun x13 => ?_)
        exact fr_some rfl
theorem fr_X10_draw (a1 : Int32) (w : Mem) (q : Int32 × Mem) (hq : f_X10_draw a1 w = some q) : ∀ k i, ¬ ((k = 134 ∧ i = 28)) → q.2 k i = w k i := by
  refine (?_ : Fr (fun k i => (k = 134 ∧ i = 28)) w (fun q => q.2) (f_X10_draw a1 w)) q hq
  unfold f_X10_draw
  refine fr_pl (by omega) (fun w1 => ?_)
  refine fr_nzl ?_
  exact fr_some rfl
theorem fr_X10_draws (w : Mem) (q : Mem) (hq : f_X10_draws w = some q) : ∀ k i, ¬ ((k = 134 ∧ i = 28) ∨ k = 146) → q k i = w k i := by
  refine (?_ : Fr (fun k i => (k = 134 ∧ i = 28) ∨ k = 146) w (fun q => q) (f_X10_draws w)) q hq
  unfold f_X10_draws
  refine fr_rd (fun x1 => ?_)
  refine fr_ite ?_ ?_
  · refine fr_join (fun (v7 : (Int32 × Mem)) => v7.2) ?_ (fun v7 => ?_)
    · refine fr_ite ?_ ?_
      · refine fr_call2 (fun q h k i hU => fr_X10_draw (w 134 18) w q h k i (by omega)) (fun q11 => ?_)
        exact fr_some rfl
      · exact fr_some rfl
    · refine fr_join (fun (v8 : Mem) => v8) ?_ (fun v8 => ?_)
      · refine fr_ite ?_ ?_
        · exact fr_some rfl
        · refine fr_rd (fun x9 => ?_)
          refine fr_ite ?_ ?_
          · refine fr_call3 (fun q h k i hU => fr_X10_seats v7.1 v7.2 q h k i (by omega)) (fun w10 => ?_)
            exact fr_some rfl
          · exact fr_some rfl
      · exact fr_some rfl
  · refine fr_call2 (fun q h k i hU => fr_X10_draw (4 : Int32) w q h k i (by omega)) (fun q2 => ?_)
    refine fr_ite ?_ ?_
    · refine fr_call2 (fun q h k i hU => fr_X10_rises  q2.2 q h k i (by omega)) (fun q6 => ?_)
      exact fr_some rfl
    · refine fr_ite ?_ ?_
      · refine fr_call2 (fun q h k i hU => fr_X10_draw (q2.2 134 17) q2.2 q h k i (by omega)) (fun q3 => ?_)
        refine fr_call1 (fun r4 => ?_)
        refine fr_ite ?_ ?_
        · exact fr_some rfl
        · refine fr_call2 (fun q h k i hU => fr_X10_tells q3.1 q3.2 q h k i (by omega)) (fun q5 => ?_)
          exact fr_some rfl
      · exact fr_some rfl
theorem fr_X10_drift (a1 : Int32) (w : Mem) (q : Int32 × Mem) (hq : f_X10_drift a1 w = some q) : ∀ k i, ¬ ((k = 134 ∧ i = 28) ∨ (k = 134 ∧ 25 ≤ i ∧ i ≤ 26) ∨ (146 ≤ k ∧ k ≤ 147)) → q.2 k i = w k i := by
  refine (?_ : Fr (fun k i => (k = 134 ∧ i = 28) ∨ (k = 134 ∧ 25 ≤ i ∧ i ≤ 26) ∨ (146 ≤ k ∧ k ≤ 147)) w (fun q => q.2) (f_X10_drift a1 w)) q hq
  unfold f_X10_drift
  refine fr_call1 (fun r1 => ?_)
  refine fr_ite ?_ ?_
  · exact fr_some rfl
  · refine fr_call1 (fun r2 => ?_)
    refine fr_ite ?_ ?_
    · exact fr_some rfl
    · refine fr_rd (fun x3 => ?_)
      refine fr_ite ?_ ?_
      · exact fr_some rfl
      · refine fr_join (fun (v7 : Mem) => v7) ?_ (fun v7 => ?_)
        · refine fr_lp (fun (s39 : (Int32 × Mem)) => s39.2) (fun s39 => ?_) _ _
          refine fr_ite ?_ ?_
          · refine fr_call3 (fun q h k i hU => fr_X10_remember  s39.2 q h k i (by omega)) (fun w4 => ?_)
            refine fr_call3 (fun q h k i hU => fr_X10_draws  w4 q h k i (by omega)) (fun w5 => ?_)
            refine fr_call3 (fun q h k i hU => fr_X10_passes (1 : Int32) w5 q h k i (by omega)) (fun w6 => ?_)
            exact fr_some rfl
          · exact fr_some rfl
        · refine fr_rd (fun x8 => ?_)
          exact fr_some rfl
theorem fr_X10_undo (a1 : Int32) (w : Mem) (q : Int32 × Mem) (hq : f_X10_undo a1 w = some q) : ∀ k i, ¬ (k = 146 ∨ (k = 134 ∧ 25 ≤ i ∧ i ≤ 26)) → q.2 k i = w k i := by
  refine (?_ : Fr (fun k i => k = 146 ∨ (k = 134 ∧ 25 ≤ i ∧ i ≤ 26)) w (fun q => q.2) (f_X10_undo a1 w)) q hq
  unfold f_X10_undo
  refine fr_call1 (fun r1 => ?_)
  refine fr_ite ?_ ?_
  · exact fr_some rfl
  · refine fr_ite ?_ ?_
    · exact fr_some rfl
    · refine fr_pw (by omega) (fun w2 => ?_)
      refine fr_pw (by omega) (fun w3 => ?_)
      refine fr_join (fun (v6 : Mem) => v6) ?_ (fun v6 => ?_)
      · refine fr_lp (fun (s52 : (Int32 × Mem)) => s52.2) (fun s52 => ?_) _ _
        refine fr_ite ?_ ?_
        · refine fr_rd (fun x4 => ?_)
          refine fr_wr (fun i => by omega) (fun w5 => ?_)
          exact fr_some rfl
        · exact fr_some rfl
      · refine fr_rd (fun x7 => ?_)
        exact fr_some rfl
theorem fr_X10_talk (a1 : Int32) (a2 : Int32) (w : Mem) (q : Int32 × Mem) (hq : f_X10_talk a1 a2 w = some q) : ∀ k i, ¬ (k = 148 ∨ (k = 134 ∧ 30 ≤ i ∧ i ≤ 32)) → q.2 k i = w k i := by
  refine (?_ : Fr (fun k i => k = 148 ∨ (k = 134 ∧ 30 ≤ i ∧ i ≤ 32)) w (fun q => q.2) (f_X10_talk a1 a2 w)) q hq
  unfold f_X10_talk
  refine fr_call1 (fun r1 => ?_)
  refine fr_ite ?_ ?_
  · exact fr_some rfl
  · refine fr_call1 (fun r2 => ?_)
    refine fr_ite ?_ ?_
    · exact fr_some rfl
    · refine fr_rd (fun x3 => ?_)
      refine fr_call3 (fun q h k i hU => fr_X10_layTalk a1 x3 w q h k i (by omega)) (fun w4 => ?_)
      refine fr_ite ?_ ?_
      · exact fr_some rfl
      · refine fr_ite ?_ ?_
        · exact fr_some rfl
        · refine fr_ite ?_ ?_
          · exact fr_some rfl
          · refine fr_call1 (fun r5 => ?_)
            exact fr_some rfl
theorem fr_X10_queue (a1 : Int32) (w : Mem) (q : Int32 × Mem) (hq : f_X10_queue a1 w = some q) : ∀ k i, ¬ ((k = 134 ∧ 30 ≤ i ∧ i ≤ 32) ∨ (148 ≤ k ∧ k ≤ 149)) → q.2 k i = w k i := by
  refine (?_ : Fr (fun k i => (k = 134 ∧ 30 ≤ i ∧ i ≤ 32) ∨ (148 ≤ k ∧ k ≤ 149)) w (fun q => q.2) (f_X10_queue a1 w)) q hq
  unfold f_X10_queue
  refine fr_call1 (fun r1 => ?_)
  refine fr_ite ?_ ?_
  · exact fr_some rfl
  · refine fr_rd (fun x2 => ?_)
    refine fr_ite ?_ ?_
    · refine fr_call1 (fun r3 => ?_)
      refine fr_ite ?_ ?_
      · exact fr_some rfl
      · refine fr_join (fun (v7 : Mem) => v7) ?_ (fun v7 => ?_)
        · refine fr_lp (fun (s39 : (Int32 × Mem)) => s39.2) (fun s39 => ?_) _ _
          refine fr_ite ?_ ?_
          · refine fr_rd (fun x4 => ?_)
            refine fr_call3 (fun q h k i hU => fr_X10_layTalk s39.1 x4 s39.2 q h k i (by omega)) (fun w5 => ?_)
            refine fr_wr (fun i => by omega) (fun w6 => ?_)
            exact fr_some rfl
          · exact fr_some rfl
        · refine fr_join (fun (v10 : (Int32 × Int32)) => v7) ?_ (fun v10 => ?_)
          · refine fr_lp (fun (s83 : (Int32 × Int32 × Int32)) => v7) (fun s83 => ?_) _ _
            refine fr_call1 (fun r8 => ?_)
            refine fr_ite ?_ ?_
            · refine fr_lt (fun t9 => ?_)
              exact fr_some rfl
            · exact fr_some rfl
          · refine fr_join (fun (v15 : (Int32 × Int32)) => v7) ?_ (fun v15 => ?_)
            · refine fr_lp (fun (s118 : (Int32 × Int32 × Int32)) => v7) (fun s118 => ?_) _ _
              refine fr_ite ?_ ?_
              · refine fr_call1 (fun r11 => ?_)
                refine fr_join (fun (v12 : Int32) => v7) ?_ (fun v12 => ?_)
                · refine fr_ite ?_ ?_
                  · exact fr_some rfl
                  · exact fr_some rfl
                · refine fr_join (fun (v13 : Int32) => v7) ?_ (fun v13 => ?_)
                  · refine fr_ite ?_ ?_
                    · exact fr_some rfl
                    · exact fr_some rfl
                  · refine fr_call1 (fun r14 => ?_)
                    exact fr_some rfl
              · exact fr_some rfl
            · refine fr_ite ?_ ?_
              · exact fr_some rfl
              · exact fr_some rfl
    · exact fr_some rfl
theorem fr_X10_stayed (a1 : Int32) (a2 : Int32) (w : Mem) (q : Int32 × Mem) (hq : f_X10_stayed a1 a2 w = some q) : ∀ k i, ¬ ((k = 134 ∧ i = 34) ∨ (150 ≤ k ∧ k ≤ 151)) → q.2 k i = w k i := by
  refine (?_ : Fr (fun k i => (k = 134 ∧ i = 34) ∨ (150 ≤ k ∧ k ≤ 151)) w (fun q => q.2) (f_X10_stayed a1 a2 w)) q hq
  unfold f_X10_stayed
  refine fr_call1 (fun r1 => ?_)
  refine fr_ite ?_ ?_
  · exact fr_some rfl
  · refine fr_call1 (fun r2 => ?_)
    refine fr_ite ?_ ?_
    · exact fr_some rfl
    · refine fr_ite ?_ ?_
      · exact fr_some rfl
      · refine fr_wr (fun i => by omega) (fun w3 => ?_)
        refine fr_wr (fun i => by omega) (fun w4 => ?_)
        refine fr_pw (by omega) (fun w5 => ?_)
        exact fr_some rfl
theorem fr_X10_write (a1 : Int32) (a2 : Int32) (w : Mem) (q : Int32 × Mem) (hq : f_X10_write a1 a2 w = some q) : ∀ k i, ¬ ((k = 134 ∧ i = 37) ∨ (152 ≤ k ∧ k ≤ 153)) → q.2 k i = w k i := by
  refine (?_ : Fr (fun k i => (k = 134 ∧ i = 37) ∨ (152 ≤ k ∧ k ≤ 153)) w (fun q => q.2) (f_X10_write a1 a2 w)) q hq
  unfold f_X10_write
  refine fr_call1 (fun r1 => ?_)
  refine fr_ite ?_ ?_
  · exact fr_some rfl
  · refine fr_call1 (fun r2 => ?_)
    refine fr_ite ?_ ?_
    · exact fr_some rfl
    · refine fr_ite ?_ ?_
      · exact fr_some rfl
      · refine fr_wr (fun i => by omega) (fun w3 => ?_)
        refine fr_wr (fun i => by omega) (fun w4 => ?_)
        refine fr_pw (by omega) (fun w5 => ?_)
        exact fr_some rfl
theorem fr_X10_tear (w : Mem) (q : Int32 × Mem) (hq : f_X10_tear w = some q) : ∀ k i, ¬ ((k = 134 ∧ i = 34) ∨ (k = 134 ∧ i = 37)) → q.2 k i = w k i := by
  refine (?_ : Fr (fun k i => (k = 134 ∧ i = 34) ∨ (k = 134 ∧ i = 37)) w (fun q => q.2) (f_X10_tear w)) q hq
  unfold f_X10_tear
  refine fr_lt (fun t1 => ?_)
  refine fr_pw (by omega) (fun w2 => ?_)
  refine fr_pw (by omega) (fun w3 => ?_)
  exact fr_some rfl
theorem fr_X10_seed (a1 : Int32) (w : Mem) (q : Int32 × Mem) (hq : f_X10_seed a1 w = some q) : ∀ k i, ¬ ((k = 134 ∧ i = 28)) → q.2 k i = w k i := by
  refine (?_ : Fr (fun k i => (k = 134 ∧ i = 28)) w (fun q => q.2) (f_X10_seed a1 w)) q hq
  unfold f_X10_seed
  refine fr_ite ?_ ?_
  · exact fr_some rfl
  · refine fr_lt (fun t1 => ?_)
    refine fr_pl (by omega) (fun w2 => ?_)
    exact fr_some rfl
theorem fr_X10_keep (a1 : Int32) (w : Mem) (q : Int32 × Mem) (hq : f_X10_keep a1 w = some q) : ∀ k i, ¬ ((k = 134 ∧ i = 25) ∨ (154 ≤ k ∧ k ≤ 156)) → q.2 k i = w k i := by
  refine (?_ : Fr (fun k i => (k = 134 ∧ i = 25) ∨ (154 ≤ k ∧ k ≤ 156)) w (fun q => q.2) (f_X10_keep a1 w)) q hq
  unfold f_X10_keep
  refine fr_call1 (fun r1 => ?_)
  refine fr_ite ?_ ?_
  · exact fr_some rfl
  · refine fr_wr (fun i => by omega) (fun w2 => ?_)
    refine fr_wrl (fun i => by omega) (fun w3 => ?_)
    refine fr_pw (by omega) (fun w4 => ?_)
    refine fr_join (fun (v7 : Mem) => v7) ?_ (fun v7 => ?_)
    · refine fr_lp (fun (s36 : (Int32 × Mem)) => s36.2) (fun s36 => ?_) _ _
      refine fr_ite ?_ ?_
      · refine fr_rd (fun x5 => ?_)
        refine fr_wr (fun i => by omega) (fun w6 => ?_)
        exact fr_some rfl
      · exact fr_some rfl
    · exact fr_some rfl
theorem fr_X10_goBack (a1 : Int32) (w : Mem) (q : Int32 × Mem) (hq : f_X10_goBack a1 w = some q) : ∀ k i, ¬ ((k = 134 ∧ i = 25) ∨ (k = 134 ∧ i = 28) ∨ k = 146) → q.2 k i = w k i := by
  refine (?_ : Fr (fun k i => (k = 134 ∧ i = 25) ∨ (k = 134 ∧ i = 28) ∨ k = 146) w (fun q => q.2) (f_X10_goBack a1 w)) q hq
  unfold f_X10_goBack
  refine fr_call1 (fun r1 => ?_)
  refine fr_ite ?_ ?_
  · exact fr_some rfl
  · refine fr_rd (fun x2 => ?_)
    refine fr_ite ?_ ?_
    · exact fr_some rfl
    · refine fr_rdl (fun x3 => ?_)
      refine fr_pl (by omega) (fun w4 => ?_)
      refine fr_pw (by omega) (fun w5 => ?_)
      refine fr_join (fun (v8 : Mem) => v8) ?_ (fun v8 => ?_)
      · refine fr_lp (fun (s41 : (Int32 × Mem)) => s41.2) (fun s41 => ?_) _ _
        refine fr_ite ?_ ?_
        · refine fr_rd (fun x6 => ?_)
          refine fr_wr (fun i => by omega) (fun w7 => ?_)
          exact fr_some rfl
        · exact fr_some rfl
      · exact fr_some rfl
