/-! the best of the orders -/
def qS (mi py pa : Nat → Int) (acc : Int × Nat) (p : List Nat) : Int × Nat := if acc.1 < pyl mi py pa p 0 0 then (pyl mi py pa p 0 0, fg p) else acc
def qF (mi py pa : Nat → Int) (l : List (List Nat)) : Int × Nat := l.foldl (qS mi py pa) (-1, 0)
theorem qF_snoc {mi py pa : Nat → Int} {l : List (List Nat)} {p : List Nat} : qF mi py pa (l ++ [p]) = qS mi py pa (qF mi py pa l) p := by
  unfold qF
  rw [List.foldl_append]
  rfl
theorem qF_lo2 {mi py pa : Nat → Int} : ∀ (l : List (List Nat)) (acc : Int × Nat), -1 ≤ acc.1 → -1 ≤ (l.foldl (qS mi py pa) acc).1 := by
  intro l
  induction l with
  | nil => intro acc h; exact h
  | cons p l ih =>
    intro acc h
    have e : (p :: l).foldl (qS mi py pa) acc = l.foldl (qS mi py pa) (qS mi py pa acc p) := rfl
    rw [e]
    refine ih _ ?_
    unfold qS
    by_cases c : acc.1 < pyl mi py pa p 0 0
    · rw [if_pos c]
      show -1 ≤ pyl mi py pa p 0 0
      omega
    · rw [if_neg c]
      exact h
theorem qF_lo {mi py pa : Nat → Int} (l : List (List Nat)) : -1 ≤ (qF mi py pa l).1 := qF_lo2 l (-1, 0) (by show (-1 : Int) ≤ -1; omega)
def srt : List (List Nat) → Bool
  | [] => true
  | p :: t => (match t with
    | [] => true
    | q :: _ => decide (fg p < fg q)) && srt t
theorem srt_tail {p : List Nat} {t : List (List Nat)} (h : srt (p :: t) = true) : srt t = true := by
  unfold srt at h
  rw [Bool.and_eq_true] at h
  exact h.2
theorem srt_lt : ∀ (t : List (List Nat)) (p : List Nat), srt (p :: t) = true → ∀ q, q ∈ t → fg p < fg q := by
  intro t
  induction t with
  | nil => intro p _ q hq; cases hq
  | cons q0 t ih =>
    intro p h q hq
    have h2 := srt_tail h
    unfold srt at h
    rw [Bool.and_eq_true] at h
    have h3 : fg p < fg q0 := of_decide_eq_true h.1
    rcases List.mem_cons.mp hq with e | e
    · rw [e]; exact h3
    · exact Nat.lt_trans h3 (ih q0 h2 q e)
set_option maxRecDepth 100000 in
theorem srt_tab : ∀ S : Fin 64, srt (pm (pb S.1) S.1) = true := by decide +kernel
theorem fg_inj : ∀ k S p q, p ∈ pm k S → q ∈ pm k S → fg p = fg q → p = q := by
  intro k
  induction k with
  | zero =>
    intro S p q hp hq _
    have hp' : p ∈ [[]] := hp
    have hq' : q ∈ [[]] := hq
    rw [List.mem_singleton] at hp' hq'
    rw [hp', hq']
  | succ k ih =>
    intro S p q hp hq e
    obtain ⟨a, _, _, p', h1, h2⟩ := mem_pm.mp hp
    obtain ⟨b, _, _, q', k1, k2⟩ := mem_pm.mp hq
    have e1 : fg (a :: p') = (a + 1) * 10 ^ p'.length + fg p' := rfl
    have e2 : fg (b :: q') = (b + 1) * 10 ^ q'.length + fg q' := rfl
    rw [h2, k2, e1, e2, pm_len _ _ _ h1, pm_len _ _ _ k1] at e
    have h3 := dg_inj (pm_lt _ _ _ h1) (pm_lt _ _ _ k1) e
    have eab : a = b := by omega
    rw [h2, k2, eab]
    rw [eab] at h1
    rw [ih _ _ _ h1 k1 h3.2]
theorem pm_on : ∀ k S p, p ∈ pm k S → on k ≤ fg p := by
  intro k
  induction k with
  | zero => intro S p _; exact Nat.zero_le _
  | succ k ih =>
    intro S p h
    obtain ⟨a, _, _, p', h1, h2⟩ := mem_pm.mp h
    have e1 : fg (a :: p') = (a + 1) * 10 ^ p'.length + fg p' := rfl
    have e2 : on (k + 1) = 10 ^ k + on k := rfl
    have h3 := ih _ _ h1
    have h4 : 1 * 10 ^ k ≤ (a + 1) * 10 ^ k := Nat.mul_le_mul_right _ (by omega)
    rw [h2, e1, e2, pm_len _ _ _ h1]
    omega
/-! the reference goes through all figures -/
theorem pc_qloop {m : Mem} {S v1 v2 : Int32} {mi py pa : Nat → Int} {n N : Nat} (h0 : 0 ≤ S.toInt) (h1 : S.toInt ≤ 63) (hn1 : 1 ≤ pb S.toNatClampNeg) (hn : 1 ≤ n ∧ n ≤ 6) (en : (m 134 18).toInt = n) (hS : S.toNatClampNeg < 2 ^ n) (hT : ∀ t : Nat, S.toNatClampNeg.testBit t = true → QuT mi py pa m t) (e1 : v1.toInt = (on (pb S.toNatClampNeg) : Nat)) (e2 : v2.toInt = (10 ^ pb S.toNatClampNeg : Nat)) : Pc (fun (r : Int32 × Int32) => r.2.toInt = (qF mi py pa (pm (pb S.toNatClampNeg) S.toNatClampNeg)).1 ∧ r.1.toInt = ((qF mi py pa (pm (pb S.toNatClampNeg) S.toNatClampNeg)).2 : Nat)) (lp (S := (Int32 × Int32 × Int32)) (T := (Int32 × Int32)) (fun s118 => (if s118.1 < v2 then (f_X10_paidBy s118.1 S m).bind fun r11 => ((if s118.2.2 < r11 then some (s118.1) else some (s118.2.1)) : Option Int32).bind fun v12 => ((if s118.2.2 < r11 then some (r11) else some (s118.2.2)) : Option Int32).bind fun v13 => (f_X10_nextFigures s118.1 (m 134 18)).bind fun r14 => some (Sum.inl (r14, v12, v13)) else some (Sum.inr (s118.2.1, s118.2.2)))) N (v1, (0 : Int32), (-1 : Int32))) := by
  have t0 := tl_0
  have tm := tl_m1
  have hp6 := pb_6 h0 h1
  have cS := i_clq h0
  have hsrt : srt (pm (pb S.toNatClampNeg) S.toNatClampNeg) = true := srt_tab ⟨S.toNatClampNeg, by omega⟩
  obtain ⟨k, ek⟩ : ∃ k, pb S.toNatClampNeg = k := ⟨_, rfl⟩
  obtain ⟨V, eV⟩ : ∃ V, S.toNatClampNeg = V := ⟨_, rfl⟩
  rw [ek, eV] at hsrt
  rw [ek] at hn1 hp6 e1 e2 ⊢
  rw [eV] at hS ⊢
  refine pc_lp (fun (s : Int32 × Int32 × Int32) => 0 ≤ s.1.toInt ∧ ∃ dn rs, pm k V = dn ++ rs ∧ srt rs = true ∧ (∀ p, p ∈ dn → (fg p : Int) < s.1.toInt) ∧ (∀ p, p ∈ rs → s.1.toInt ≤ (fg p : Int)) ∧ s.2.2.toInt = (qF mi py pa dn).1 ∧ s.2.1.toInt = ((qF mi py pa dn).2 : Nat)) ?_ _ _ ?_
  · intro s hX
    obtain ⟨x0, dn, rs, x1, x2, x3, x4, x5, x6⟩ := hX
    refine pc_ite (fun c => ?_) (fun c => pc_some ?_)
    · rw [Int32.lt_iff_toInt_lt, e2] at c
      obtain ⟨F, eF⟩ : ∃ F, s.1.toNatClampNeg = F := ⟨_, rfl⟩
      have hF := i_clq x0
      rw [eF] at hF
      have hlt : F < 10 ^ k := by omega
      have lo := qF_lo (mi := mi) (py := py) (pa := pa) dn
      refine pc_bind (pc_paidBy (mi := mi) (py := py) (pa := pa) x0 h0 h1 (by rw [ek]; exact hn1) hT) (fun r11 _ h11 => ?_)
      rw [eF, ek, eV] at h11
      unfold PoR at h11
      rw [Nat.mod_eq_of_lt hlt] at h11
      have hall : ∀ p, p ∈ pm k V → (∀ i, i < k → 1 ≤ fg p / 10 ^ i % 10 ∧ fg p / 10 ^ i % 10 ≤ n) := fun p hp => pm_dig k V p n hp hS hn.2
      have hin : ∀ p, p ∈ rs → p ∈ pm k V := fun p hp => by rw [x1]; exact List.mem_append_right _ hp
      have hid : ∀ p, p ∈ dn → p ∈ pm k V := fun p hp => by rw [x1]; exact List.mem_append_left _ hp
      have hmain : ∃ dn2 rs2, pm k V = dn2 ++ rs2 ∧ srt rs2 = true ∧ (∀ p, p ∈ dn2 → fg p ≤ F) ∧ (∀ p, p ∈ rs2 → F < fg p) ∧ ((s.2.2.toInt < r11.toInt ∧ r11.toInt = (qF mi py pa dn2).1 ∧ (F : Int) = ((qF mi py pa dn2).2 : Nat)) ∨ (¬ s.2.2.toInt < r11.toInt ∧ s.2.2.toInt = (qF mi py pa dn2).1 ∧ s.2.1.toInt = ((qF mi py pa dn2).2 : Nat))) := by
        by_cases hc : ∃ p rs2, rs = p :: rs2 ∧ fg p = F
        · obtain ⟨p, rs2, er, ep⟩ := hc
          have hp : p ∈ pm k V := hin p (by rw [er]; exact List.mem_cons_self)
          have hr : r11.toInt = pyl mi py pa p 0 0 := by
            rcases h11 with ⟨p2, g1, g2, g3⟩ | ⟨_, g2⟩
            · rw [fg_inj k V p2 p g1 hp (by rw [g2, ep])] at g3
              exact g3
            · exact absurd ep (g2 p hp)
          refine ⟨dn ++ [p], rs2, by rw [x1, er]; simp, by rw [er] at x2; exact srt_tail x2, fun q hq => ?_, fun q hq => ?_, ?_⟩
          · rcases List.mem_append.mp hq with g | g
            · have := x3 q g; omega
            · rw [List.mem_singleton] at g
              rw [g, ep]; exact Nat.le_refl _
          · rw [er] at x2
            have := srt_lt rs2 p x2 q hq
            omega
          · rw [qF_snoc]
            unfold qS
            by_cases d : (qF mi py pa dn).1 < pyl mi py pa p 0 0
            · rw [if_pos d]
              exact Or.inl ⟨by omega, hr, by show (F : Int) = (fg p : Nat); omega⟩
            · rw [if_neg d]
              exact Or.inr ⟨by omega, x5, x6⟩
        · have hgt : ∀ p, p ∈ rs → F < fg p := by
            cases rs with
            | nil => intro p hp; cases hp
            | cons p0 rs2 =>
              have h5 := x4 p0 List.mem_cons_self
              have h6 : ¬ fg p0 = F := fun e => hc ⟨p0, rs2, rfl, e⟩
              intro p hp
              rcases List.mem_cons.mp hp with g | g
              · rw [g]; omega
              · have := srt_lt rs2 p0 x2 p g
                omega
          have hr : r11.toInt = -1 := by
            rcases h11 with ⟨p2, g1, g2, _⟩ | ⟨g1, _⟩
            · exfalso
              rw [x1] at g1
              rcases List.mem_append.mp g1 with g | g
              · have := x3 p2 g; omega
              · have := hgt p2 g; omega
            · exact g1
          exact ⟨dn, rs, x1, x2, fun p hp => by have := x3 p hp; omega, hgt, Or.inr ⟨by omega, x5, x6⟩⟩
      obtain ⟨dn2, rs2, y1, y2, y3, y4, y5⟩ := hmain
      have hin2 : ∀ p, p ∈ rs2 → p ∈ pm k V := fun p hp => by rw [y1]; exact List.mem_append_right _ hp
      have hnext : ∀ (b2 m2 : Int32), m2.toInt = (qF mi py pa dn2).1 → b2.toInt = ((qF mi py pa dn2).2 : Nat) → Pc (lqP (fun (s : Int32 × Int32 × Int32) => 0 ≤ s.1.toInt ∧ ∃ dn rs, pm k V = dn ++ rs ∧ srt rs = true ∧ (∀ p, p ∈ dn → (fg p : Int) < s.1.toInt) ∧ (∀ p, p ∈ rs → s.1.toInt ≤ (fg p : Int)) ∧ s.2.2.toInt = (qF mi py pa dn).1 ∧ s.2.1.toInt = ((qF mi py pa dn).2 : Nat)) (fun (r : Int32 × Int32) => r.2.toInt = (qF mi py pa (pm k V)).1 ∧ r.1.toInt = ((qF mi py pa (pm k V)).2 : Nat))) ((f_X10_nextFigures s.1 (m 134 18)).bind fun r14 => some (Sum.inl (r14, b2, m2))) := by
        intro b2 m2 hm2 hb2
        refine pc_bind (pc_nextF (k := k) (n := n) ⟨hn1, hp6⟩ hn en x0 (by omega)) (fun u _ hu => pc_some ⟨?_, dn2, rs2, y1, y2, fun p hp => ?_, fun p hp => ?_, hm2, hb2⟩)
        · show 0 ≤ u.toInt
          have := hu.1
          omega
        · show (fg p : Int) < u.toInt
          have h5 := y3 p hp
          have := hu.1
          omega
        · show u.toInt ≤ (fg p : Int)
          have h5 := y4 p hp
          exact hu.2 (fg p) (hall p (hin2 p hp)) (by omega)
      rcases y5 with ⟨d, d1, d2⟩ | ⟨d, d1, d2⟩
      · have d' : s.2.2 < r11 := by rw [Int32.lt_iff_toInt_lt]; exact d
        rw [if_pos d', sb, if_pos d', sb]
        exact hnext _ _ d1 (by omega)
      · have d' : ¬ s.2.2 < r11 := by rw [Int32.lt_iff_toInt_lt]; exact d
        rw [if_neg d', sb, if_neg d', sb]
        exact hnext _ _ d1 d2
    · rw [Int32.lt_iff_toInt_lt, e2] at c
      have hrs : rs = [] := by
        cases rs with
        | nil => rfl
        | cons p rs2 =>
          exfalso
          have h5 := x4 p List.mem_cons_self
          have h6 := pm_lt k V p (by rw [x1]; exact List.mem_append_right _ List.mem_cons_self)
          omega
      rw [hrs, List.append_nil] at x1
      rw [x1]
      exact ⟨x5, x6⟩
  · refine ⟨by show 0 ≤ v1.toInt; omega, [], pm k V, rfl, hsrt, fun p hp => (by cases hp), fun p hp => ?_, ?_, ?_⟩
    · show v1.toInt ≤ (fg p : Int)
      have := pm_on k V p hp
      omega
    · show (-1 : Int32).toInt = (qF mi py pa []).1
      rw [tm]
      rfl
    · show (0 : Int32).toInt = ((qF mi py pa []).2 : Nat)
      rw [t0]
      rfl
