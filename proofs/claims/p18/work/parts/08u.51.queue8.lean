/-! the class goes through all orders -/
def gt : List Nat → Nat → Nat
  | [], _ => 0
  | a :: _, 0 => a
  | _ :: l, i + 1 => gt l i
def toL (r : Nat → Nat) : Nat → List Nat
  | 0 => []
  | k + 1 => toL r k ++ [r k]
def chk (k : Nat) : List (List Nat) → Bool
  | [] => true
  | p :: t => (match nextN (gt p) k with
    | none => (match t with
      | [] => true
      | _ :: _ => false)
    | some r => (match t with
      | [] => false
      | q :: _ => decide (toL r k = q))) && chk k t
def ascL (W : Nat) : Nat → List Nat
  | 0 => []
  | t + 1 => if W.testBit t = true then ascL W t ++ [t] else ascL W t
set_option maxRecDepth 100000 in
theorem chk_tab : ∀ S : Fin 64, chk (pb S.1) (pm (pb S.1) S.1) = true := by decide +kernel
set_option maxRecDepth 100000 in
theorem len_tab : ∀ S : Fin 64, (pm (pb S.1) S.1).length ≤ 720 := by decide +kernel
set_option maxRecDepth 100000 in
theorem head_tab : ∀ S : Fin 64, (pm (pb S.1) S.1).head? = some (ascL S.1 6) ∧ (ascL S.1 6).length = pb S.1 := by decide +kernel
theorem toL_len (r : Nat → Nat) : ∀ k, (toL r k).length = k := by
  intro k
  induction k with
  | zero => rfl
  | succ k ih =>
    have e : toL r (k + 1) = toL r k ++ [r k] := rfl
    rw [e, List.length_append, ih]
    rfl
theorem rowl_toL {v : Mem} {r : Nat → Nat} : ∀ k, RowF v r k → RowL v 0 (toL r k) := by
  intro k
  induction k with
  | zero => intro _; trivial
  | succ k ih =>
    intro h
    have e : toL r (k + 1) = toL r k ++ [r k] := rfl
    rw [e]
    refine rowl_snoc _ 0 (ih (fun i hi => h i (by omega))) ?_
    rw [toL_len, Nat.zero_add]
    exact h k (by omega)
theorem rowf_l {v : Mem} : ∀ (l : List Nat) (i : Nat), RowL v i l → ∀ j, j < l.length → (v 102 (i + j)).toInt = ((gt l j : Nat) : Int) := by
  intro l
  induction l with
  | nil => intro i _ j hj; exact absurd hj (Nat.not_lt_zero _)
  | cons a l ih =>
    intro i h j hj
    have e : (a :: l).length = l.length + 1 := List.length_cons
    rw [e] at hj
    cases j with
    | zero => exact h.1
    | succ j =>
      have h2 := ih (i + 1) h.2 j (by omega)
      rw [show i + (j + 1) = i + 1 + j by omega]
      exact h2
theorem pm_mem6 : ∀ k S p, p ∈ pm k S → ∀ a, a ∈ p → a < 6 ∧ S.testBit a = true ∨ 256 ≤ S := by
  intro k
  induction k with
  | zero =>
    intro S p h a ha
    have h' : p ∈ [[]] := h
    rw [List.mem_singleton] at h'
    rw [h'] at ha
    cases ha
  | succ k ih =>
    intro S p h a ha
    by_cases c : 256 ≤ S
    · exact Or.inr c
    · obtain ⟨b, hb, hb2, p', h1, h2⟩ := mem_pm.mp h
      rw [h2] at ha
      rcases List.mem_cons.mp ha with e | e
      · rw [e]; exact Or.inl ⟨hb, hb2⟩
      · rcases ih _ p' h1 a e with g | g
        · exact Or.inl ⟨g.1, ((cl_bit (by omega) (by omega) (by omega) hb2).mp g.2).1⟩
        · have := Nat.sub_le S (2 ^ b)
          omega
theorem pc_tryO {v : Mem} {V k : Nat} {mi py pa : Nat → Int} (hV : V < 64) (ek : pb V = k) (hk : 1 ≤ k ∧ k ≤ 6) (hl : (v 101 4).toInt = (k : Int)) (hr : RowL v 0 (ascL V 6)) (ha : ∀ a, V.testBit a = true → ((v 103 a).toInt = mi a ∧ 0 ≤ mi a ∧ mi a ≤ 2400) ∧ ((v 104 a).toInt = py a ∧ 0 ≤ py a ∧ py a ≤ 21600) ∧ (v 105 a).toInt = pa a) : Pc (fun (u : Mem) => (u 101 5).toInt = (qF mi py pa (pm k V)).1 ∧ (u 101 6).toInt = ((qF mi py pa (pm k V)).2 : Nat)) (f_X5_tryOrders v) := by
  have t0 := tl_0
  have tm := tl_m1
  have t720 : (720 : Int32).toInt = 720 := by decide
  have hch : chk k (pm k V) = true := by rw [← ek]; exact chk_tab ⟨V, hV⟩
  have hle : (pm k V).length ≤ 720 := by rw [← ek]; exact len_tab ⟨V, hV⟩
  have hhd : (pm k V).head? = some (ascL V 6) := by rw [← ek]; exact (head_tab ⟨V, hV⟩).1
  unfold f_X5_tryOrders
  simp only [bind_eta1]
  refine pc_pw (pc_pw ?_)
  obtain ⟨y, ey⟩ : ∃ y, y = wu (wu v 101 5 (-1)) 101 6 0 := ⟨_, rfl⟩
  rw [← ey]
  have Y : ∀ m x, ¬ (m = 101 ∧ (x = 5 ∨ x = 6)) → y m x = v m x := fun m x h => by rw [ey, wu_ne (by omega), wu_ne (by omega)]
  have Y5 : y 101 5 = -1 := by rw [ey, wu_ne (by omega), wu_at]
  have Y6 : y 101 6 = 0 := by rw [ey, wu_at]
  refine pc_lp (fun (s : Int32 × Int32 × Mem) => (∀ m x, ¬ m = 102 → ¬ (m = 101 ∧ (x = 5 ∨ x = 6)) → s.2.2 m x = v m x) ∧ ∃ dn rs, pm k V = dn ++ rs ∧ chk k rs = true ∧ s.2.1.toInt = ((dn.length : Nat) : Int) ∧ ((s.1 = 0 ∧ rs = []) ∨ (s.1 = 1 ∧ ∃ p t, rs = p :: t ∧ RowL s.2.2 0 p)) ∧ (s.2.2 101 5).toInt = (qF mi py pa dn).1 ∧ (s.2.2 101 6).toInt = ((qF mi py pa dn).2 : Nat)) ?_ _ _ ?_
  · intro s hX
    obtain ⟨x0, dn, rs, x1, x2, x3, x4, x5, x6⟩ := hX
    have hlen : dn.length + rs.length ≤ 720 := by rw [x1, List.length_append] at hle; exact hle
    have hEx : rs = [] → (s.2.2 101 5).toInt = (qF mi py pa (pm k V)).1 ∧ (s.2.2 101 6).toInt = ((qF mi py pa (pm k V)).2 : Nat) := by
      intro e
      rw [e, List.append_nil] at x1
      rw [x1]
      exact ⟨x5, x6⟩
    refine pc_ite (fun c => ?_) (fun c => pc_some ?_)
    · rcases x4 with ⟨z, e⟩ | ⟨z, p, t, e, hp⟩
      · rw [if_pos z]
        exact pc_some (hEx e)
      · rw [if_neg (show ¬ s.1 = 0 by rw [z]; decide)]
        have ec : (p :: t).length = t.length + 1 := List.length_cons
        rw [e, ec] at hlen
        have hpm : p ∈ pm k V := by rw [x1, e]; exact List.mem_append_right _ List.mem_cons_self
        have hpl := pm_len k V p hpm
        have hl2 : (s.2.2 101 4).toInt = (p.length : Int) := by rw [x0 101 4 (by omega) (by omega), hl, hpl]
        have hpa : ∀ a, a ∈ p → a < 6 ∧ V.testBit a = true := fun a ha2 => by
          rcases pm_mem6 k V p hpm a ha2 with g | g
          · exact g
          · omega
        have ei : (s.2.1 + 1).toInt = s.2.1.toInt + 1 := i_addk tl_1 (by omega) (by omega)
        refine pc_bind (pc_payOf (mi := mi) (py := py) (pa := pa) hl2 (by omega) hp (fun a ha2 => ?_)) (fun r3 _ h3 => ?_)
        · have g := ha a (hpa a ha2).2
          refine ⟨(hpa a ha2).1, ?_, ?_, ?_⟩
          · rw [x0 103 a (by omega) (by omega)]; exact g.1
          · rw [x0 104 a (by omega) (by omega)]; exact g.2.1
          · rw [x0 105 a (by omega) (by omega)]; exact g.2.2
        · have eq : qF mi py pa (dn ++ [p]) = if (qF mi py pa dn).1 < pyl mi py pa p 0 0 then (pyl mi py pa p 0 0, fg p) else qF mi py pa dn := by rw [qF_snoc]; rfl
          refine pc_bind (Q := fun (u : Mem) => (∀ m x, ¬ (m = 101 ∧ (x = 5 ∨ x = 6)) → u m x = s.2.2 m x) ∧ (u 101 5).toInt = (qF mi py pa (dn ++ [p])).1 ∧ (u 101 6).toInt = ((qF mi py pa (dn ++ [p])).2 : Nat)) ?_ (fun u _ hu => ?_)
          · refine pc_ite (fun d => ?_) (fun d => pc_some ⟨fun m x _ => rfl, ?_⟩)
            · rw [Int32.lt_iff_toInt_lt] at d
              rw [if_pos (by omega)] at eq
              refine pc_pw ?_
              obtain ⟨z6, ez⟩ : ∃ z6, z6 = wu s.2.2 101 5 r3 := ⟨_, rfl⟩
              rw [← ez]
              have Z : ∀ m x, ¬ (m = 101 ∧ x = 5) → z6 m x = s.2.2 m x := fun m x h => by rw [ez, wu_ne h]
              refine pc_bind (pc_figs (l := p) (by rw [Z 101 4 (by omega)]; exact hl2) (by omega) (rowl_of p 0 hp (fun j _ _ => Z 102 j (by omega))) (fun a ha2 => (hpa a ha2).1)) (fun r7 _ h7 => pc_pw (pc_some ⟨fun m x hm => ?_, ?_, ?_⟩))
              · rw [wu_ne (by omega), Z m x (by omega)]
              · rw [wu_ne (by omega), ez, wu_at, eq]
                exact h3
              · rw [wu_at, eq]
                exact h7
            · rw [Int32.lt_iff_toInt_lt] at d
              rw [if_neg (by omega)] at eq
              rw [eq]
              exact ⟨x5, x6⟩
          · have hrf : RowF u (gt p) k := fun i hi => by
              have g := rowf_l p 0 (rowl_of p 0 hp (fun j _ _ => hu.1 102 j (by omega))) i (by omega)
              rw [Nat.zero_add] at g
              exact g
            refine pc_bind (pc_nextO hrf hk (by rw [hu.1 101 4 (by omega), hl2, hpl])) (fun q _ hq => pc_some ⟨fun m x m1 m2 => ?_, dn ++ [p], t, by rw [x1, e]; simp, ?_, ?_, ?_, ?_, ?_⟩)
            · show q.2 m x = v m x
              rw [hq.1 m x m1, hu.1 m x m2]
              exact x0 m x m1 m2
            · rw [e] at x2
              unfold chk at x2
              rw [Bool.and_eq_true] at x2
              exact x2.2
            · show (s.2.1 + 1).toInt = (((dn ++ [p]).length : Nat) : Int)
              rw [List.length_append, ei, x3]
              rfl
            · rw [e] at x2
              unfold chk at x2
              rw [Bool.and_eq_true] at x2
              have x2' := x2.1
              rcases hq.2 with ⟨q0, qn⟩ | ⟨q1, r', qs, qr⟩
              · rw [qn] at x2'
                cases t with
                | nil => exact Or.inl ⟨q0, rfl⟩
                | cons a t2 => cases x2'
              · rw [qs] at x2'
                cases t with
                | nil => cases x2'
                | cons a t2 =>
                  have ea : toL r' k = a := of_decide_eq_true x2'
                  refine Or.inr ⟨q1, a, t2, rfl, ?_⟩
                  rw [← ea]
                  exact rowl_toL k qr
            · show (q.2 101 5).toInt = _
              rw [hq.1 101 5 (by omega)]
              exact hu.2.1
            · show (q.2 101 6).toInt = _
              rw [hq.1 101 6 (by omega)]
              exact hu.2.2
    · rw [Int32.lt_iff_toInt_lt, t720] at c
      refine hEx ?_
      cases rs with
      | nil => rfl
      | cons p t =>
        have ec : (p :: t).length = t.length + 1 := List.length_cons
        rw [ec] at hlen
        omega
  · refine ⟨fun m x _ m2 => Y m x m2, [], pm k V, rfl, hch, by show (0 : Int32).toInt = ((([] : List (List Nat)).length : Nat) : Int); rw [t0]; rfl, Or.inr ⟨rfl, ?_⟩, ?_, ?_⟩
    · cases epm : pm k V with
      | nil => rw [epm] at hhd; cases hhd
      | cons p t =>
        rw [epm] at hhd
        have ep : p = ascL V 6 := Option.some.inj hhd
        refine ⟨p, t, rfl, ?_⟩
        rw [ep]
        exact rowl_of _ 0 hr (fun j _ _ => Y 102 j (by omega))
    · show (y 101 5).toInt = (qF mi py pa []).1
      rw [Y5, tm]
      rfl
    · show (y 101 6).toInt = ((qF mi py pa []).2 : Nat)
      rw [Y6, t0]
      rfl
