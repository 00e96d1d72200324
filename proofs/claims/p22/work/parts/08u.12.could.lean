/-! what could be -/
def lqR2 {S T S2 T2 : Type} (X : S → S2 → Prop) (Y : T → S2 → Prop) (P : T → T2 → Prop) : Sum S T → Sum S2 T2 → Prop
  | Sum.inl s, Sum.inl s2 => X s s2
  | Sum.inr r, Sum.inr r2 => P r r2
  | Sum.inr r, Sum.inl s2 => Y r s2
  | Sum.inl _, Sum.inr _ => False
theorem rc_lp2 {S T S2 T2 : Type} {P : T → T2 → Prop} {f : S → Option (Sum S T)} {f2 : S2 → Option (Sum S2 T2)} (X : S → S2 → Prop) (Y : T → S2 → Prop) (hb : ∀ s s2, X s s2 → Rc (lqR2 X Y P) (f s) (f2 s2)) (hy : ∀ r s2, Y r s2 → Pc (lqP (Y r) (P r)) (f2 s2)) : ∀ (n : Nat) (n2 : Nat) (s : S) (s2 : S2), X s s2 → Rc P (lp f n s) (lp f2 n2 s2) := by
  intro n
  induction n with
  | zero => intro n2 s s2 _ v v2 h; cases h
  | succ n ih =>
    intro n2 s s2 hX v v2 h h2
    cases n2 with
    | zero => cases h2
    | succ n2 =>
      unfold lp at h h2
      cases e : f s with
      | none => rw [e] at h; cases h
      | some q =>
        cases e2 : f2 s2 with
        | none => rw [e2] at h2; cases h2
        | some q2 =>
          rw [e] at h
          rw [e2] at h2
          have hq := hb s s2 hX q q2 e e2
          match q, q2, h, h2, hq with
          | Sum.inl s3, Sum.inl s4, h, h2, hq => exact ih n2 s3 s4 hq v v2 h h2
          | Sum.inr r, Sum.inr r2, h, h2, hq => cases h; cases h2; exact hq
          | Sum.inl s3, Sum.inr r2, h, h2, hq => exact hq.elim
          | Sum.inr r, Sum.inl s4, h, h2, hq =>
            have e : r = v := Option.some.inj h
            rw [← e]
            exact pc_lp (Y r) (hy r) n2 s4 hq v2 h2
theorem rc_fits {b : Nat} {w w' : Mem} {m : Int32} (hB : BrC b w w') (hE : EnC 106 150 151 34 w w') (hm : 0 ≤ m.toInt ∧ m.toInt < (w b 2).toInt) (hc : (w 106 2).toInt ≤ 6) : Rc (fun x y => x = y ∧ (x = 0 ∨ x = 1)) (f_X2_fits_106 b m w) (lp (S := (Int32 × Int32)) (T := Int32) (fun s17 => (if s17.2 < (w' 134 34) then ((if s17.1 = 0 then some ((0 : Int32)) else rd 6 (w' 150) s17.2 fun x2 => (f_X10_stayOf x2 m w').bind fun r3 => rd 6 (w' 151) s17.2 fun x4 => (if r3 = x4 then some ((1 : Int32)) else some ((0 : Int32)))) : Option Int32).bind fun v1 => some (Sum.inl (v1, (s17.2 + (1 : Int32)))) else some (Sum.inr s17.1))) 5000000000 ((1 : Int32), (0 : Int32))) := by
  unfold f_X2_fits_106
  have t0 := tl_0
  obtain ⟨E1, E2, E3⟩ := hE
  rw [← E1]
  refine rc_lp2 (fun s s2 => s = s2.2 ∧ s2.1 = 1 ∧ 0 ≤ s.toInt ∧ s.toInt ≤ 6) (fun r s2 => r = 0 ∧ s2.1 = 0) ?_ ?_ _ _ _ _ ⟨rfl, rfl, by omega, by omega⟩
  · intro s s2 hX
    obtain ⟨x1, x2, x3, x4⟩ := hX
    rw [← x1, x2]
    by_cases c : s < w 106 2
    · rw [if_pos c, if_pos c, if_neg (show ¬ (1 : Int32) = 0 by decide)]
      rw [Int32.lt_iff_toInt_lt] at c
      obtain ⟨j, ej⟩ : ∃ j, s.toNatClampNeg = j := ⟨_, rfl⟩
      have hj := i_clq x3
      rw [ej] at hj
      obtain ⟨⟨F1, F2⟩, F3, F4⟩ := E3 j (by omega)
      have F1' : w 107 j = w' 150 j := F1
      have F2' : w 108 j = w' 151 j := F2
      have F3' : 0 ≤ (w' 150 j).toInt := by rw [← F1']; exact F3
      have F4' : (w' 150 j).toInt < (w b 3).toInt := by rw [hB.1.2.2.2, ← F1']; exact F4
      refine rcl_rd (fun _ => ?_)
      rw [ej, F1']
      refine rcl_bind (Q := fun x => f_X1_stayOf b (w' 150 j) m w = some x) (fun x h => h) (fun x _ hx => ?_)
      refine rcl_rd (fun _ => ?_)
      rw [ej, F2']
      refine rcr_bind (Q := fun v => v = if x = w' 151 j then 1 else 0) ?_ (fun v _ hv => ?_)
      · refine pc_rd (fun _ => ?_)
        rw [ej]
        refine pc_bind (Q := fun y => x = y) (fun y hy => rc_stayOf hB ⟨F3', F4'⟩ hm x y hx hy) (fun y _ hy => pc_rd (fun _ => ?_))
        rw [ej, ← hy]
        exact pc_ite (fun c => pc_some (by rw [if_pos c])) (fun c => pc_some (by rw [if_neg c]))
      · have ea : (s + 1).toInt = s.toInt + 1 := i_addk tl_1 (by omega) (by omega)
        by_cases cx : x = w' 151 j
        · rw [if_pos cx] at hv
          rw [if_pos cx]
          exact rc_some ⟨rfl, hv, by show 0 ≤ (s + 1).toInt; omega, by show (s + 1).toInt ≤ 6; omega⟩
        · rw [if_neg cx] at hv
          rw [if_neg cx]
          exact rc_some ⟨rfl, hv⟩
    · rw [if_neg c, if_neg c]
      exact rc_some ⟨rfl, Or.inr rfl⟩
  · intro r s2 hY
    obtain ⟨y1, y2⟩ := hY
    refine pc_ite (fun c => ?_) (fun c => pc_some ?_)
    · rw [if_pos y2, sb]
      exact pc_some ⟨y1, rfl⟩
    · exact ⟨by rw [y1, y2], Or.inl y1⟩
theorem rc_fitting {b : Nat} {w w' : Mem} (hB : BrC b w w') (hE : EnC 106 150 151 34 w w') (hc : (w 106 2).toInt ≤ 6) : Rc (fun x y => x = y ∧ 0 ≤ x.toInt ∧ x.toInt ≤ 255) (f_X2_fitting_106 b w) (f_X10_couldBe w') := by
  unfold f_X2_fitting_106 f_X10_couldBe
  simp only [bind_eta1]
  have t0 := tl_0
  have b3 := hB.2.2.1
  have eM : w b 2 = w' 134 17 := hB.1.2.2.1
  rw [← eM]
  refine rc_lp (fun s s2 => s = s2 ∧ (0 ≤ s.2.toInt ∧ s.2.toInt ≤ 8) ∧ 0 ≤ s.1.toInt ∧ s.1.toInt ≤ 255) ?_ _ _ _ _ ⟨rfl, by show 0 ≤ (0 : Int32).toInt ∧ (0 : Int32).toInt ≤ 8; omega, by show 0 ≤ (0 : Int32).toInt ∧ (0 : Int32).toInt ≤ 255; omega⟩
  intro s s2 hX
  obtain ⟨rfl, x1, x2⟩ := hX
  by_cases c : s.2 < w b 2
  · rw [if_pos c, if_pos c]
    rw [Int32.lt_iff_toInt_lt] at c
    refine rc_bind (rc_fits hB hE ⟨x1.1, c⟩ hc) (fun x y _ _ hxy => ?_)
    obtain ⟨rfl, h01⟩ := hxy
    have ea : (s.2 + 1).toInt = s.2.toInt + 1 := i_addk tl_1 (by omega) (by omega)
    have sh := i_shl1 (k := 7) (by decide) x1.1 (show s.2.toInt ≤ (7 : Nat) by omega)
    have so := i_or (k := 8) (by decide) x2.1 (show s.1.toInt < (2 ^ 8 : Nat) by omega) (show 0 ≤ ((1 : Int32) <<< (s.2 &&& 31)).toInt by omega) (show ((1 : Int32) <<< (s.2 &&& 31)).toInt < (2 ^ 8 : Nat) by omega)
    rcases h01 with e | e
    · rw [if_pos e, if_pos e, sb, sb]
      refine rc_some ⟨?_, by show 0 ≤ (s.2 + 1).toInt ∧ (s.2 + 1).toInt ≤ 8; omega, x2⟩
      rw [Int32.or_zero]
    · rw [if_neg (show ¬ x = 0 by rw [e]; decide), if_neg (show ¬ x = 0 by rw [e]; decide), sb]
      exact rc_some ⟨rfl, by show 0 ≤ (s.2 + 1).toInt ∧ (s.2 + 1).toInt ≤ 8; omega, by show 0 ≤ (s.1 ||| (1 : Int32) <<< (s.2 &&& 31)).toInt ∧ (s.1 ||| (1 : Int32) <<< (s.2 &&& 31)).toInt ≤ 255; omega⟩
  · rw [if_neg c, if_neg c]
    exact rc_some ⟨rfl, x2⟩
theorem eq_couldBe {w w' : Mem} (h : SimB w w') (hc : (w 106 2).toInt ≤ 6) : Rc (fun x y => x = y) (f_X9_couldBe w) (f_X10_couldBe w') := by
  unfold f_X9_couldBe
  simp only [bind_eta1]
  exact rc_mono (rc_fitting h.2.1 h.2.2.2.2.1.1 hc) (fun v v2 _ _ hv => hv.1)
