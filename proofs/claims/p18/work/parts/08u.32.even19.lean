theorem ba {α β γ : Type} (x : Option α) (f : α → Option β) (g : β → Option γ) : (x.bind f).bind g = x.bind (fun y => (f y).bind g) := by cases x <;> rfl
theorem rc_once {w w' : Mem} (hB : BrC (brp (w 0 8)) w w') (hE : EvC 3 (w' 146) (brp (w 0 8)) w) (hd : DrC (w 0 10) (w' 134 28)) : Rc (fun u u' => EvC 3 (u' 146) (brp (w 0 8)) u ∧ DrC (u 0 10) (u' 134 28) ∧ ∀ k i, ¬ k = 146 → ¬ (k = 134 ∧ i = 28) → u' k i = w' k i) (f_X9_driftOnce w) ((f_X10_draws w').bind fun w5 => f_X10_passes 1 w5) := by
  have hbb : brp (w 0 8) = 112 ∨ brp (w 0 8) = 119 := brp_or _
  have t1 := tl_1
  unfold f_X9_driftOnce
  simp only [bind_eta1]
  refine rc_bind (Q := fun v v' => (EvC 3 (v' 146) (brp (w 0 8)) v ∧ DrC (v 0 10) (v' 134 28)) ∧ (∀ k i, ¬ (k = 0 ∧ i = 10) → ¬ (3 ≤ k ∧ k ≤ 5) → v k i = w k i) ∧ ∀ k i, ¬ k = 146 → ¬ (k = 134 ∧ i = 28) → v' k i = w' k i) (fun v v' hv hv' => ⟨rc_draws hB hE hd v v' hv hv', fun k i k1 k2 => ?_, fun k i k1 k2 => fr_X10_draws w' v' hv' k i (by omega)⟩) (fun v v' _ _ hQ => ?_)
  · by_cases c : w 3 4 = -1
    · rw [if_pos c] at hv
      exact fr_X9_drawSeat w v hv k i (by omega)
    · rw [if_neg c] at hv
      exact fr_X9_drawTelling w v hv k i (by omega)
  · obtain ⟨⟨q1, q2⟩, q3, q4⟩ := hQ
    have e8 : v 0 8 = w 0 8 := q3 0 8 (by omega) (by omega)
    rw [e8]
    have hBv : BrC (brp (w 0 8)) v v' := brc_of hB (fun k i k1 k2 => q3 k i (by omega) (by omega)) (q4 134 15 (by omega) (by omega)) (q4 134 16 (by omega) (by omega)) (q4 134 17 (by omega) (by omega)) (q4 134 18 (by omega) (by omega)) (fun k i k1 k2 => q4 k i (by omega) (by omega))
    intro u u' hu hu'
    obtain ⟨r1, r2, r3, r4⟩ := rc_passE (brp_ok _) hBv q1 ⟨by omega, by omega⟩ u u' hu hu'
    refine ⟨r1, ?_, fun k i k1 k2 => by rw [r4.2.1.1 k i k1, q4 k i k1 k2]⟩
    rw [r3.2.1 0 10 (by omega) (by omega), r4.2.1.1 134 28 (by omega)]
    exact q2
theorem rc_drift {w w' : Mem} {n : Int32} (h : SimE w w') : Rc (fun q q2 => q.1 = q2.1 ∧ SimE q.2 q2.2) (f_X9_drift n w) (f_X10_drift n w') := by
  have hB := h.1.2.1
  have hE := h.2.1
  have t1 := tl_1
  have t30 := tl_30
  unfold f_X9_drift f_X10_drift
  refine rcr_bind pc_in (fun r _ hr => ?_)
  refine rcl_ite (fun c => ?_) (fun c => rcl_ite (fun c2 => ?_) (fun c2 => ?_))
  · rw [Int32.lt_iff_toInt_lt] at c
    rw [if_pos (in_0 hr (by omega))]
    exact rc_some ⟨rfl, h⟩
  · rw [Int32.lt_iff_toInt_lt] at c2
    rw [if_pos (in_0 hr (by omega))]
    exact rc_some ⟨rfl, h⟩
  · rw [Int32.lt_iff_toInt_lt] at c c2
    rw [if_neg (in_1 hr (by omega))]
    refine rcl_bind pc_isThere (fun x _ hx => rcr_bind pc_isBridge (fun y _ hy => ?_))
    by_cases ht : 0 < (w (brp (w 0 8)) 0).toInt
    · rw [if_pos ht] at hx
      rw [if_pos ((there_eq hB).mp ht)] at hy
      rw [if_neg (show ¬ x = 0 by rw [hx]; decide), if_neg (show ¬ y = 0 by rw [hy]; decide)]
      refine rcr_rd (fun _ => ?_)
      rw [cl_0, ← hE.1.1]
      by_cases c3 : 900000 < w 3 0
      · rw [if_pos c3, if_pos c3]
        exact rc_some ⟨rfl, h⟩
      · rw [if_neg c3, if_neg c3]
        refine rc_bind (Q := fun u u' => SimE u u') (rc_lp (fun (s s2 : Int32 × Mem) => s.1 = s2.1 ∧ SimE s.2 s2.2) ?_ _ _ _ _ ⟨rfl, h⟩) (fun u u' _ _ hQ => rcr_rd (fun _ => rc_some ⟨?_, hQ⟩))
        · intro s s2 hX
          obtain ⟨x1, x2⟩ := hX
          rw [← x1]
          by_cases cc : s.1 < n
          · rw [if_pos cc, if_pos cc]
            refine rc_bind (Q := fun _ _ => True) (fun _ _ _ _ => trivial) (fun z z' hz hz' _ => ?_)
            obtain ⟨o1, o2, o3, o4⟩ := rem_ok x2 hz hz'
            have hbb : brp (s.2 0 8) = 112 ∨ brp (s.2 0 8) = 119 := brp_or _
            rw [← o3] at o1 o2
            rw [← ba (f_X10_draws z') (fun w5 => f_X10_passes 1 w5) (fun w6 => some (Sum.inl (s.1 + 1, w6)))]
            refine rc_bind (Q := fun v v' => SimE v v') (fun v v' hv hv' => ?_) (fun v v' _ _ hv => rc_some ⟨rfl, hv⟩)
            obtain ⟨q1, q2, q3⟩ := rc_once o1 o2 o4 v v' hv hv'
            have fl := fr_X9_driftOnce z v hv
            rw [o3] at q1
            exact sime_deed x2 hz hz' (fun k i h => fl k i (by omega)) (fun k i h => q3 k i (by omega) (by omega)) q1 q2
          · rw [if_neg cc, if_neg cc]
            exact rc_some x2
        · rw [cl_0]
          exact hQ.2.1.1.1
    · rw [if_neg ht] at hx
      rw [if_neg (fun q => ht ((there_eq hB).mpr q))] at hy
      rw [if_pos hx, if_pos hy]
      exact rc_some ⟨rfl, h⟩
