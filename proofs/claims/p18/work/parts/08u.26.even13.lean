/-! keep and goBack over all -/
theorem keep_out {w w' : Mem} {a : Int32} (ca : ¬ (0 ≤ a.toInt ∧ a.toInt < 2)) {q q2 : Int32 × Mem} (hq : f_X9_keep a w = some q) (hq2 : f_X10_keep a w' = some q2) : q.2 = w ∧ q2.2 = w' := by
  have t0 := tl_0
  have t1 := tl_1
  have t2 := tl_2
  constructor
  · unfold f_X9_keep at hq
    by_cases c1 : a < 0
    · rw [if_pos c1] at hq; cases hq; rfl
    · rw [if_neg c1] at hq
      by_cases c2 : a < 2
      · rw [Int32.lt_iff_toInt_lt] at c1 c2; omega
      · rw [if_neg c2] at hq; cases hq; rfl
  · have hq2' : Pc (fun v => v.2 = w') (f_X10_keep a w') := by
      unfold f_X10_keep
      refine pc_bind pc_in (fun r _ hr => ?_)
      rw [if_pos (in_0 hr (by omega))]
      exact pc_some rfl
    exact hq2' q2 hq2
theorem rc_keepE {w w' : Mem} {a : Int32} (h : SimE w w') : Rc (fun q q2 => q.1 = q2.1 ∧ SimE q.2 q2.2) (f_X9_keep a w) (f_X10_keep a w') := by
  intro q q2 hq hq2
  obtain ⟨k1, k2⟩ := rc_keep h.1 q q2 hq hq2
  refine ⟨k1, ?_⟩
  have hsim := h
  obtain ⟨A, e, p, m, d⟩ := h
  have hb : brp (w 0 8) = 112 ∨ brp (w 0 8) = 119 := brp_or _
  have h6 : (w (brp (w 0 8)) 3).toInt ≤ 6 := A.2.1.2.2.1.2.2
  have fl := fr_X9_keep a w q hq
  have fr := fr_X10_keep a w' q2 hq2
  have e8 : q.2 0 8 = w 0 8 := fl 0 8 (by omega)
  by_cases ca : 0 ≤ a.toInt ∧ a.toInt < 2
  · obtain ⟨x1, x2, x3, x4, x5, x6⟩ := pc_ckeepE ca.1 ca.2 q hq
    obtain ⟨y1, y2, y3, y4, y5⟩ := pc_rkeepE ca.1 ca.2 q2 hq2
    have B2 := fl (brp (w 0 8)) 2 (by omega)
    have B3 := fl (brp (w 0 8)) 3 (by omega)
    have B4 : ∀ j, q.2 (brp (w 0 8) + 4) j = w (brp (w 0 8) + 4) j := fun j => fl _ j (by omega)
    refine ⟨k2, ?_, ?_, ?_, ?_⟩
    · rw [e8]
      exact evc_mv e h6 (fun j _ => fl _ j (by omega)) (fun j _ => fl _ j (by omega)) (fun j _ => fl _ j (by omega)) (fun j _ => fr _ _ (by omega)) B2 B3 (fun j _ => B4 j)
    · exact pac_0 x5 y5 (by rw [fl 6 2 (by omega), fr 134 26 (by omega)]; exact p.1.2) (by rw [fl 6 2 (by omega)]; exact p.2.2.1)
    · rw [e8]
      rcases img_cases ca.1 ca.2 with ea | ea
      · rw [ea, cl_0] at x1 x2 x3 x4 x6 y1 y2 y3 y4
        refine ⟨fun _ => ⟨evc_mv e h6 x1 x2 x3 (fun i hi => ?_) B2 B3 (fun j _ => B4 j), ?_⟩, fun hk => ?_⟩
        · have := y1 i hi
          rw [show 25 * 0 + i = i by omega] at this
          exact this
        · have z : q.2 126 1 = w 0 10 := x4
          rw [z, y3]
          exact d
        · have F : ∀ k i, 130 ≤ k → k ≤ 133 → q.2 k i = w k i := fun k i q1 q3 => x6 k i (by omega) (by omega)
          rw [F 130 2 (by omega) (by omega)] at hk
          obtain ⟨g1, g2⟩ := m.2 hk
          exact ⟨evc_mv g1 h6 (fun j _ => F _ j (by omega) (by omega)) (fun j _ => F _ j (by omega) (by omega)) (fun j _ => F _ j (by omega) (by omega)) (fun j _ => y2 _ (by omega)) B2 B3 (fun j _ => B4 j), by rw [F 130 1 (by omega) (by omega), y4 1 (by omega)]; exact g2⟩
      · rw [ea, cl_1] at x1 x2 x3 x4 x6 y1 y2 y3 y4
        refine ⟨fun hk => ?_, fun _ => ⟨evc_mv e h6 x1 x2 x3 (fun i hi => ?_) B2 B3 (fun j _ => B4 j), ?_⟩⟩
        · have F : ∀ k i, 126 ≤ k → k ≤ 129 → q.2 k i = w k i := fun k i q1 q3 => x6 k i (by omega) (by omega)
          rw [F 126 2 (by omega) (by omega)] at hk
          obtain ⟨g1, g2⟩ := m.1 hk
          exact ⟨evc_mv g1 h6 (fun j _ => F _ j (by omega) (by omega)) (fun j _ => F _ j (by omega) (by omega)) (fun j _ => F _ j (by omega) (by omega)) (fun j hj => y2 _ (by omega)) B2 B3 (fun j _ => B4 j), by rw [F 126 1 (by omega) (by omega), y4 0 (by omega)]; exact g2⟩
        · have := y1 i hi
          rw [show 25 * 1 + i = 25 + i by omega] at this
          exact this
        · have z : q.2 130 1 = w 0 10 := x4
          rw [z, y3]
          exact d
    · rw [fl 0 10 (by omega), fr 134 28 (by omega)]
      exact d
  · obtain ⟨z1, z2⟩ := keep_out ca hq hq2
    rw [z1, z2]
    exact hsim
