/-! the calls that change what is held in common -/
theorem pc_hasT {b : Nat} {a : Int32} {w : Mem} (h : (w b 3).toInt ≤ 6) : Pc (fun r => (r = 1 ∧ 0 ≤ a.toInt ∧ a.toInt < (w b 3).toInt) ∨ (r = 0 ∧ ¬ (0 ≤ a.toInt ∧ a.toInt < (w b 3).toInt))) (f_X1_hasTraveller b a w) := by
  unfold f_X1_hasTraveller
  have t0 := tl_0
  have t6 := tl_6
  refine pc_ite (fun c => pc_some (Or.inr ⟨rfl, ?_⟩)) (fun c => pc_ite (fun c2 => pc_ite (fun c3 => pc_some (Or.inl ⟨rfl, ?_⟩)) (fun c3 => ?_)) (fun c2 => pc_some (Or.inr ⟨rfl, ?_⟩)))
  · rw [Int32.lt_iff_toInt_lt] at c; omega
  · rw [Int32.lt_iff_toInt_lt] at c c2; omega
  · rw [Int32.lt_iff_toInt_lt] at c2 c3; omega
  · rw [Int32.lt_iff_toInt_lt] at c2; omega
theorem pc_hasM {b : Nat} {a : Int32} {w : Mem} (h : (w b 2).toInt ≤ 8) : Pc (fun r => (r = 1 ∧ 0 ≤ a.toInt ∧ a.toInt < (w b 2).toInt) ∨ (r = 0 ∧ ¬ (0 ≤ a.toInt ∧ a.toInt < (w b 2).toInt))) (f_X1_hasMatter b a w) := by
  unfold f_X1_hasMatter
  have t0 := tl_0
  have t8 := tl_8
  refine pc_ite (fun c => pc_some (Or.inr ⟨rfl, ?_⟩)) (fun c => pc_ite (fun c2 => pc_ite (fun c3 => pc_some (Or.inl ⟨rfl, ?_⟩)) (fun c3 => ?_)) (fun c2 => pc_some (Or.inr ⟨rfl, ?_⟩)))
  · rw [Int32.lt_iff_toInt_lt] at c; omega
  · rw [Int32.lt_iff_toInt_lt] at c c2; omega
  · rw [Int32.lt_iff_toInt_lt] at c2 c3; omega
  · rw [Int32.lt_iff_toInt_lt] at c2; omega
theorem pc_isT {a : Int32} {w : Mem} (h0 : 0 ≤ (w 134 18).toInt) : Pc (fun r => (r = 1 ∧ 0 ≤ a.toInt ∧ a.toInt < (w 134 18).toInt) ∨ (r = 0 ∧ ¬ (0 ≤ a.toInt ∧ a.toInt < (w 134 18).toInt))) (f_X10_isTraveller a w) := by
  unfold f_X10_isTraveller
  have t0 := tl_0
  have hi : (w 134 18).toInt ≤ 2147483647 := Int32.toInt_le _
  have e : (w 134 18 - 1).toInt = (w 134 18).toInt - (1 : Int32).toInt := i_sub (by rw [tl_1]; omega) (by rw [tl_1]; omega)
  rw [tl_1] at e
  refine pc_bind pc_in (fun r _ hr => pc_zr (fun _ => pc_some ?_))
  by_cases c : 0 ≤ a.toInt ∧ a.toInt < (w 134 18).toInt
  · refine Or.inl ⟨?_, c⟩
    rw [hr, if_pos (by omega)]
  · refine Or.inr ⟨?_, c⟩
    rw [hr, if_neg (by omega)]
theorem pc_isM {a : Int32} {w : Mem} (h0 : 0 ≤ (w 134 17).toInt) : Pc (fun r => (r = 1 ∧ 0 ≤ a.toInt ∧ a.toInt < (w 134 17).toInt) ∨ (r = 0 ∧ ¬ (0 ≤ a.toInt ∧ a.toInt < (w 134 17).toInt))) (f_X10_isMatter a w) := by
  unfold f_X10_isMatter
  have t0 := tl_0
  have hi : (w 134 17).toInt ≤ 2147483647 := Int32.toInt_le _
  have e : (w 134 17 - 1).toInt = (w 134 17).toInt - (1 : Int32).toInt := i_sub (by rw [tl_1]; omega) (by rw [tl_1]; omega)
  rw [tl_1] at e
  refine pc_bind pc_in (fun r _ hr => pc_zr (fun _ => pc_some ?_))
  by_cases c : 0 ≤ a.toInt ∧ a.toInt < (w 134 17).toInt
  · refine Or.inl ⟨?_, c⟩
    rw [hr, if_pos (by omega)]
  · refine Or.inr ⟨?_, c⟩
    rw [hr, if_neg (by omega)]
theorem simb_of2 {w w' u u' : Mem} (h : SimB w w') (hl : ∀ k i, (k = 0 ∧ (i = 8 ∨ i = 9 ∨ i = 11)) ∨ (k = 1 ∧ i = 1) ∨ k = 2 ∨ (112 ≤ k ∧ k ≤ 117) ∨ (119 ≤ k ∧ k ≤ 124) ∨ ((k = 126 ∨ k = 130) ∧ i = 2) → u k i = w k i) (hr : ∀ k i, (k = 134 ∧ (i = 0 ∨ i = 5 ∨ (15 ≤ i ∧ i ≤ 18))) ∨ k = 135 ∨ (141 ≤ k ∧ k ≤ 145) ∨ k = 154 → u' k i = w' k i) (h1 : EnC 106 150 151 34 u u') (h2 : EnC 109 152 153 37 u u') : SimB u u' := by
  obtain ⟨a, b, c, d, _, f1, f2⟩ := h
  have l8 := hl 0 8 (by omega)
  have l9 := hl 0 9 (by omega)
  have hb : brp (w 0 8) = 112 ∨ brp (w 0 8) = 119 := brp_or _
  refine ⟨txr_of a (hl 1 1 (by omega)) (fun i => hl 2 i (by omega)) (hr 134 0 (by omega)) (fun i => hr 135 i (by omega)), ?_, ?_, ?_, ⟨h1, h2⟩, ?_, ?_⟩
  · rw [l8]
    exact brc_of b (fun k i k1 k2 => hl k i (by omega)) (hr 134 15 (by omega)) (hr 134 16 (by omega)) (hr 134 17 (by omega)) (hr 134 18 (by omega)) (fun k i k1 k2 => hr k i (by omega))
  · rw [l8, l9]; exact c
  · rw [hl 0 11 (by omega), hr 134 5 (by omega)]; exact d
  · rw [hl 126 2 (by omega), hr 154 0 (by omega)]; exact f1
  · rw [hl 130 2 (by omega), hr 154 1 (by omega)]; exact f2
theorem rc_feed {w w' : Mem} {a : Int32} (h : SimB w w') : Rc (fun q q2 => q.1 = q2.1 ∧ SimB q.2 q2.2) (f_X9_feed a w) (f_X10_feed a w') := by
  have hsim := h
  obtain ⟨⟨t1, t2, t3⟩, _, _, _, ⟨e1, e2⟩, _, _⟩ := h
  unfold f_X9_feed f_X10_feed
  have t0 := tl_0
  have t255 := tl_255
  have t240 := tl_240
  refine rcr_bind pc_in (fun r _ hr => ?_)
  refine rcl_ite (fun c => ?_) (fun c => rcl_ite (fun c2 => ?_) (fun c2 => ?_))
  · rw [Int32.lt_iff_toInt_lt] at c
    rw [if_pos (in_0 hr (by omega))]
    exact rc_some ⟨rfl, hsim⟩
  · rw [Int32.lt_iff_toInt_lt] at c2
    rw [if_pos (in_0 hr (by omega))]
    exact rc_some ⟨rfl, hsim⟩
  · rw [Int32.lt_iff_toInt_lt] at c c2
    rw [if_neg (in_1 hr (by omega))]
    unfold f_X7_add
    rw [← t1]
    by_cases c3 : w 1 1 < 240
    · rw [if_pos c3]
      rw [Int32.lt_iff_toInt_lt] at c3
      rw [if_neg (show ¬ w 1 1 = 240 by rw [i_eq_iff]; omega)]
      obtain ⟨j, ej⟩ : ∃ j, (w 1 1).toNatClampNeg = j := ⟨_, rfl⟩
      have hj := i_clq t2.1
      rw [ej] at hj
      have ea : (w 1 1 + 1).toInt = (w 1 1).toInt + 1 := i_addk tl_1 (by omega) (by omega)
      refine rcl_bind (Q := fun q => q = ((1 : Int32), wu (wu w 2 j a) 1 1 (w 1 1 + 1))) ?_ (fun q _ hq => ?_)
      · refine pc_wr (fun _ => pc_pw (pc_some ?_))
        rw [ej, wu_ne (show ¬ (1 = 2 ∧ 1 = j) by omega)]
      · rw [hq]
        rw [if_neg (show ¬ ((1 : Int32), wu (wu w 2 j a) 1 1 (w 1 1 + 1)).1 = 0 from by show ¬ (1 : Int32) = 0; decide)]
        refine rcr_wr (fun _ => rcr_pw (rc_some ?_))
        rw [ej, wu_ne (show ¬ (134 = 135 ∧ 0 = j) by omega), ← t1]
        dsimp only
        rw [wu_at, wu_at]
        refine ⟨rfl, ?_⟩
        have L : ∀ k i, ¬ (k = 1 ∧ i = 1) → ¬ (k = 2 ∧ i = j) → wu (wu w 2 j a) 1 1 (w 1 1 + 1) k i = w k i := fun k i h1 h2 => by rw [wu_ne h1, wu_ne h2]
        have R : ∀ k i, ¬ (k = 134 ∧ i = 0) → ¬ (k = 135 ∧ i = j) → wu (wu w' 135 j a) 134 0 (w 1 1 + 1) k i = w' k i := fun k i h1 h2 => by rw [wu_ne h1, wu_ne h2]
        have L11 : wu (wu w 2 j a) 1 1 (w 1 1 + 1) 1 1 = w 1 1 + 1 := wu_at _ _ _ _
        have R0 : wu (wu w' 135 j a) 134 0 (w 1 1 + 1) 134 0 = w 1 1 + 1 := wu_at _ _ _ _
        obtain ⟨_, b, cc, d, ⟨e1, e2⟩, f1, f2⟩ := hsim
        have hb : brp (w 0 8) = 112 ∨ brp (w 0 8) = 119 := brp_or _
        have L8 := L 0 8 (by omega) (by omega)
        have L9 := L 0 9 (by omega) (by omega)
        refine ⟨⟨by rw [L11, R0], by rw [L11, ea]; omega, fun i hi => ?_⟩, ?_, ?_, ?_, ⟨?_, ?_⟩, ?_, ?_⟩
        · rw [L11, ea] at hi
          by_cases e : i = j
          · rw [e, wu_ne (by omega), wu_at, wu_ne (by omega), wu_at]
            exact ⟨rfl, by omega⟩
          · rw [L 2 i (by omega) (by omega), R 135 i (by omega) (by omega)]
            exact t3 i (by omega)
        · rw [L8]
          exact brc_of b (fun k i k1 k2 => L k i (by omega) (by omega)) (R 134 15 (by omega) (by omega)) (R 134 16 (by omega) (by omega)) (R 134 17 (by omega) (by omega)) (R 134 18 (by omega) (by omega)) (fun k i k1 k2 => R k i (by omega) (by omega))
        · rw [L8, L9]; exact cc
        · rw [L 0 11 (by omega) (by omega), R 134 5 (by omega) (by omega)]; exact d
        · exact enc_of e1 (L 106 2 (by omega) (by omega)) (fun i => L 107 i (by omega) (by omega)) (fun i => L 108 i (by omega) (by omega)) (R 134 34 (by omega) (by omega)) (fun i => R 150 i (by omega) (by omega)) (fun i => R 151 i (by omega) (by omega)) (R 134 18 (by omega) (by omega))
        · exact enc_of e2 (L 109 2 (by omega) (by omega)) (fun i => L 110 i (by omega) (by omega)) (fun i => L 111 i (by omega) (by omega)) (R 134 37 (by omega) (by omega)) (fun i => R 152 i (by omega) (by omega)) (fun i => R 153 i (by omega) (by omega)) (R 134 18 (by omega) (by omega))
        · rw [L 126 2 (by omega) (by omega), R 154 0 (by omega) (by omega)]; exact f1
        · rw [L 130 2 (by omega) (by omega), R 154 1 (by omega) (by omega)]; exact f2
    · rw [if_neg c3]
      rw [Int32.lt_iff_toInt_lt] at c3
      rw [if_pos (show w 1 1 = 240 by rw [i_eq_iff]; omega), sb]
      rw [if_pos (show ((0 : Int32), w).1 = 0 from rfl)]
      exact rc_some ⟨rfl, hsim⟩
theorem rc_stayed {w w' : Mem} {t v : Int32} (h : SimB w w') (hN : (w 106 2).toInt ≤ 6) : Rc (fun q q2 => q.1 = q2.1 ∧ SimB q.2 q2.2) (f_X9_stayed t v w) (f_X10_stayed t v w') := by
  have hsim := h
  obtain ⟨a, b, c, d, ⟨e1, e2⟩, f1, f2⟩ := h
  obtain ⟨b1, b2, b3, b4, b5⟩ := b
  have hb8 : brp (w 0 8) = 112 ∨ brp (w 0 8) = 119 := brp_or _
  unfold f_X9_stayed f_X10_stayed
  have t0 := tl_0
  have tN := tl_6
  have tH := tl_100
  refine rcl_bind (pc_hasT b3.2.2) (fun r _ hr => ?_)
  refine rcr_bind (pc_isT (by rw [← b1.2.2.2]; exact b3.2.1)) (fun r2 _ hr2 => ?_)
  rw [← b1.2.2.2] at hr2
  rcases hr with ⟨r1, r3⟩ | ⟨r1, r3⟩
  · rcases hr2 with ⟨s1, s3⟩ | ⟨s1, s3⟩
    · rw [if_neg (show ¬ r = 0 by rw [r1]; decide), if_neg (show ¬ r2 = 0 by rw [s1]; decide)]
      refine rcr_bind pc_in (fun x _ hx => ?_)
      refine rcl_ite (fun c1 => ?_) (fun c1 => rcl_ite (fun c2 => ?_) (fun c2 => ?_))
      · rw [Int32.lt_iff_toInt_lt] at c1
        rw [if_pos (in_0 hx (by omega))]
        exact rc_some ⟨rfl, hsim⟩
      · rw [Int32.lt_iff_toInt_lt] at c2
        rw [if_pos (in_0 hx (by omega))]
        exact rc_some ⟨rfl, hsim⟩
      · rw [Int32.lt_iff_toInt_lt] at c1 c2
        rw [if_neg (in_1 hx (by omega))]
        have ef : w 106 2 = w' 134 34 := e1.1
        rw [← ef]
        unfold f_X2_add_106
        by_cases cN : w 106 2 < 6
        · rw [if_pos cN, if_pos cN]
          rw [Int32.lt_iff_toInt_lt] at cN
          rw [if_neg (show ¬ w 106 2 = 6 by rw [i_eq_iff]; omega)]
          obtain ⟨j, ej⟩ : ∃ j, (w 106 2).toNatClampNeg = j := ⟨_, rfl⟩
          have hj := i_clq e1.2.1
          rw [ej] at hj
          have ea : (w 106 2 + 1).toInt = (w 106 2).toInt + 1 := i_addk tl_1 (by omega) (by omega)
          refine rcl_bind (Q := fun q => q = ((1 : Int32), wu (wu (wu w 107 j t) 108 j v) 106 2 (w 106 2 + 1))) ?_ (fun q _ hq => ?_)
          · refine pc_wr (fun _ => pc_wr (fun _ => pc_pw (pc_some ?_)))
            rw [wu_ne (show ¬ (106 = 107 ∧ 2 = (w 106 2).toNatClampNeg) by omega), ej, wu_ne (show ¬ (106 = 108 ∧ 2 = j) by omega), wu_ne (show ¬ (106 = 107 ∧ 2 = j) by omega)]
          · rw [hq]
            rw [if_neg (show ¬ ((1 : Int32), wu (wu (wu w 107 j t) 108 j v) 106 2 (w 106 2 + 1)).1 = 0 from by show ¬ (1 : Int32) = 0; decide)]
            refine rcr_wr (fun _ => rcr_wr (fun _ => rcr_pw (rc_some ?_)))
            rw [wu_ne (show ¬ (134 = 150 ∧ 34 = (w 106 2).toNatClampNeg) by omega), ← ef, ej, wu_ne (show ¬ (134 = 151 ∧ 34 = j) by omega), wu_ne (show ¬ (134 = 150 ∧ 34 = j) by omega), ← ef]
            dsimp only
            rw [wu_at, wu_at]
            refine ⟨rfl, ?_⟩
            have L : ∀ k i, ¬ (k = 106 ∧ i = 2) → ¬ (k = 107 ∧ i = j) → ¬ (k = 108 ∧ i = j) → wu (wu (wu w 107 j t) 108 j v) 106 2 (w 106 2 + 1) k i = w k i := fun k i h1 h2 h3 => by rw [wu_ne h1, wu_ne h3, wu_ne h2]
            have R : ∀ k i, ¬ (k = 134 ∧ i = 34) → ¬ (k = 150 ∧ i = j) → ¬ (k = 151 ∧ i = j) → wu (wu (wu w' 150 j t) 151 j v) 134 34 (w 106 2 + 1) k i = w' k i := fun k i h1 h2 h3 => by rw [wu_ne h1, wu_ne h3, wu_ne h2]
            have LA : wu (wu (wu w 107 j t) 108 j v) 106 2 (w 106 2 + 1) 106 2 = w 106 2 + 1 := wu_at _ _ _ _
            have E : EnC 106 150 151 34 (wu (wu (wu w 107 j t) 108 j v) 106 2 (w 106 2 + 1)) (wu (wu (wu w' 150 j t) 151 j v) 134 34 (w 106 2 + 1)) := by
              refine ⟨by rw [LA, wu_at], by rw [LA, ea]; omega, fun i hi => ?_⟩
              rw [LA, ea] at hi
              by_cases e : i = j
              · rw [e, R 134 18 (by omega) (by omega) (by omega), ← b1.2.2.2]
                simp only [wu_ap]
                exact ⟨⟨rfl, rfl⟩, r3⟩
              · rw [L 107 i (by omega) (by omega) (by omega), L 108 i (by omega) (by omega) (by omega), R 150 i (by omega) (by omega) (by omega), R 151 i (by omega) (by omega) (by omega), R 134 18 (by omega) (by omega) (by omega)]
                exact e1.2.2 i (by omega)
            exact simb_of2 hsim (fun k i h1 => L k i (by omega) (by omega) (by omega)) (fun k i h1 => R k i (by omega) (by omega) (by omega)) E (by exact enc_of e2 (L 109 2 (by omega) (by omega) (by omega)) (fun i => L 110 i (by omega) (by omega) (by omega)) (fun i => L 111 i (by omega) (by omega) (by omega)) (R 134 37 (by omega) (by omega) (by omega)) (fun i => R 152 i (by omega) (by omega) (by omega)) (fun i => R 153 i (by omega) (by omega) (by omega)) (R 134 18 (by omega) (by omega) (by omega)))
        · rw [if_neg cN]
          rw [Int32.lt_iff_toInt_lt] at cN
          rw [if_pos (show w 106 2 = 6 by rw [i_eq_iff]; omega), sb]
          rw [if_pos (show ((0 : Int32), w).1 = 0 from rfl)]
          exact rc_some ⟨rfl, hsim⟩
    · exact absurd r3 s3
  · rcases hr2 with ⟨s1, s3⟩ | ⟨s1, s3⟩
    · exact absurd s3 r3
    · rw [if_pos r1, if_pos s1]
      exact rc_some ⟨rfl, hsim⟩
theorem rc_write {w w' : Mem} {t v : Int32} (h : SimB w w') (hN : (w 109 2).toInt ≤ 20) : Rc (fun q q2 => q.1 = q2.1 ∧ SimB q.2 q2.2) (f_X9_write t v w) (f_X10_write t v w') := by
  have hsim := h
  obtain ⟨a, b, c, d, ⟨e1, e2⟩, f1, f2⟩ := h
  obtain ⟨b1, b2, b3, b4, b5⟩ := b
  have hb8 : brp (w 0 8) = 112 ∨ brp (w 0 8) = 119 := brp_or _
  unfold f_X9_write f_X10_write
  have t0 := tl_0
  have tN := tl_20
  have tH := tl_9999
  refine rcl_bind (pc_hasT b3.2.2) (fun r _ hr => ?_)
  refine rcr_bind (pc_isT (by rw [← b1.2.2.2]; exact b3.2.1)) (fun r2 _ hr2 => ?_)
  rw [← b1.2.2.2] at hr2
  rcases hr with ⟨r1, r3⟩ | ⟨r1, r3⟩
  · rcases hr2 with ⟨s1, s3⟩ | ⟨s1, s3⟩
    · rw [if_neg (show ¬ r = 0 by rw [r1]; decide), if_neg (show ¬ r2 = 0 by rw [s1]; decide)]
      refine rcr_bind pc_in (fun x _ hx => ?_)
      refine rcl_ite (fun c1 => ?_) (fun c1 => rcl_ite (fun c2 => ?_) (fun c2 => ?_))
      · rw [Int32.lt_iff_toInt_lt] at c1
        rw [if_pos (in_0 hx (by omega))]
        exact rc_some ⟨rfl, hsim⟩
      · rw [Int32.lt_iff_toInt_lt] at c2
        rw [if_pos (in_0 hx (by omega))]
        exact rc_some ⟨rfl, hsim⟩
      · rw [Int32.lt_iff_toInt_lt] at c1 c2
        rw [if_neg (in_1 hx (by omega))]
        have ef : w 109 2 = w' 134 37 := e2.1
        rw [← ef]
        unfold f_X2_add_109
        by_cases cN : w 109 2 < 20
        · rw [if_pos cN, if_pos cN]
          rw [Int32.lt_iff_toInt_lt] at cN
          rw [if_neg (show ¬ w 109 2 = 20 by rw [i_eq_iff]; omega)]
          obtain ⟨j, ej⟩ : ∃ j, (w 109 2).toNatClampNeg = j := ⟨_, rfl⟩
          have hj := i_clq e2.2.1
          rw [ej] at hj
          have ea : (w 109 2 + 1).toInt = (w 109 2).toInt + 1 := i_addk tl_1 (by omega) (by omega)
          refine rcl_bind (Q := fun q => q = ((1 : Int32), wu (wu (wu w 110 j t) 111 j v) 109 2 (w 109 2 + 1))) ?_ (fun q _ hq => ?_)
          · refine pc_wr (fun _ => pc_wr (fun _ => pc_pw (pc_some ?_)))
            rw [wu_ne (show ¬ (109 = 110 ∧ 2 = (w 109 2).toNatClampNeg) by omega), ej, wu_ne (show ¬ (109 = 111 ∧ 2 = j) by omega), wu_ne (show ¬ (109 = 110 ∧ 2 = j) by omega)]
          · rw [hq]
            rw [if_neg (show ¬ ((1 : Int32), wu (wu (wu w 110 j t) 111 j v) 109 2 (w 109 2 + 1)).1 = 0 from by show ¬ (1 : Int32) = 0; decide)]
            refine rcr_wr (fun _ => rcr_wr (fun _ => rcr_pw (rc_some ?_)))
            rw [wu_ne (show ¬ (134 = 152 ∧ 37 = (w 109 2).toNatClampNeg) by omega), ← ef, ej, wu_ne (show ¬ (134 = 153 ∧ 37 = j) by omega), wu_ne (show ¬ (134 = 152 ∧ 37 = j) by omega), ← ef]
            dsimp only
            rw [wu_at, wu_at]
            refine ⟨rfl, ?_⟩
            have L : ∀ k i, ¬ (k = 109 ∧ i = 2) → ¬ (k = 110 ∧ i = j) → ¬ (k = 111 ∧ i = j) → wu (wu (wu w 110 j t) 111 j v) 109 2 (w 109 2 + 1) k i = w k i := fun k i h1 h2 h3 => by rw [wu_ne h1, wu_ne h3, wu_ne h2]
            have R : ∀ k i, ¬ (k = 134 ∧ i = 37) → ¬ (k = 152 ∧ i = j) → ¬ (k = 153 ∧ i = j) → wu (wu (wu w' 152 j t) 153 j v) 134 37 (w 109 2 + 1) k i = w' k i := fun k i h1 h2 h3 => by rw [wu_ne h1, wu_ne h3, wu_ne h2]
            have LA : wu (wu (wu w 110 j t) 111 j v) 109 2 (w 109 2 + 1) 109 2 = w 109 2 + 1 := wu_at _ _ _ _
            have E : EnC 109 152 153 37 (wu (wu (wu w 110 j t) 111 j v) 109 2 (w 109 2 + 1)) (wu (wu (wu w' 152 j t) 153 j v) 134 37 (w 109 2 + 1)) := by
              refine ⟨by rw [LA, wu_at], by rw [LA, ea]; omega, fun i hi => ?_⟩
              rw [LA, ea] at hi
              by_cases e : i = j
              · rw [e, R 134 18 (by omega) (by omega) (by omega), ← b1.2.2.2]
                simp only [wu_ap]
                exact ⟨⟨rfl, rfl⟩, r3⟩
              · rw [L 110 i (by omega) (by omega) (by omega), L 111 i (by omega) (by omega) (by omega), R 152 i (by omega) (by omega) (by omega), R 153 i (by omega) (by omega) (by omega), R 134 18 (by omega) (by omega) (by omega)]
                exact e2.2.2 i (by omega)
            exact simb_of2 hsim (fun k i h1 => L k i (by omega) (by omega) (by omega)) (fun k i h1 => R k i (by omega) (by omega) (by omega)) (by exact enc_of e1 (L 106 2 (by omega) (by omega) (by omega)) (fun i => L 107 i (by omega) (by omega) (by omega)) (fun i => L 108 i (by omega) (by omega) (by omega)) (R 134 34 (by omega) (by omega) (by omega)) (fun i => R 150 i (by omega) (by omega) (by omega)) (fun i => R 151 i (by omega) (by omega) (by omega)) (R 134 18 (by omega) (by omega) (by omega))) E
        · rw [if_neg cN]
          rw [Int32.lt_iff_toInt_lt] at cN
          rw [if_pos (show w 109 2 = 20 by rw [i_eq_iff]; omega), sb]
          rw [if_pos (show ((0 : Int32), w).1 = 0 from rfl)]
          exact rc_some ⟨rfl, hsim⟩
    · exact absurd r3 s3
  · rcases hr2 with ⟨s1, s3⟩ | ⟨s1, s3⟩
    · exact absurd s3 r3
    · rw [if_pos r1, if_pos s1]
      exact rc_some ⟨rfl, hsim⟩
theorem rc_tear {w w' : Mem} (h : SimB w w') : Rc (fun q q2 => q.1 = q2.1 ∧ SimB q.2 q2.2) (f_X9_tear w) (f_X10_tear w') := by
  have hsim := h
  obtain ⟨a, b, c, d, ⟨e1, e2⟩, f1, f2⟩ := h
  unfold f_X9_tear f_X10_tear f_X2_forget_106 f_X2_forget_109
  have t0 := tl_0
  refine rcl_bind (Q := fun v => v = wu w 106 2 0) (pc_pw (pc_some rfl)) (fun w1 _ h1 => ?_)
  refine rcl_bind (Q := fun v => v = wu w1 109 2 0) (pc_pw (pc_some rfl)) (fun w2 _ h2 => ?_)
  refine rcr_lt (rcr_pw (rcr_pw (rc_some ⟨by show _ + _ = _ + _; rw [e1.1, e2.1], ?_⟩)))
  have L : ∀ k i, ¬ (k = 106 ∧ i = 2) → ¬ (k = 109 ∧ i = 2) → w2 k i = w k i := fun k i k1 k2 => by rw [h2, wu_ne k2, h1, wu_ne k1]
  have R : ∀ k i, ¬ (k = 134 ∧ i = 34) → ¬ (k = 134 ∧ i = 37) → wu (wu w' 134 34 0) 134 37 0 k i = w' k i := fun k i k1 k2 => by rw [wu_ne k2, wu_ne k1]
  have l1 : w2 106 2 = 0 := by rw [h2, wu_ne (by omega), h1, wu_at]
  have l2 : w2 109 2 = 0 := by rw [h2, wu_at]
  have r1 : wu (wu w' 134 34 0) 134 37 0 134 34 = 0 := by rw [wu_ne (by omega), wu_at]
  have r2 : wu (wu w' 134 34 0) 134 37 0 134 37 = 0 := by rw [wu_at]
  refine (?_ : SimB w2 (wu (wu w' 134 34 0) 134 37 0))
  exact simb_of2 hsim (fun k i h => L k i (by omega) (by omega)) (fun k i h => R k i (by omega) (by omega)) ⟨by rw [l1, r1], by rw [l1, t0]; omega, fun i hi => by rw [l1, t0] at hi; omega⟩ ⟨by rw [l2, r2], by rw [l2, t0]; omega, fun i hi => by rw [l2, t0] at hi; omega⟩
theorem img_cases {a : Int32} (h0 : 0 ≤ a.toInt) (h1 : a.toInt < 2) : a = 0 ∨ a = 1 := i_z01 h0 (by omega)
theorem pc_ckeep {a : Int32} {w : Mem} (h0 : 0 ≤ a.toInt) (h1 : a.toInt < 2) : Pc (fun q => q.1 = 1 ∧ q.2 (126 + 4 * a.toNatClampNeg) 2 = 1 ∧ ∀ o, o = 126 ∨ o = 130 → ¬ o = 126 + 4 * a.toNatClampNeg → q.2 o 2 = w o 2) (f_X9_keep a w) := by
  unfold f_X9_keep
  have t0 := tl_0
  have t2 := tl_2
  rw [if_neg (show ¬ a < 0 by rw [Int32.lt_iff_toInt_lt]; omega), if_pos (show a < 2 by rw [Int32.lt_iff_toInt_lt]; omega)]
  refine pc_ri (fun _ => ?_)
  obtain ⟨o, eo⟩ : ∃ o, o = 126 + 4 * a.toNatClampNeg := ⟨_, rfl⟩
  rw [← eo]
  have hcl := i_clq h0
  have ho : o = 126 ∨ o = 130 := by omega
  refine pc_bind (Q := fun w2 => ∀ k i, ¬ (o + 1 ≤ k ∧ k ≤ o + 3) → w2 k i = w k i) (fun w2 h2 k i hk => fr_X3_copyFrom (o + 1) (ev_im ho) 3 (Or.inl rfl) w w2 h2 k i (by omega)) (fun w2 _ h2 => ?_)
  refine pc_pw (pc_pw ?_)
  refine pc_bind (Q := fun v => v = wu (wu (wu w2 o 1 (w2 0 10)) o 2 1) 6 1 0) (by unfold f_X6_forget; exact pc_pw (pc_some rfl)) (fun v _ hv => pc_some ⟨rfl, ?_, ?_⟩)
  · show v o 2 = 1
    rw [hv, wu_ne (by omega), wu_at]
  · intro p hp hn
    show v p 2 = w p 2
    rw [hv, wu_ne (by omega), wu_ne (by omega), wu_ne (by omega), h2 p 2 (by omega)]
theorem pc_rkeep {a : Int32} {w' : Mem} (h0 : 0 ≤ a.toInt) (h1 : a.toInt < 2) : Pc (fun q => q.1 = 1 ∧ q.2 154 a.toNatClampNeg = 1 ∧ ∀ i, ¬ i = a.toNatClampNeg → q.2 154 i = w' 154 i) (f_X10_keep a w') := by
  unfold f_X10_keep
  have t0 := tl_0
  have t1 := tl_1
  refine pc_bind pc_in (fun r _ hr => ?_)
  rw [if_neg (in_1 hr (by omega))]
  refine pc_wr (fun _ => pc_wrl (fun _ => pc_pw ?_))
  obtain ⟨x, ex⟩ : ∃ x, x = wu (wu (wu w' 154 a.toNatClampNeg 1) 156 a.toNatClampNeg ((wu w' 154 a.toNatClampNeg 1 134 28).toInt64).toInt32) 134 25 0 := ⟨_, rfl⟩
  rw [← ex]
  refine pc_bind (Q := fun v => ∀ i, v 154 i = x 154 i) (pc_lp (fun s => ∀ i, s.2 154 i = x 154 i) ?_ _ _ (fun i => rfl)) (fun v _ hv => pc_some ⟨rfl, ?_, ?_⟩)
  · intro s hs
    refine pc_ite (fun c => ?_) (fun c => pc_some hs)
    refine pc_rd (fun _ => pc_wr (fun _ => pc_some ?_))
    intro i
    dsimp only
    rw [wu_ne (by omega)]
    exact hs i
  · show v 154 _ = 1
    rw [hv, ex, wu_ne (by omega), wu_ne (by omega), wu_at]
  · intro i hi
    show v 154 i = _
    rw [hv, ex, wu_ne (by omega), wu_ne (by omega), wu_ne (by omega)]
theorem rc_keep {w w' : Mem} {a : Int32} (h : SimB w w') : Rc (fun q q2 => q.1 = q2.1 ∧ SimB q.2 q2.2) (f_X9_keep a w) (f_X10_keep a w') := by
  intro q q2 hq hq2
  refine ⟨eq_keep a w w' q q2 hq hq2, ?_⟩
  have fl := fr_X9_keep a w q hq
  have fr := fr_X10_keep a w' q2 hq2
  obtain ⟨A, b, c, d, ⟨e1, e2⟩, f1, f2⟩ := h
  have t0 := tl_0
  have t1 := tl_1
  have t2 := tl_2
  have hb : brp (w 0 8) = 112 ∨ brp (w 0 8) = 119 := brp_or _
  have l8 := fl 0 8 (by omega)
  have l9 := fl 0 9 (by omega)
  have hk : q.2 126 2 = q2.2 154 0 ∧ q.2 130 2 = q2.2 154 1 := by
    by_cases ca : 0 ≤ a.toInt ∧ a.toInt < 2
    · obtain ⟨x1, x2, x3⟩ := pc_ckeep ca.1 ca.2 q hq
      obtain ⟨y1, y2, y3⟩ := pc_rkeep ca.1 ca.2 q2 hq2
      rcases img_cases ca.1 ca.2 with e | e
      · rw [e, cl_0] at x2 x3 y2 y3
        exact ⟨by rw [x2, y2], by rw [x3 130 (by omega) (by omega), y3 1 (by omega)]; exact f2⟩
      · rw [e, cl_1] at x2 x3 y2 y3
        exact ⟨by rw [x3 126 (by omega) (by omega), y3 0 (by omega)]; exact f1, by rw [x2, y2]⟩
    · have hq' : q.2 = w := by
        unfold f_X9_keep at hq
        by_cases c1 : a < 0
        · rw [if_pos c1] at hq; cases hq; rfl
        · rw [if_neg c1] at hq
          by_cases c2 : a < 2
          · rw [Int32.lt_iff_toInt_lt] at c1 c2; omega
          · rw [if_neg c2] at hq; cases hq; rfl
      have hq2' : Pc (fun v => v.2 = w') (f_X10_keep a w') := by
        unfold f_X10_keep
        refine pc_bind pc_in (fun r _ hr => ?_)
        rw [if_pos (in_0 hr (by omega))]
        exact pc_some rfl
      rw [hq', hq2' q2 hq2]
      exact ⟨f1, f2⟩
  refine ⟨txr_of A (fl 1 1 (by omega)) (fun i => fl 2 i (by omega)) (fr 134 0 (by omega)) (fun i => fr 135 i (by omega)), ?_, ?_, ?_, ⟨?_, ?_⟩, hk.1, hk.2⟩
  · rw [l8]
    exact brc_of b (fun k i k1 k2 => fl k i (by omega)) (fr 134 15 (by omega)) (fr 134 16 (by omega)) (fr 134 17 (by omega)) (fr 134 18 (by omega)) (fun k i k1 k2 => fr k i (by omega))
  · rw [l8, l9]; exact c
  · rw [fl 0 11 (by omega), fr 134 5 (by omega)]; exact d
  · exact enc_of e1 (fl 106 2 (by omega)) (fun i => fl 107 i (by omega)) (fun i => fl 108 i (by omega)) (fr 134 34 (by omega)) (fun i => fr 150 i (by omega)) (fun i => fr 151 i (by omega)) (fr 134 18 (by omega))
  · exact enc_of e2 (fl 109 2 (by omega)) (fun i => fl 110 i (by omega)) (fun i => fl 111 i (by omega)) (fr 134 37 (by omega)) (fun i => fr 152 i (by omega)) (fun i => fr 153 i (by omega)) (fr 134 18 (by omega))
theorem eq_goBack {w w' : Mem} {a : Int32} (h : SimB w w') : Rc (fun q q2 => q.1 = q2.1) (f_X9_goBack a w) (f_X10_goBack a w') := by
  obtain ⟨A, b, c, d, ⟨e1, e2⟩, f1, f2⟩ := h
  unfold f_X9_goBack f_X10_goBack
  have t0 := tl_0
  have t1 := tl_1
  have t2 := tl_2
  refine rcr_bind pc_in (fun r _ hr => ?_)
  refine rcl_ite (fun c => ?_) (fun c => rcl_ite (fun c2 => ?_) (fun c2 => ?_))
  · rw [Int32.lt_iff_toInt_lt] at c
    rw [if_pos (in_0 hr (by omega))]
    exact rc_some rfl
  · rw [Int32.lt_iff_toInt_lt] at c c2
    rw [if_neg (in_1 hr (by omega))]
    refine rcl_ri (fun _ => rcr_rd (fun _ => ?_))
    have hk : w (126 + 4 * a.toNatClampNeg) 2 = w' 154 a.toNatClampNeg := by
      rcases img_cases (a := a) (by omega) (by omega) with e | e
      · rw [e, cl_0]; exact f1
      · rw [e, cl_1]; exact f2
    rw [hk]
    by_cases c3 : w' 154 a.toNatClampNeg = 0
    · rw [if_pos c3, if_pos c3]
      exact rc_some rfl
    · rw [if_neg c3, if_neg c3]
      refine rcl_bind (pc_any _) (fun w2 _ _ => rcl_pw (rcl_bind (pc_any _) (fun w4 _ _ => ?_)))
      refine rcr_rdl (fun _ => rcr_pl (fun _ => rcr_pw (rcr_bind (pc_any _) (fun v _ _ => rc_some rfl))))
  · rw [Int32.lt_iff_toInt_lt] at c c2
    rw [if_pos (in_0 hr (by omega))]
    exact rc_some rfl
theorem eq_fault {w w' : Mem} (h : SimB w w') : Rc (fun q q2 => q = q2) (f_X9_fault w) (f_X10_fault w') := by
  unfold f_X9_fault f_X10_fault
  exact rc_some h.2.2.2.1
