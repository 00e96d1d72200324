theorem rc_hear {b : Nat} (hb : BrO b) {w w' : Mem} {m : Int32} (hB : BrC b w w') (hE : EvC 3 (w' 146) b w) (hs : 0 ≤ (w 3 4).toInt) (hm : 0 ≤ m.toInt ∧ m.toInt < (w b 2).toInt) (hno : hbI (w' 146 5) m = 0) : Rc (fun q q2 => q.1 = q2.1 ∧ EvC 3 (q2.2 146) b q.2) (f_X3_hear b m w) (f_X10_tells m w') := by
  have t0 := tl_0
  have tm := tl_m1
  obtain ⟨a1, a2, a3, a4, a5⟩ := id hE
  obtain ⟨b1, b2, b3, b4, b5⟩ := id hB
  have e4 : w 3 4 = w' 146 4 := a1.2.2.2.2.1
  have e6 : w 3 6 = w' 146 6 := a1.2.2.2.2.2.2
  have hn : (w 3 4).toInt < (w b 3).toInt := by rw [e4]; exact a2.2.2.2.1.2
  unfold f_X3_hear f_X10_tells
  refine rcl_bind (pc_hasT b3.2.2) (fun r1 _ h1 => ?_)
  rcases h1 with ⟨e1, _⟩ | ⟨_, n⟩
  · rw [if_neg (show ¬ r1 = 0 by rw [e1]; decide)]
    refine rcr_rd (fun _ => rcr_rd (fun _ => ?_))
    rw [cl_4, cl_6, ← e4]
    by_cases c : w' 146 6 = -1
    · rw [if_pos c]
      refine rcl_bind (Q := fun r3 => r3 = 1) ?_ (fun r3 _ h3 => ?_)
      · unfold f_X3_follows
        refine pc_bind (pc_hasM b3.1.2) (fun q _ hq => ?_)
        rw [e6, c, tm] at hq
        rcases hq with ⟨_, q2⟩ | ⟨q1, _⟩
        · omega
        · rw [if_pos q1]
          exact pc_some rfl
      · rw [if_neg (show ¬ r3 = 0 by rw [h3]; decide)]
        exact rc_hearT hb hB hE rfl hs hm hno
    · rw [if_neg c]
      have h6 : 0 ≤ (w' 146 6).toInt := by
        rw [i_eq_iff, tm] at c
        have := a2.2.2.2.2.2.1
        omega
      obtain ⟨i, ei⟩ : ∃ i, (w' 146 6).toNatClampNeg = i := ⟨_, rfl⟩
      have hi := i_clq h6
      rw [ei] at hi
      have h6M := a2.2.2.2.2.2.2
      obtain ⟨⟨E1, E2⟩, _, _⟩ := b4 i (by omega)
      refine rcl_bind (Q := fun r3 => r3 = hbI (w' 142 i) m) ?_ (fun r3 _ h3 => ?_)
      · unfold f_X3_follows
        rw [e6]
        refine pc_bind (pc_hasM b3.1.2) (fun q _ hq => ?_)
        rcases hq with ⟨q1, _⟩ | ⟨_, n⟩
        · rw [if_neg (show ¬ q = 0 by rw [q1]; decide)]
          refine pc_rd (fun _ => ?_)
          rw [ei, E2]
          refine pc_bind (pc_holds hm.1 (by omega)) (fun r _ hr => ?_)
          rw [hr]
          rcases hbI_01 (w' 142 i) m with e | e
          · rw [if_pos e]
            exact pc_some e.symm
          · rw [if_neg (show ¬ hbI (w' 142 i) m = 0 by rw [e]; decide)]
            exact pc_some e.symm
        · exact absurd ⟨h6, h6M⟩ n
      · refine rcr_rd (fun _ => rcr_rd (fun _ => ?_))
        rw [cl_6, ei]
        refine rcr_bind pc_has (fun r12 _ h12 => ?_)
        rw [h3, h12]
        rcases hbI_01 (w' 142 i) m with e | e
        · rw [if_pos e, if_pos e]
          exact rc_bind (rc_leave hb hB hE hs) (fun q q2 _ _ hq => rc_some ⟨rfl, hq⟩)
        · rw [if_neg (show ¬ hbI (w' 142 i) m = 0 by rw [e]; decide), if_neg (show ¬ hbI (w' 142 i) m = 0 by rw [e]; decide)]
          exact rc_hearT hb hB hE rfl hs hm hno
  · exact absurd ⟨hs, hn⟩ n
theorem rc_can {b : Nat} {w w' : Mem} {m : Int32} (hE : EvC 3 (w' 146) b w) (hm : 0 ≤ m.toInt ∧ m.toInt ≤ 7) : Rc (fun r r2 => (r = 0 ∧ r2 = 0) ∨ (r = 1 ∧ r2 = 1 ∧ 0 ≤ (w 3 4).toInt ∧ hbI (w' 146 5) m = 0)) (f_X3_canHear m w) (f_X10_isTellable m w') := by
  obtain ⟨a1, a2, a3, a4, a5⟩ := hE
  have tm := tl_m1
  have e4 : w 3 4 = w' 146 4 := a1.2.2.2.2.1
  have e3 : w 3 3 = w' 146 3 := a1.2.2.2.1
  have e5 : w 3 5 = w' 146 5 := a1.2.2.2.2.2.1
  unfold f_X3_canHear f_X10_isTellable
  refine rcr_rd (fun _ => ?_)
  rw [cl_4, ← e4]
  by_cases c : w 3 4 = -1
  · rw [if_pos c, if_pos c]
    exact rc_some (Or.inl ⟨rfl, rfl⟩)
  · rw [if_neg c, if_neg c]
    have h4 : 0 ≤ (w 3 4).toInt := by
      rw [i_eq_iff, tm] at c
      have := a2.2.2.2.1.1
      rw [← e4] at this
      omega
    refine rcr_rd (fun _ => ?_)
    rw [cl_3, e3]
    refine rcl_bind (pc_holds hm.1 (by omega)) (fun r _ hr => rcr_bind pc_has (fun r2 _ hr2 => ?_))
    rw [hr, hr2]
    rcases hbI_01 (w' 146 3) m with e | e
    · rw [if_pos e, if_pos e]
      exact rc_some (Or.inl ⟨rfl, rfl⟩)
    · rw [if_neg (show ¬ hbI (w' 146 3) m = 0 by rw [e]; decide), if_neg (show ¬ hbI (w' 146 3) m = 0 by rw [e]; decide)]
      refine rcr_rd (fun _ => ?_)
      rw [cl_5, e5]
      refine rcl_bind (pc_holds hm.1 (by omega)) (fun r _ hr => rcr_bind pc_has (fun r2 _ hr2 => ?_))
      rw [hr, hr2]
      by_cases e9 : hbI (w' 146 5) m = 0
      · rw [if_pos e9]
        exact rc_some (Or.inr ⟨rfl, rfl, h4, e9⟩)
      · rw [if_neg e9]
        exact rc_some (Or.inl ⟨rfl, rfl⟩)
theorem rc_tell {w w' : Mem} {m : Int32} (h : SimE w w') : Rc (fun q q2 => q.1 = q2.1 ∧ SimE q.2 q2.2) (f_X9_tell m w) (f_X10_tell m w') := by
  have hB := h.1.2.1
  have hE := h.2.1
  have b3 := hB.2.2.1
  have eM : w (brp (w 0 8)) 2 = w' 134 17 := hB.1.2.2.1
  have hb : brp (w 0 8) = 112 ∨ brp (w 0 8) = 119 := brp_or _
  unfold f_X9_tell f_X10_tell
  simp only [bind_eta2]
  refine rcl_bind (pc_hasM b3.1.2) (fun r _ hr => ?_)
  refine rcr_bind (pc_isM (by rw [← eM]; exact b3.1.1)) (fun r2 _ hr2 => ?_)
  rw [← eM] at hr2
  rcases hr with ⟨r1, hm⟩ | ⟨r1, n⟩
  · rcases hr2 with ⟨s1, _⟩ | ⟨_, n⟩
    · rw [if_neg (show ¬ r = 0 by rw [r1]; decide), if_neg (show ¬ r2 = 0 by rw [s1]; decide)]
      refine rc_bind (rc_can hE ⟨hm.1, by omega⟩) (fun x x2 _ _ hx => ?_)
      rcases hx with ⟨x1, x3⟩ | ⟨x1, x3, x4, x5⟩
      · rw [if_pos x1, if_pos x3]
        exact rc_some ⟨rfl, h⟩
      · rw [if_neg (show ¬ x = 0 by rw [x1]; decide), if_neg (show ¬ x2 = 0 by rw [x3]; decide)]
        refine rc_bind (Q := fun _ _ => True) (fun _ _ _ _ => trivial) (fun z z' hz hz' _ => ?_)
        obtain ⟨o1, o2, o3, o4⟩ := rem_ok h hz hz'
        have fl := fr_X6_remember w z hz
        have fr := fr_X10_remember w' z' hz'
        rw [o3]
        intro q q2 hq hq2
        obtain ⟨c1, c2⟩ := rc_hear (brp_ok _) o1 o2 (by rw [fl 3 4 (by omega)]; exact x4) (by rw [fl _ 2 (by omega)]; exact hm) (by rw [fr 146 5 (by omega)]; exact x5) q q2 hq hq2
        have gl := fr_X3_hear (brp (w 0 8)) (brp_ok _) m z q hq
        have gr := fr_X10_tells m z' q2 hq2
        exact ⟨c1, sime_deed h hz hz' (fun k i h => gl k i (by omega)) (fun k i h => gr k i (by omega)) c2 (by rw [gl 0 10 (by omega), gr 134 28 (by omega)]; exact o4)⟩
    · exact absurd hm n
  · rcases hr2 with ⟨s1, hm⟩ | ⟨s1, _⟩
    · exact absurd hm n
    · rw [if_pos r1, if_pos s1]
      exact rc_some ⟨rfl, h⟩
theorem rc_rise {w w' : Mem} (h : SimE w w') : Rc (fun q q2 => SimE q.2 q2.2) (f_X9_rise w) (f_X10_rise w') := by
  have hE := h.2.1
  have hb : brp (w 0 8) = 112 ∨ brp (w 0 8) = 119 := brp_or _
  have tm := tl_m1
  have e4 : w 3 4 = w' 146 4 := hE.1.2.2.2.2.1
  unfold f_X9_rise f_X10_rise
  simp only [bind_eta2]
  refine rcr_rd (fun _ => ?_)
  rw [cl_4, ← e4]
  by_cases c : w 3 4 = -1
  · rw [if_pos c, if_pos c]
    exact rc_some h
  · rw [if_neg c, if_neg c]
    have h4 : 0 ≤ (w 3 4).toInt := by
      rw [i_eq_iff, tm] at c
      have := hE.2.1.2.2.2.1.1
      rw [← e4] at this
      omega
    refine rc_bind (Q := fun _ _ => True) (fun _ _ _ _ => trivial) (fun z z' hz hz' _ => ?_)
    obtain ⟨o1, o2, o3, o4⟩ := rem_ok h hz hz'
    have fl := fr_X6_remember w z hz
    rw [o3]
    intro q q2 hq hq2
    have c2 := rc_leave (brp_ok _) o1 o2 (by rw [fl 3 4 (by omega)]; exact h4) q q2 hq hq2
    have gl := fr_X3_leaveSeat (brp (w 0 8)) (brp_ok _) z q hq
    have gr := fr_X10_rises z' q2 hq2
    exact sime_deed h hz hz' (fun k i h => gl k i (by omega)) (fun k i h => gr k i (by omega)) c2 (by rw [gl 0 10 (by omega), gr 134 28 (by omega)]; exact o4)
