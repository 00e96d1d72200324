theorem evc_fr {b : Nat} (hbb : b = 112 ∨ b = 119) {w w' u u' : Mem} (hE : EvC 3 (w' 146) b w) (h6 : (w b 3).toInt ≤ 6) (hl : ∀ k i, ¬ (k = 0 ∧ i = 10) → u k i = w k i) (hr : ∀ k i, ¬ (k = 134 ∧ i = 28) → u' k i = w' k i) : EvC 3 (u' 146) b u :=
  evc_mv hE h6 (fun j _ => hl _ j (by omega)) (fun j _ => hl _ j (by omega)) (fun j _ => hl _ j (by omega)) (fun j _ => hr _ _ (by omega)) (hl _ _ (by omega)) (hl _ _ (by omega)) (fun j _ => hl _ j (by omega))
theorem brc_fr {b : Nat} (hbb : b = 112 ∨ b = 119) {w w' u u' : Mem} (hB : BrC b w w') (hl : ∀ k i, ¬ (k = 0 ∧ i = 10) → u k i = w k i) (hr : ∀ k i, ¬ (k = 134 ∧ i = 28) → u' k i = w' k i) : BrC b u u' :=
  brc_of hB (fun k i k1 k2 => hl k i (by omega)) (hr 134 15 (by omega)) (hr 134 16 (by omega)) (hr 134 17 (by omega)) (hr 134 18 (by omega)) (fun k i k1 k2 => hr k i (by omega))
theorem rc_draws {w w' : Mem} (hB : BrC (brp (w 0 8)) w w') (hE : EvC 3 (w' 146) (brp (w 0 8)) w) (hd : DrC (w 0 10) (w' 134 28)) : Rc (fun u u' => EvC 3 (u' 146) (brp (w 0 8)) u ∧ DrC (u 0 10) (u' 134 28)) (if (w 3 4) = (-1 : Int32) then f_X9_drawSeat w else f_X9_drawTelling w) (f_X10_draws w') := by
  have hbb : brp (w 0 8) = 112 ∨ brp (w 0 8) = 119 := brp_or _
  have t0 := tl_0
  have tm := tl_m1
  have t4 := tl_4
  have b3 := hB.2.2.1
  have e4 : w 3 4 = w' 146 4 := hE.1.2.2.2.2.1
  have en : w (brp (w 0 8)) 3 = w' 134 18 := hB.1.2.2.2
  have eM : w (brp (w 0 8)) 2 = w' 134 17 := hB.1.2.2.1
  unfold f_X10_draws
  simp only [bind_eta1, bind_eta2]
  refine rcr_rd (fun _ => ?_)
  rw [cl_4, ← e4]
  by_cases c : w 3 4 = -1
  · rw [if_pos c, if_pos c]
    unfold f_X9_drawSeat
    simp only [bind_eta1]
    by_cases cn : w (brp (w 0 8)) 3 = 0
    · rw [if_pos cn, ← en, cn, if_neg (show ¬ (0 : Int32) < 0 by decide), sb]
      dsimp only
      rw [if_pos rfl]
      exact rc_some ⟨hE, hd⟩
    · have hn1 : 1 ≤ (w (brp (w 0 8)) 3).toInt := by
        rw [i_eq_iff, t0] at cn
        have := b3.2.1
        omega
      rw [if_neg cn, if_pos (show 0 < w' 134 18 by rw [← en, Int32.lt_iff_toInt_lt]; omega), ← en]
      refine rc_bind (rc_draw hd hn1) (fun q q2 _ _ hq => ?_)
      obtain ⟨⟨q1, q3, q4⟩, q5, q6, q7⟩ := hq
      rw [← q1, if_neg (ne_m1 q3)]
      obtain ⟨j, ej⟩ : ∃ j, q.1.toNatClampNeg = j := ⟨_, rfl⟩
      have hj := i_clq q3
      rw [ej] at hj
      have i7 : ((7 : Int32) + q.1).toNatClampNeg = 7 + j := by rw [ix (d := 7) tl_7' (by omega) q3 (by omega), ej]
      refine rcr_rd (fun _ => ?_)
      rw [i7]
      refine rcl_bind (pc_holds q3 (by omega)) (fun x _ hx => ?_)
      have hbj : hbI (q.2 3 7) q.1 = bt (w 3 7) j := by rw [q6 3 7 (by omega)]; unfold bt; rw [← ej, ← i_nat3 q3]
      rw [hbj] at hx
      obtain ⟨_, w3⟩ := hE.2.2.2.2 j (by omega)
      have hE2 := evc_fr hbb hE b3.2.2 q6 q7
      rw [q7 146 (7 + j) (by omega)]
      by_cases cz : w' 146 (7 + j) = 0
      · have hb1 : bt (w 3 7) j = 1 := by
          rcases w3 with ⟨_, ⟨z2, _⟩, _⟩ | ⟨z1, _⟩ | ⟨z1, _⟩ | ⟨z1, _⟩
          · exact z2
          · rw [z1] at cz; exact absurd cz (by decide)
          · rw [z1] at cz; exact absurd cz (by decide)
          · rw [z1] at cz; exact absurd cz (by decide)
        rw [if_neg (show ¬ x = 0 by rw [hx, hb1]; decide), if_pos cz]
        intro u u' hu hu'
        have hu2 : u = wu (wu q.2 3 7 (clrB (q.2 3 7) q.1)) 3 4 q.1 := by
          have : Pc (fun u => u = wu (wu q.2 3 7 (clrB (q.2 3 7) q.1)) 3 4 q.1) (f_X3_takeSeat q.1 q.2) := by unfold f_X3_takeSeat; exact pc_pw (pc_pw (pc_some rfl))
          exact this u hu
        have hu3 : u' = wu (wu (wu (wu q2.2 146 (7 + j) 1) 146 4 q.1) 146 5 0) 146 6 (-1) := by
          have : Pc (fun u' => u' = wu (wu (wu (wu q2.2 146 (7 + j) 1) 146 4 q.1) 146 5 0) 146 6 (-1)) (f_X10_seats q.1 q2.2) := by
            unfold f_X10_seats
            refine pc_wr (fun _ => pc_wr (fun _ => pc_wr (fun _ => pc_wr (fun _ => pc_some ?_))))
            rw [i7, cl_4, cl_6, show (5 : Int32).toNatClampNeg = 5 by decide]
          exact this u' hu'
        refine ⟨evc_seat hbb hE2 (by rw [q6 _ 3 (by omega)]; exact b3.2.2) ⟨q3, by rw [q6 _ 3 (by omega)]; exact q4⟩ ej (by rw [q7 146 4 (by omega), ← e4]; exact c) (by rw [q7 146 (7 + j) (by omega)]; exact cz) hu2 hu3, ?_⟩
        rw [hu2, hu3, wu_ne (by omega), wu_ne (by omega), wu_ne (by omega), wu_ne (by omega), wu_ne (by omega), wu_ne (by omega)]
        exact q5
      · have hb0 : bt (w 3 7) j = 0 := by
          rcases w3 with ⟨z1, _⟩ | ⟨_, ⟨z2, _⟩, _⟩ | ⟨_, ⟨z2, _⟩, _⟩ | ⟨_, ⟨z2, _⟩, _⟩
          · exact absurd z1 cz
          · exact z2
          · exact z2
          · exact z2
        rw [if_pos (show x = 0 by rw [hx, hb0]), if_neg cz]
        exact rc_some ⟨hE2, q5⟩
  · rw [if_neg c, if_neg c]
    have h4 : 0 ≤ (w 3 4).toInt := by
      rw [i_eq_iff, tm] at c
      have := hE.2.1.2.2.2.1.1
      rw [← e4] at this
      omega
    unfold f_X9_drawTelling
    refine rc_bind (rc_draw hd (by omega)) (fun q q2 _ _ hq => ?_)
    obtain ⟨⟨q1, q3, q4⟩, q5, q6, q7⟩ := hq
    have e8 : q.2 0 8 = w 0 8 := q6 0 8 (by omega)
    have hE2 := evc_fr hbb hE b3.2.2 q6 q7
    have hB2 := brc_fr hbb hB q6 q7
    rw [← q1, e8]
    by_cases c1 : q.1 = 0
    · rw [if_pos c1, if_pos c1]
      refine rc_bind (Q := fun a a2 => EvC 3 (a2.2 146) (brp (w 0 8)) a.2 ∧ DrC (a.2 0 10) (a2.2 134 28)) (fun a a2 ha ha2 => ?_) (fun a a2 _ _ ha => rc_some ha)
      refine ⟨rc_leave (brp_ok _) hB2 hE2 (by rw [q6 3 4 (by omega)]; exact h4) a a2 ha ha2, ?_⟩
      rw [fr_X3_leaveSeat _ (brp_ok _) _ a ha 0 10 (by omega), fr_X10_rises _ a2 ha2 134 28 (by omega)]
      exact q5
    · rw [if_neg c1, if_neg c1]
      have em2 : q.2 (brp (w 0 8)) 2 = w (brp (w 0 8)) 2 := q6 _ _ (by omega)
      rw [em2, q7 134 17 (by omega), ← eM]
      by_cases c2 : w (brp (w 0 8)) 2 = 0
      · rw [if_pos c2, c2, if_neg (show ¬ (0 : Int32) < 0 by decide)]
        exact rc_some ⟨hE2, q5⟩
      · have hm1 : 1 ≤ (w (brp (w 0 8)) 2).toInt := by
          rw [i_eq_iff, t0] at c2
          have := b3.1.1
          omega
        rw [if_neg c2, if_pos (show 0 < w (brp (w 0 8)) 2 by rw [Int32.lt_iff_toInt_lt]; omega)]
        refine rc_bind (rc_draw q5 hm1) (fun p p2 _ _ hp => ?_)
        obtain ⟨⟨p1, p3, p4⟩, p5, p6, p7⟩ := hp
        have f8 : p.2 0 8 = w 0 8 := by rw [p6 0 8 (by omega), e8]
        have hE3 := evc_fr hbb hE2 (by rw [q6 _ 3 (by omega)]; exact b3.2.2) p6 p7
        have hB3 := brc_fr hbb hB2 p6 p7
        rw [← p1, f8]
        refine rc_bind (rc_can hE3 ⟨p3, by omega⟩) (fun x x2 _ _ hx => ?_)
        rcases hx with ⟨x1, x3⟩ | ⟨x1, x3, x4, x5⟩
        · rw [if_pos x1, if_pos x3]
          exact rc_some ⟨hE3, p5⟩
        · rw [if_neg (show ¬ x = 0 by rw [x1]; decide), if_neg (show ¬ x2 = 0 by rw [x3]; decide)]
          refine rc_bind (Q := fun a a2 => EvC 3 (a2.2 146) (brp (w 0 8)) a.2 ∧ DrC (a.2 0 10) (a2.2 134 28)) (fun a a2 ha ha2 => ?_) (fun a a2 _ _ ha => rc_some ha)
          refine ⟨(rc_hear (brp_ok _) hB3 hE3 x4 ⟨p3, by rw [p6 _ 2 (by omega), em2]; exact p4⟩ x5 a a2 ha ha2).2, ?_⟩
          rw [fr_X3_hear _ (brp_ok _) _ _ a ha 0 10 (by omega), fr_X10_tells _ _ a2 ha2 134 28 (by omega)]
          exact p5
