/-! deeds -/
theorem rem_ok {w w' x x' : Mem} (h : SimE w w') (hx : f_X6_remember w = some x) (hx' : f_X10_remember w' = some x') : BrC (brp (w 0 8)) x x' ∧ EvC 3 (x' 146) (brp (w 0 8)) x ∧ x 0 8 = w 0 8 ∧ DrC (x 0 10) (x' 134 28) := by
  obtain ⟨a, e, p, m, d⟩ := h
  have hb : brp (w 0 8) = 112 ∨ brp (w 0 8) = 119 := brp_or _
  have h6 : (w (brp (w 0 8)) 3).toInt ≤ 6 := a.2.1.2.2.1.2.2
  have fl := fr_X6_remember w x hx
  have fr := fr_X10_remember w' x' hx'
  refine ⟨brc_of a.2.1 (fun k i k1 k2 => fl k i (by omega)) (fr 134 15 (by omega)) (fr 134 16 (by omega)) (fr 134 17 (by omega)) (fr 134 18 (by omega)) (fun k i k1 k2 => fr k i (by omega)), ?_, fl 0 8 (by omega), by rw [fl 0 10 (by omega), fr 134 28 (by omega)]; exact d⟩
  exact evc_mv e h6 (fun j _ => fl _ j (by omega)) (fun j _ => fl _ j (by omega)) (fun j _ => fl _ j (by omega)) (fun j _ => fr _ _ (by omega)) (fl _ _ (by omega)) (fl _ _ (by omega)) (fun j _ => fl _ j (by omega))
theorem pc_isBridge {w' : Mem} : Pc (fun x => x = if 0 < (w' 134 16).toInt then 1 else 0) (f_X10_isBridge w') := by
  unfold f_X10_isBridge
  refine pc_ite (fun c => ?_) (fun c => ?_)
  · rw [Int32.lt_iff_toInt_lt, tl_0] at c
    exact pc_some (by rw [if_pos c])
  · rw [Int32.lt_iff_toInt_lt, tl_0] at c
    exact pc_some (by rw [if_neg c])
theorem there_eq {b : Nat} {w w' : Mem} (h : BrC b w w') : (0 < (w b 0).toInt ↔ 0 < (w' 134 16).toInt) := by
  rw [← h.1.2.1]
  have t0 := tl_0
  rcases h.2.1 with ⟨a, c, _⟩ | ⟨a, c⟩
  · rw [a, c]
  · omega
theorem rc_minute {w w' : Mem} {k : Int32} (h : SimE w w') : Rc (fun q q2 => q.1 = q2.1 ∧ SimE q.2 q2.2) (f_X9_minute k w) (f_X10_minute k w') := by
  have hB := h.1.2.1
  have hE := h.2.1
  have hb : brp (w 0 8) = 112 ∨ brp (w 0 8) = 119 := brp_or _
  have t1 := tl_1
  have t60 := tl_60
  unfold f_X9_minute f_X10_minute
  refine rcr_bind pc_in (fun r _ hr => ?_)
  refine rcl_ite (fun c => ?_) (fun c => rcl_ite (fun c2 => ?_) (fun c2 => ?_))
  · rw [Int32.lt_iff_toInt_lt] at c
    rw [if_pos (in_0 hr (by omega))]
    exact rc_some ⟨rfl, h⟩
  · rw [Int32.lt_iff_toInt_lt] at c2
    rw [if_pos (in_0 hr (by omega))]
    exact rc_some ⟨rfl, h⟩
  · rw [Int32.lt_iff_toInt_lt] at c c2
    rw [if_neg (in_1 hr (by omega))]
    refine rcl_bind pc_isThere (fun x _ hx => rcr_bind pc_isBridge (fun y _ hy => ?_))
    by_cases ht : 0 < (w (brp (w 0 8)) 0).toInt
    · rw [if_pos ht] at hx
      rw [if_pos ((there_eq hB).mp ht)] at hy
      rw [if_neg (show ¬ x = 0 by rw [hx]; decide), if_neg (show ¬ y = 0 by rw [hy]; decide)]
      refine rcr_rd (fun _ => ?_)
      rw [cl_0, ← hE.1.1]
      by_cases c3 : 900000 < w 3 0
      · rw [if_pos c3, if_pos c3]
        exact rc_some ⟨rfl, h⟩
      · rw [if_neg c3, if_neg c3]
        refine rc_bind (Q := fun _ _ => True) (fun _ _ _ _ => trivial) (fun z z' hz hz' _ => ?_)
        obtain ⟨o1, o2, o3, o4⟩ := rem_ok h hz hz'
        rw [o3]
        refine rc_bind (rc_passE (brp_ok _) o1 o2 ⟨by omega, by omega⟩) (fun u u' hu hu' hQ => ?_)
        obtain ⟨e1, e2, e3, e4⟩ := hQ
        refine rcr_rd (fun _ => rc_some ⟨?_, ?_⟩)
        · rw [cl_0]
          exact e2
        · exact sime_deed h hz hz' (fun k i h => e3.2.1 k i (by omega) (by omega)) (fun k i h => e4.2.1.1 k i (by omega)) e1 (by show DrC (u 0 10) (u' 134 28); rw [e3.2.1 0 10 (by omega) (by omega), e4.2.1.1 134 28 (by omega)]; exact o4)
    · rw [if_neg ht] at hx
      rw [if_neg (fun q => ht ((there_eq hB).mpr q))] at hy
      rw [if_pos hx, if_pos hy]
      exact rc_some ⟨rfl, h⟩
theorem evc_seat {b : Nat} (hbb : b = 112 ∨ b = 119) {z z' u u' : Mem} {t : Int32} {j : Nat} (hE : EvC 3 (z' 146) b z) (h6 : (z b 3).toInt ≤ 6) (ht : 0 ≤ t.toInt ∧ t.toInt < (z b 3).toInt) (ej : t.toNatClampNeg = j) (c4 : z' 146 4 = -1) (cz : z' 146 (7 + j) = 0) (hu : u = wu (wu z 3 7 (clrB (z 3 7) t)) 3 4 t) (hu' : u' = wu (wu (wu (wu z' 146 (7 + j) 1) 146 4 t) 146 5 0) 146 6 (-1)) : EvC 3 (u' 146) b u := by
  have t0 := tl_0
  have tm := tl_m1
  have hj := i_clq ht.1
  rw [ej] at hj
  have U : ∀ k i, ¬ (k = 3 ∧ (i = 4 ∨ i = 7)) → u k i = z k i := fun k i hk => by rw [hu, wu_ne (by omega), wu_ne (by omega)]
  have U4 : u 3 4 = t := by rw [hu, wu_at]
  have U7 : u 3 7 = clrB (z 3 7) t := by rw [hu, wu_ne (by omega), wu_at]
  have V : ∀ k i, ¬ (k = 146 ∧ (i = 4 ∨ i = 5 ∨ i = 6 ∨ i = 7 + j)) → u' k i = z' k i := fun k i hk => by rw [hu', wu_ne (by omega), wu_ne (by omega), wu_ne (by omega), wu_ne (by omega)]
  have V4 : u' 146 4 = t := by rw [hu', wu_ne (by omega), wu_ne (by omega), wu_at]
  have V5 : u' 146 5 = 0 := by rw [hu', wu_ne (by omega), wu_at]
  have V6 : u' 146 6 = -1 := by rw [hu', wu_at]
  have V7 : u' 146 (7 + j) = 1 := by rw [hu', wu_ne (by omega), wu_ne (by omega), wu_ne (by omega), wu_at]
  obtain ⟨a1, a2, a3, a4, a5⟩ := hE
  obtain ⟨c5, c6⟩ := a3 c4
  have eb2 : u b 2 = z b 2 := U _ _ (by omega)
  have eb3 : u b 3 = z b 3 := U _ _ (by omega)
  have p6 : 2 ^ (z b 3).toInt.toNat ≤ 2 ^ 6 := Nat.pow_le_pow_right (by decide) (by omega)
  refine ⟨?_, ?_, ?_, ?_, fun s hs => ?_⟩
  · rw [U 3 0 (by omega), U 3 1 (by omega), U 3 2 (by omega), U 3 3 (by omega), U4, U 3 5 (by omega), U 3 6 (by omega), V 146 0 (by omega), V 146 1 (by omega), V 146 2 (by omega), V 146 3 (by omega), V4, V5, V6]
    exact ⟨a1.1, a1.2.1, a1.2.2.1, a1.2.2.2.1, rfl, by rw [a1.2.2.2.2.2.1, c5], by rw [a1.2.2.2.2.2.2, c6]⟩
  · rw [V 146 1 (by omega), V 146 2 (by omega), V 146 3 (by omega), V4, V5, V6, eb2, eb3]
    have q5 := a2.2.2.2.2.1
    rw [c5] at q5
    have q6 := a2.2.2.2.2.2
    rw [c6] at q6
    exact ⟨a2.1, a2.2.1, a2.2.2.1, ⟨by omega, by omega⟩, q5, q6⟩
  · rw [V4]
    intro e
    rw [e, tm] at ht
    omega
  · rw [U7, U 3 8 (by omega), U 3 9 (by omega), eb3]
    exact ⟨clr_rng a4.1.1 a4.1.2, a4.2.1, a4.2.2⟩
  · rw [eb3] at hs
    obtain ⟨g1, g3⟩ := a5 s hs
    rw [U (b + 4) s (by omega), U7, U 3 8 (by omega), U 3 9 (by omega), U (3 + 1) s (by omega), U (3 + 2) s (by omega), V4, V5, V 146 (13 + s) (by omega), V 146 (19 + s) (by omega), bt_clr a4.1.1 (by omega) ht.1 (by omega) (by omega), ej]
    refine ⟨g1, ?_⟩
    by_cases e : s = j
    · rw [e, if_pos rfl, V7]
      rw [e] at g3
      rcases g3 with ⟨_, ⟨_, z3, z4⟩, _, z6, _⟩ | ⟨z1, _⟩ | ⟨z1, _⟩ | ⟨z1, _⟩
      · exact Or.inr (Or.inl ⟨rfl, ⟨rfl, z3, z4⟩, by omega, by rw [z6, t0]; omega, by rw [z6, t0]; omega⟩)
      · rw [z1] at cz; exact absurd cz (by decide)
      · rw [z1] at cz; exact absurd cz (by decide)
      · rw [z1] at cz; exact absurd cz (by decide)
    · rw [if_neg e, V 146 (7 + s) (by omega)]
      rw [c4] at g3
      rcases g3 with ⟨z1, z2, _, z6⟩ | ⟨_, _, z5, _⟩ | ⟨z1, z2, _, z6⟩ | ⟨z1, z2, _, z6⟩
      · exact Or.inl ⟨z1, z2, by omega, z6⟩
      · rw [tm] at z5; omega
      · exact Or.inr (Or.inr (Or.inl ⟨z1, z2, by omega, z6⟩))
      · exact Or.inr (Or.inr (Or.inr ⟨z1, z2, by omega, z6⟩))
theorem rc_seat {w w' : Mem} {t : Int32} (h : SimE w w') : Rc (fun q q2 => q.1 = q2.1 ∧ SimE q.2 q2.2) (f_X9_seat t w) (f_X10_seat t w') := by
  have hB := h.1.2.1
  have hE := h.2.1
  have hb : brp (w 0 8) = 112 ∨ brp (w 0 8) = 119 := brp_or _
  have b3 := hB.2.2.1
  have en : w (brp (w 0 8)) 3 = w' 134 18 := hB.1.2.2.2
  have t0 := tl_0
  have tm := tl_m1
  unfold f_X9_seat f_X10_seat
  refine rcl_bind (pc_hasT b3.2.2) (fun r _ hr => ?_)
  refine rcr_bind (pc_isT (by rw [← en]; exact b3.2.1)) (fun r2 _ hr2 => ?_)
  rw [← en] at hr2
  rcases hr with ⟨r1, ht⟩ | ⟨r1, n⟩
  · rcases hr2 with ⟨s1, _⟩ | ⟨_, n⟩
    · rw [if_neg (show ¬ r = 0 by rw [r1]; decide), if_neg (show ¬ r2 = 0 by rw [s1]; decide)]
      refine rcr_rd (fun _ => ?_)
      rw [cl_4, ← hE.1.2.2.2.2.1]
      by_cases c : w 3 4 = -1
      · rw [if_pos c, if_pos c]
        obtain ⟨j, ej⟩ : ∃ j, t.toNatClampNeg = j := ⟨_, rfl⟩
        have hj := i_clq ht.1
        rw [ej] at hj
        have i7 : ((7 : Int32) + t).toNatClampNeg = 7 + j := by rw [ix (d := 7) tl_7' (by omega) ht.1 (by omega), ej]
        have i19 : ((19 : Int32) + t).toNatClampNeg = 19 + j := by rw [ix (d := 19) tl_19 (by omega) ht.1 (by omega), ej]
        refine rcr_rd (fun _ => ?_)
        rw [i7]
        refine rcl_bind (pc_holds ht.1 (by omega)) (fun x _ hx => ?_)
        have hbj : hbI (w 3 7) t = bt (w 3 7) j := by unfold bt; rw [← ej, ← i_nat3 ht.1]
        rw [hbj] at hx
        obtain ⟨⟨w1, w2⟩, w3⟩ := hE.2.2.2.2 j (by omega)
        by_cases cz : w' 146 (7 + j) = 0
        · have hb1 : bt (w 3 7) j = 1 := by
            rcases w3 with ⟨_, ⟨z2, _⟩, _⟩ | ⟨z1, _⟩ | ⟨z1, _⟩ | ⟨z1, _⟩
            · exact z2
            · rw [z1] at cz; exact absurd cz (by decide)
            · rw [z1] at cz; exact absurd cz (by decide)
            · rw [z1] at cz; exact absurd cz (by decide)
          rw [if_neg (show ¬ x = 0 by rw [hx, hb1]; decide), if_pos cz]
          refine rc_bind (Q := fun _ _ => True) (fun _ _ _ _ => trivial) (fun z z' hz hz' _ => ?_)
          obtain ⟨o1, o2, o3, o4⟩ := rem_ok h hz hz'
          have fl := fr_X6_remember w z hz
          have fr := fr_X10_remember w' z' hz'
          refine rcl_bind (Q := fun u => u = wu (wu z 3 7 (clrB (z 3 7) t)) 3 4 t) (by unfold f_X3_takeSeat; exact pc_pw (pc_pw (pc_some rfl))) (fun u _ hu => ?_)
          refine rcr_bind (Q := fun u' => u' = wu (wu (wu (wu z' 146 (7 + j) 1) 146 4 t) 146 5 0) 146 6 (-1)) (by
            unfold f_X10_seats
            refine pc_wr (fun _ => pc_wr (fun _ => pc_wr (fun _ => pc_wr (fun _ => pc_some ?_))))
            rw [i7, cl_4, cl_6, show (5 : Int32).toNatClampNeg = 5 by decide]) (fun u' _ hu' => ?_)
          have U : ∀ k i, ¬ (k = 3 ∧ (i = 4 ∨ i = 7)) → u k i = z k i := fun k i hk => by rw [hu, wu_ne (by omega), wu_ne (by omega)]
          have V : ∀ k i, ¬ (k = 146 ∧ (i = 4 ∨ i = 5 ∨ i = 6 ∨ i = 7 + j)) → u' k i = z' k i := fun k i hk => by rw [hu', wu_ne (by omega), wu_ne (by omega), wu_ne (by omega), wu_ne (by omega)]
          have c4 : z' 146 4 = -1 := by rw [← o2.1.2.2.2.2.1, fl 3 4 (by omega)]; exact c
          have zb3 : z (brp (w 0 8)) 3 = w (brp (w 0 8)) 3 := fl _ _ (by omega)
          have hEu := evc_seat hb o2 (by rw [zb3]; exact b3.2.2) ⟨ht.1, by rw [zb3]; exact ht.2⟩ ej c4 (by rw [fr 146 (7 + j) (by omega)]; exact cz) hu hu'
          have hg := (o2.2.2.2.2 j (by rw [zb3]; omega)).1.1
          have hS : SimE u u' := sime_deed h hz hz' (fun k i h => U k i (by omega)) (fun k i h => V k i (by omega)) hEu (by rw [U 0 10 (by omega), V 134 28 (by omega)]; exact o4)
          refine rcl_rd (fun _ => rcr_rd (fun _ => rc_some ⟨?_, hS⟩))
          rw [ej, i19, U 4 j (by omega), V 146 (19 + j) (by omega)]
          exact hg
        · have hb0 : bt (w 3 7) j = 0 := by
            rcases w3 with ⟨z1, _⟩ | ⟨_, ⟨z2, _⟩, _⟩ | ⟨_, ⟨z2, _⟩, _⟩ | ⟨_, ⟨z2, _⟩, _⟩
            · exact absurd z1 cz
            · exact z2
            · exact z2
            · exact z2
          rw [if_pos (show x = 0 by rw [hx, hb0]), if_neg cz]
          exact rc_some ⟨rfl, h⟩
      · rw [if_neg c, if_neg c]
        exact rc_some ⟨rfl, h⟩
    · exact absurd ht n
  · rcases hr2 with ⟨s1, ht⟩ | ⟨s1, _⟩
    · exact absurd ht n
    · rw [if_pos r1, if_pos s1]
      exact rc_some ⟨rfl, h⟩
