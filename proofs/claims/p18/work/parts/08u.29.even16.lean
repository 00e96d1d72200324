/-! anew, and a new bridge's evening -/
theorem rc_anew {w w' : Mem} (h : SimE w w') : Rc (fun q q2 => q.1 = q2.1 ∧ SimE q.2 q2.2) (f_X9_anew w) (f_X10_anew w') := by
  have hB := h.1.2.1
  have hE := h.2.1
  have hb : brp (w 0 8) = 112 ∨ brp (w 0 8) = 119 := brp_or _
  have t0 := tl_0
  have t9 := tl_9000
  have e1 : w 3 1 = w' 146 1 := hE.1.2.1
  have r1 := hE.2.1.1
  unfold f_X9_anew f_X10_anew
  refine rcl_bind pc_isThere (fun x _ hx => rcr_bind pc_isBridge (fun y _ hy => ?_))
  by_cases ht : 0 < (w (brp (w 0 8)) 0).toInt
  · rw [if_pos ht] at hx
    rw [if_pos ((there_eq hB).mp ht)] at hy
    rw [if_neg (show ¬ x = 0 by rw [hx]; decide), if_neg (show ¬ y = 0 by rw [hy]; decide)]
    refine rcr_rd (fun _ => ?_)
    rw [cl_1, e1]
    by_cases c3 : w' 146 1 < 9000
    · rw [if_pos c3, if_neg (show ¬ w' 146 1 = 9000 by rw [Int32.lt_iff_toInt_lt] at c3; rw [i_eq_iff]; omega)]
      rw [Int32.lt_iff_toInt_lt] at c3
      refine rc_bind (Q := fun _ _ => True) (fun _ _ _ _ => trivial) (fun z z' hz hz' _ => ?_)
      obtain ⟨o1, o2, o3, o4⟩ := rem_ok h hz hz'
      have fl := fr_X6_remember w z hz
      have fr := fr_X10_remember w' z' hz'
      have ez1 : z 3 1 = w' 146 1 := by rw [fl 3 1 (by omega), e1]
      have ez1' : z' 146 1 = w' 146 1 := fr 146 1 (by omega)
      have ea : (w' 146 1 + 1).toInt = (w' 146 1).toInt + 1 := i_addk tl_1 (by omega) (by omega)
      refine rcl_pw ?_
      rw [ez1]
      obtain ⟨v, ev⟩ : ∃ v, v = wu z 3 1 (w' 146 1 + 1) := ⟨_, rfl⟩
      rw [← ev]
      have V : ∀ k i, ¬ (k = 3 ∧ i = 1) → v k i = z k i := fun k i h => by rw [ev, wu_ne h]
      have V1 : v 3 1 = w' 146 1 + 1 := by rw [ev, wu_at]
      have ev8 : v 0 8 = w 0 8 := by rw [V 0 8 (by omega), o3]
      rw [ev8]
      refine rcl_bind (pc_gather (brp_ok _)) (fun u _ hu => ?_)
      obtain ⟨u1, u2, u3, u4⟩ := hu
      have zn : z' 134 18 = w (brp (w 0 8)) 3 := by rw [fr 134 18 (by omega), hB.1.2.2.2]
      have hn := hB.2.2.1.2
      refine rcr_bind (Q := fun y => (∀ k i, ¬ k = 146 → y k i = z' k i) ∧ (∀ i, i < 7 → y 146 i = z' 146 i) ∧ ∀ t : Nat, (t : Int) < (w (brp (w 0 8)) 3).toInt → y 146 (7 + t) = 0 ∧ y 146 (13 + t) = 0 ∧ y 146 (19 + t) = 0) (pc_lp (fun (s : Int32 × Mem) => (0 ≤ s.1.toInt ∧ s.1.toInt ≤ (w (brp (w 0 8)) 3).toInt) ∧ (∀ k i, ¬ k = 146 → s.2 k i = z' k i) ∧ (∀ i, i < 7 → s.2 146 i = z' 146 i) ∧ ∀ t : Nat, (t : Int) < s.1.toInt → s.2 146 (7 + t) = 0 ∧ s.2 146 (13 + t) = 0 ∧ s.2 146 (19 + t) = 0) ?_ _ _ ⟨by show 0 ≤ (0 : Int32).toInt ∧ (0 : Int32).toInt ≤ _; omega, fun _ _ _ => rfl, fun _ _ => rfl, fun t ht => by have h' : (t : Int) < (0 : Int32).toInt := ht; omega⟩) (fun y _ hy2 => ?_)
      · intro s hX
        obtain ⟨x1, x2, x3, x4⟩ := hX
        rw [x2 134 18 (by omega), zn]
        refine pc_ite (fun c => ?_) (fun c => pc_some ?_)
        · rw [Int32.lt_iff_toInt_lt] at c
          have es : (s.1 + 1).toInt = s.1.toInt + 1 := i_addk tl_1 (by omega) (by omega)
          obtain ⟨j, ej⟩ : ∃ j, s.1.toNatClampNeg = j := ⟨_, rfl⟩
          have hj := i_clq x1.1
          rw [ej] at hj
          have i7 : ((7 : Int32) + s.1).toNatClampNeg = 7 + j := by rw [ix (d := 7) tl_7' (by omega) x1.1 (by omega), ej]
          have i13 : ((13 : Int32) + s.1).toNatClampNeg = 13 + j := by rw [ix (d := 13) tl_13 (by omega) x1.1 (by omega), ej]
          have i19 : ((19 : Int32) + s.1).toNatClampNeg = 19 + j := by rw [ix (d := 19) tl_19 (by omega) x1.1 (by omega), ej]
          refine pc_wr (fun _ => pc_wr (fun _ => pc_wr (fun _ => pc_some ?_)))
          rw [i7, i13, i19]
          refine ⟨by show 0 ≤ (s.1 + 1).toInt ∧ (s.1 + 1).toInt ≤ _; omega, fun k i h => ?_, fun i h => ?_, fun t ht => ?_⟩
          · dsimp only
            rw [wu_ne (by omega), wu_ne (by omega), wu_ne (by omega)]
            exact x2 k i h
          · dsimp only
            rw [wu_ne (by omega), wu_ne (by omega), wu_ne (by omega)]
            exact x3 i h
          · have ht' : (t : Int) < (s.1 + 1).toInt := ht
            dsimp only
            by_cases e : t = j
            · rw [e, wu_ne (by omega), wu_ne (by omega), wu_at, wu_ne (by omega), wu_at, wu_at]
              exact ⟨rfl, rfl, rfl⟩
            · obtain ⟨g1, g2, g3⟩ := x4 t (by omega)
              rw [wu_ne (by omega), wu_ne (by omega), wu_ne (by omega), wu_ne (by omega), wu_ne (by omega), wu_ne (by omega), wu_ne (by omega), wu_ne (by omega), wu_ne (by omega)]
              exact ⟨g1, g2, g3⟩
        · rw [Int32.lt_iff_toInt_lt] at c
          exact ⟨x2, x3, fun t ht => x4 t (by omega)⟩
      · obtain ⟨y1, y2, y3⟩ := hy2
        refine rcr_wr (fun _ => rcr_wr (fun _ => rcr_wr (fun _ => rcr_rd (fun _ => rcr_wr (fun _ => rcr_rd (fun _ => rc_some ?_))))))
        rw [cl_1, cl_4, show (5 : Int32).toNatClampNeg = 5 by decide, cl_6]
        obtain ⟨q, eq⟩ : ∃ q, q = wu (wu (wu y 146 4 (-1)) 146 5 0) 146 6 (-1) := ⟨_, rfl⟩
        rw [← eq]
        have q1 : q 146 1 = w' 146 1 := by rw [eq, wu_ne (by omega), wu_ne (by omega), wu_ne (by omega), y2 1 (by omega), ez1']
        rw [q1]
        obtain ⟨u', eu'⟩ : ∃ u', u' = wu q 146 1 (w' 146 1 + 1) := ⟨_, rfl⟩
        rw [← eu']
        have U' : ∀ k i, ¬ (k = 146 ∧ (i = 1 ∨ i = 4 ∨ i = 5 ∨ i = 6)) → u' k i = y k i := fun k i h => by rw [eu', wu_ne (by omega), eq, wu_ne (by omega), wu_ne (by omega), wu_ne (by omega)]
        have U1 : u' 146 1 = w' 146 1 + 1 := by rw [eu', wu_at]
        have U4 : u' 146 4 = -1 := by rw [eu', wu_ne (by omega), eq, wu_ne (by omega), wu_ne (by omega), wu_at]
        have U5 : u' 146 5 = 0 := by rw [eu', wu_ne (by omega), eq, wu_ne (by omega), wu_at]
        have U6 : u' 146 6 = -1 := by rw [eu', wu_ne (by omega), eq, wu_at]
        obtain ⟨b, eb⟩ : ∃ b, b = brp (w 0 8) := ⟨_, rfl⟩
        rw [← eb] at u1 y3 hn hb hB o2
        have ub3 : u b 3 = w b 3 := by rw [u3 b 3 (by omega), V b 3 (by omega), fl b 3 (by omega)]
        have ub2 : u b 2 = w b 2 := by rw [u3 b 2 (by omega), V b 2 (by omega), fl b 2 (by omega)]
        have vb3 : v b 3 = w b 3 := by rw [V b 3 (by omega), fl b 3 (by omega)]
        have ub4 : ∀ t, u (b + 4) t = w (b + 4) t := fun t => by rw [u3 (b + 4) t (by omega), V (b + 4) t (by omega), fl (b + 4) t (by omega)]
        have zb2 : z b 2 = w b 2 := fl b 2 (by omega)
        obtain ⟨a1, a2, a3, a4, a5⟩ := o2
        refine ⟨by dsimp only; rw [u4 1 (by omega), V1, U1], ?_⟩
        dsimp only
        refine sime_deed h hz hz' (fun k i h => ?_) (fun k i h => ?_) ?_ ?_
        · rw [u3 k i (by omega), V k i (by omega)]
        · rw [U' k i (by omega), y1 k i (by omega)]
        · rw [← eb]
          refine evc_new (by rw [ub3]; exact hn) (fun t ht => ?_) (by rw [ub2]; exact hB.2.2.1.1.1) ⟨?_, ?_, ?_, ?_⟩ ⟨?_, ?_, ?_⟩ (by rw [ub3, ← vb3]; exact u1) u2 ⟨U4, U5, U6⟩ (fun t ht => ?_)
          · rw [ub3] at ht
            rw [ub4]
            exact (hB.2.2.2.2 t ht).2.2.1
          · rw [u4 0 (by omega), V 3 0 (by omega), U' 146 0 (by omega), y2 0 (by omega)]; exact a1.1
          · rw [u4 1 (by omega), V1, U1]
          · rw [u4 2 (by omega), V 3 2 (by omega), U' 146 2 (by omega), y2 2 (by omega)]; exact a1.2.2.1
          · rw [u4 3 (by omega), V 3 3 (by omega), U' 146 3 (by omega), y2 3 (by omega)]; exact a1.2.2.2.1
          · rw [U1, ea]; omega
          · rw [U' 146 2 (by omega), y2 2 (by omega)]; exact a2.2.1
          · rw [U' 146 3 (by omega), y2 3 (by omega), ub2, ← zb2]; exact a2.2.2.1
          · rw [ub3] at ht
            rw [U' 146 (7 + t) (by omega), U' 146 (13 + t) (by omega), U' 146 (19 + t) (by omega)]
            exact y3 t ht
        · rw [u3 0 10 (by omega), V 0 10 (by omega), U' 134 28 (by omega), y1 134 28 (by omega)]
          exact o4
    · rw [if_neg c3, if_pos (show w' 146 1 = 9000 by rw [Int32.lt_iff_toInt_lt] at c3; rw [i_eq_iff]; omega)]
      exact rc_some ⟨rfl, h⟩
  · rw [if_neg ht] at hx
    rw [if_neg (fun q => ht ((there_eq hB).mpr q))] at hy
    rw [if_pos hx, if_pos hy]
    exact rc_some ⟨rfl, h⟩
