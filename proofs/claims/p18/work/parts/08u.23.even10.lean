/-! learn, undo -/
theorem rc_learn {w w' : Mem} {m : Int32} (h : SimE w w') : Rc (fun q q2 => q.1 = q2.1 ∧ SimE q.2 q2.2) (f_X9_learn m w) (f_X10_learn m w') := by
  have hB := h.1.2.1
  have hE := h.2.1
  have b3 := hB.2.2.1
  have eM : w (brp (w 0 8)) 2 = w' 134 17 := hB.1.2.2.1
  have hb : brp (w 0 8) = 112 ∨ brp (w 0 8) = 119 := brp_or _
  have t60 := tl_60
  have e3 : w 3 3 = w' 146 3 := hE.1.2.2.2.1
  unfold f_X9_learn f_X10_learn
  refine rcl_bind (pc_hasM b3.1.2) (fun r _ hr => ?_)
  refine rcr_bind (pc_isM (by rw [← eM]; exact b3.1.1)) (fun r2 _ hr2 => ?_)
  rw [← eM] at hr2
  rcases hr with ⟨r1, hm⟩ | ⟨r1, n⟩
  · rcases hr2 with ⟨s1, _⟩ | ⟨_, n⟩
    · rw [if_neg (show ¬ r = 0 by rw [r1]; decide), if_neg (show ¬ r2 = 0 by rw [s1]; decide)]
      refine rcr_rd (fun _ => ?_)
      rw [cl_3, e3]
      refine rcl_bind (pc_holds hm.1 (by omega)) (fun x _ hx => rcr_bind pc_has (fun y _ hy => ?_))
      rw [hx, hy]
      by_cases c : hbI (w' 146 3) m = 0
      · rw [if_pos c, if_pos c]
        refine rc_bind (Q := fun _ _ => True) (fun _ _ _ _ => trivial) (fun z z' hz hz' _ => ?_)
        obtain ⟨o1, o2, o3, o4⟩ := rem_ok h hz hz'
        obtain ⟨b, eb⟩ : ∃ b, b = brp (w 0 8) := ⟨_, rfl⟩
        rw [← eb] at o1 o2 hb
        refine rcl_pw (rcr_rd (fun _ => rcr_wr (fun _ => ?_)))
        rw [cl_3]
        obtain ⟨a1, a2, a3, a4, a5⟩ := o2
        obtain ⟨v, ev⟩ : ∃ v, v = wu z 3 3 (z 3 3 ||| ((1 : Int32) <<< (m &&& 31))) := ⟨_, rfl⟩
        obtain ⟨v', ev'⟩ : ∃ v', v' = wu z' 146 3 (z' 146 3 ||| ((1 : Int32) <<< (m &&& 31))) := ⟨_, rfl⟩
        have V : ∀ k i, ¬ (k = 3 ∧ i = 3) → v k i = z k i := fun k i h => by rw [ev, wu_ne h]
        have V3 : v 3 3 = setB (z 3 3) m := by rw [ev, wu_at]; rfl
        have V' : ∀ k i, ¬ (k = 146 ∧ i = 3) → v' k i = z' k i := fun k i h => by rw [ev', wu_ne h]
        have V3' : v' 146 3 = setB (z' 146 3) m := by rw [ev', wu_at]; rfl
        have hBv : BrC b v v' := brc_of o1 (fun k i k1 k2 => V k i (by omega)) (V' 134 15 (by omega)) (V' 134 16 (by omega)) (V' 134 17 (by omega)) (V' 134 18 (by omega)) (fun k i k1 k2 => V' k i (by omega))
        have zb2 : z b 2 = w (brp (w 0 8)) 2 := by rw [eb]; exact fr_X6_remember w z hz _ 2 (by omega)
        have pM : 2 ^ (z b 2).toInt.toNat ≤ 2 ^ 8 := Nat.pow_le_pow_right (by decide) (by rw [zb2]; omega)
        have hrg := set_rng (x := z' 146 3) (t := m) (n := (z b 2).toInt.toNat) (by rw [zb2]; omega) a2.2.2.1.1 a2.2.2.1.2 hm.1 (by rw [zb2]; omega)
        have hEv : EvC 3 (v' 146) b v := by
          refine ⟨?_, ?_, ?_, ?_, fun s hs => ?_⟩
          · rw [V 3 0 (by omega), V 3 1 (by omega), V 3 2 (by omega), V3, V 3 4 (by omega), V 3 5 (by omega), V 3 6 (by omega), V' 146 0 (by omega), V' 146 1 (by omega), V' 146 2 (by omega), V3', V' 146 4 (by omega), V' 146 5 (by omega), V' 146 6 (by omega)]
            exact ⟨a1.1, a1.2.1, a1.2.2.1, by rw [a1.2.2.2.1], a1.2.2.2.2⟩
          · rw [V' 146 1 (by omega), V' 146 2 (by omega), V3', V' 146 4 (by omega), V' 146 5 (by omega), V' 146 6 (by omega), V b 2 (by omega), V b 3 (by omega)]
            exact ⟨a2.1, a2.2.1, hrg, a2.2.2.2⟩
          · rw [V' 146 4 (by omega), V' 146 5 (by omega), V' 146 6 (by omega)]
            exact a3
          · rw [V 3 7 (by omega), V 3 8 (by omega), V 3 9 (by omega), V b 3 (by omega)]
            exact a4
          · rw [V b 3 (by omega)] at hs
            rw [V (b + 4) s (by omega), V 3 7 (by omega), V 3 8 (by omega), V 3 9 (by omega), V (3 + 1) s (by omega), V (3 + 2) s (by omega), V' 146 4 (by omega), V' 146 5 (by omega), V' 146 (7 + s) (by omega), V' 146 (13 + s) (by omega), V' 146 (19 + s) (by omega)]
            exact a5 s hs
        have ev8 : v 0 8 = w 0 8 := by rw [V 0 8 (by omega), o3]
        rw [← ev, ← ev', ev8, ← eb]
        refine rc_bind (rc_passE hb hBv hEv ⟨by omega, by omega⟩) (fun u u' hu hu' hQ => ?_)
        obtain ⟨q1, q2, q3, q4⟩ := hQ
        refine rcr_rd (fun _ => ?_)
        rw [cl_3]
        have eq3 : u 3 3 = u' 146 3 := q1.1.2.2.2.1
        have ub2 : u b 2 = v b 2 := q3.2.1 b 2 (by omega) (by omega)
        have rg := q1.2.1.2.2.1
        rw [ub2, V b 2 (by omega)] at rg
        rw [eq3, eq_bits rg.1 (by omega)]
        refine rc_bind (rc_refl _) (fun y y2 _ _ hy => rc_some ⟨hy, ?_⟩)
        refine sime_deed h hz hz' (fun k i h => ?_) (fun k i h => ?_) (by rw [← eb]; exact q1) ?_
        · show u k i = z k i
          rw [q3.2.1 k i (by omega) (by omega), V k i (by omega)]
        · show u' k i = z' k i
          rw [q4.2.1.1 k i (by omega), V' k i (by omega)]
        · show DrC (u 0 10) (u' 134 28)
          rw [q3.2.1 0 10 (by omega) (by omega), V 0 10 (by omega), q4.2.1.1 134 28 (by omega), V' 134 28 (by omega)]
          exact o4
      · rw [if_neg c, if_neg c]
        exact rc_some ⟨rfl, h⟩
    · exact absurd hm n
  · rcases hr2 with ⟨s1, hm⟩ | ⟨s1, _⟩
    · exact absurd hm n
    · rw [if_pos r1, if_pos s1]
      exact rc_some ⟨rfl, h⟩
