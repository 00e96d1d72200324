/-! how long one stays -/
def hbI (a k : Int32) : Int32 := if ((a >>> (k &&& 31)) &&& (1 : Int32)) = 1 then 1 else 0
theorem and1 (x : Int32) : x &&& 1 = 0 ∨ x &&& 1 = 1 := by
  have h := i_and_r (x := x) (y := 1) (by decide)
  have t1 := tl_1
  exact i_z01 h.1 (by omega)
theorem pc_holds {a k : Int32} (h0 : 0 ≤ k.toInt) (h1 : k.toInt < 31) : Pc (fun r => r = hbI a k) (f_X9_holds a k) := by
  unfold f_X9_holds hbI
  have t0 := tl_0
  have t31 := tl_31
  rw [if_neg (show ¬ k < 0 by rw [Int32.lt_iff_toInt_lt]; omega), if_pos (show k < 31 by rw [Int32.lt_iff_toInt_lt]; omega)]
  rcases and1 (a >>> (k &&& 31)) with e | e
  · rw [if_pos e, if_neg (show ¬ (a >>> (k &&& 31)) &&& 1 = 1 by rw [e]; decide)]
    exact pc_some rfl
  · rw [if_neg (show ¬ (a >>> (k &&& 31)) &&& 1 = 0 by rw [e]; decide), if_pos e]
    exact pc_some rfl
theorem pc_has {a k : Int32} : Pc (fun r => r = hbI a k) (f_X10_has a k) := by
  unfold f_X10_has hbI
  exact pc_ite (fun c => pc_some (by rw [if_pos c])) (fun c => pc_some (by rw [if_neg c]))
theorem hbI_01 (a k : Int32) : hbI a k = 0 ∨ hbI a k = 1 := by
  unfold hbI
  by_cases c : ((a >>> (k &&& 31)) &&& (1 : Int32)) = 1
  · exact Or.inr (by rw [if_pos c])
  · exact Or.inl (by rw [if_neg c])
set_option maxRecDepth 100000 in
theorem bits_tab : ∀ j : Fin 256, f_J6_bitCount_0f7a4 (Int32.ofNat j.1) = f_X10_bits (Int32.ofNat j.1) := by decide +kernel
theorem eq_bits {x : Int32} (h0 : 0 ≤ x.toInt) (h1 : x.toInt ≤ 255) : f_J6_bitCount_0f7a4 x = f_X10_bits x := by
  obtain ⟨k, hk, e, e2⟩ := i_nat h0
  rw [e]
  exact bits_tab ⟨k, by omega⟩
theorem all_rng {m : Int32} (h0 : 0 ≤ m.toInt) (h1 : m.toInt ≤ 8) : 0 ≤ (AllI m).toInt ∧ (AllI m).toInt ≤ 255 := i_sof h0 h1
theorem and_rng {x m : Int32} (h0 : 0 ≤ m.toInt) (h1 : m.toInt ≤ 8) (h : x &&& AllI m = x) : 0 ≤ x.toInt ∧ x.toInt ≤ 255 := by
  have h2 := all_rng h0 h1
  have h3 := i_and_r (x := x) h2.1
  rw [h] at h3
  omega
theorem rc_stayOf {b : Nat} {w w' : Mem} {t m : Int32} (hB : BrC b w w') (ht : 0 ≤ t.toInt ∧ t.toInt < (w b 3).toInt) (hm : 0 ≤ m.toInt ∧ m.toInt < (w b 2).toInt) : Rc (fun x y => x = y) (f_X1_stayOf b t m w) (f_X10_stayOf t m w') := by
  obtain ⟨b1, b2, b3, b4, b5⟩ := hB
  have ej := i_clq ht.1
  have ei := i_clq hm.1
  obtain ⟨j, hj⟩ : ∃ j, t.toNatClampNeg = j := ⟨_, rfl⟩
  obtain ⟨i, hi⟩ : ∃ i, m.toNatClampNeg = i := ⟨_, rfl⟩
  rw [hj] at ej
  rw [hi] at ei
  obtain ⟨⟨E1, E2⟩, g1, g2⟩ := b4 i (by omega)
  obtain ⟨⟨E3, E4, E5⟩, g3, g4, g5⟩ := b5 j (by omega)
  have g6 := and_rng b3.1.1 b3.1.2 g2
  rw [E1] at g1
  rw [E2] at g6
  rw [E4] at g4
  unfold f_X1_stayOf f_X10_stayOf
  refine rcl_bind (pc_hasT b3.2.2) (fun r1 _ h1 => ?_)
  rcases h1 with ⟨e1, _⟩ | ⟨_, n⟩
  · rw [if_neg (show ¬ r1 = 0 by rw [e1]; decide)]
    refine rcl_bind (pc_hasM b3.1.2) (fun r2 _ h2 => ?_)
    rcases h2 with ⟨e2, _⟩ | ⟨_, n⟩
    · rw [if_neg (show ¬ r2 = 0 by rw [e2]; decide)]
      refine rcl_rd (fun _ => rcr_rd (fun _ => ?_))
      rw [hj, E5]
      refine rcl_bind (pc_holds hm.1 (by omega)) (fun r3 _ h3 => rcr_bind pc_has (fun r4 _ h4 => ?_))
      rw [h3, h4]
      rcases hbI_01 (w' 145 j) m with e | e
      · rw [if_pos e, if_pos e]
        exact rc_some rfl
      · rw [if_neg (show ¬ hbI (w' 145 j) m = 0 by rw [e]; decide), if_neg (show ¬ hbI (w' 145 j) m = 0 by rw [e]; decide)]
        refine rcl_rd (fun _ => rcr_rd (fun _ => rcr_rd (fun _ => ?_)))
        rw [hj, E3]
        by_cases k0 : w' 143 j = 0
        · rw [if_pos k0, if_pos k0]
          refine rcl_rd (fun _ => rcl_rd (fun _ => rcr_rd (fun _ => ?_)))
          rw [hj, hi, E1, E4]
          by_cases c : 1 < w' 141 i - w' 144 j
          · rw [if_pos c, if_pos c]
            refine rcr_rd (fun _ => ?_)
            rw [hi]
            exact rc_some rfl
          · rw [if_neg c, if_neg c]
            exact rc_some rfl
        · rw [if_neg k0, if_neg k0]
          by_cases k1 : w' 143 j = 1
          · rw [if_pos k1, if_pos k1]
            refine rcl_rd (fun _ => rcr_rd (fun _ => ?_))
            rw [hi, E1]
            exact rc_some rfl
          · rw [if_neg k1, if_neg k1]
            by_cases k2 : w' 143 j = 2
            · rw [if_pos k2, if_pos k2]
              refine rcl_rd (fun _ => rcl_rd (fun _ => rcr_rd (fun _ => ?_)))
              rw [hj, hi, E1, E4]
              have d : (w' 141 i / 2).toInt = (w' 141 i).toInt / (2 : Nat) := i_divk (k := 2) tl_2 (by decide) (by omega)
              have d2 : (w' 141 i / 2 - w' 144 j).toInt = (w' 141 i / 2).toInt - (w' 144 j).toInt := i_sub (by omega) (by omega)
              have t0 := tl_0
              by_cases c : w' 144 j < w' 141 i / 2
              · rw [if_pos c, if_pos (show 0 < w' 141 i / 2 - w' 144 j by rw [Int32.lt_iff_toInt_lt] at c ⊢; omega)]
                refine rcr_rd (fun _ => ?_)
                rw [hi]
                exact rc_some rfl
              · rw [if_neg c, if_neg (show ¬ 0 < w' 141 i / 2 - w' 144 j by rw [Int32.lt_iff_toInt_lt] at c ⊢; omega)]
                exact rc_some rfl
            · rw [if_neg k2, if_neg k2]
              by_cases k3 : w' 143 j = 3
              · rw [if_pos k3, if_pos k3]
                refine rcl_rd (fun _ => rcl_rd (fun _ => rcr_rd (fun _ => rcr_rd (fun _ => ?_))))
                rw [hi, E1, E2, eq_bits g6.1 g6.2]
                exact rc_refl _
              · rw [if_neg k3, if_neg k3]
                exact rc_some rfl
    · exact absurd hm n
  · exact absurd ht n
theorem eq_stay {w w' : Mem} {t m : Int32} (h : SimB w w') : Rc (fun x y => x = y) (f_X9_stay t m w) (f_X10_stay t m w') := by
  have hB := h.2.1
  obtain ⟨b1, b2, b3, b4, b5⟩ := h.2.1
  unfold f_X9_stay f_X10_stay
  simp only [bind_eta1]
  refine rcl_bind (pc_hasT b3.2.2) (fun r1 _ h1 => ?_)
  refine rcr_bind (pc_isT (by rw [← b1.2.2.2]; exact b3.2.1)) (fun s1 _ g1 => ?_)
  rw [← b1.2.2.2] at g1
  rcases h1 with ⟨e1, ht⟩ | ⟨e1, n⟩
  · rcases g1 with ⟨e2, _⟩ | ⟨_, n⟩
    · rw [if_neg (show ¬ r1 = 0 by rw [e1]; decide), if_neg (show ¬ s1 = 0 by rw [e2]; decide)]
      refine rcl_bind (pc_hasM b3.1.2) (fun r2 _ h2 => ?_)
      refine rcr_bind (pc_isM (by rw [← b1.2.2.1]; exact b3.1.1)) (fun s2 _ g2 => ?_)
      rw [← b1.2.2.1] at g2
      rcases h2 with ⟨e3, hm⟩ | ⟨e3, n⟩
      · rcases g2 with ⟨e4, _⟩ | ⟨_, n⟩
        · rw [if_neg (show ¬ r2 = 0 by rw [e3]; decide), if_neg (show ¬ s2 = 0 by rw [e4]; decide)]
          exact rc_stayOf hB ht hm
        · exact absurd hm n
      · rcases g2 with ⟨e4, hm⟩ | ⟨e4, _⟩
        · exact absurd hm n
        · rw [if_pos e3, if_pos e4]
          exact rc_some rfl
    · exact absurd ht n
  · rcases g1 with ⟨e2, ht⟩ | ⟨e2, _⟩
    · exact absurd ht n
    · rw [if_pos e1, if_pos e2]
      exact rc_some rfl
