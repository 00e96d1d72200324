/-! a matter, a traveller -/
theorem pc_addM {b : Nat} (hb : BrO b) {w : Mem} {x y : Int32} (h0 : 0 ≤ (w b 2).toInt) (h8 : (w b 2).toInt < 8) : Pc (fun q => q = wu (wu (wu w (b + 1) (w b 2).toNatClampNeg x) (b + 2) (w b 2).toNatClampNeg y) b 2 (w b 2 + 1)) (f_X1_addMatter b x y w) := by
  have hbb : b = 112 ∨ b = 119 := hb
  unfold f_X1_addMatter
  have t8 := tl_8
  rw [if_pos (show w b 2 < 8 by rw [Int32.lt_iff_toInt_lt]; omega)]
  refine pc_wr (fun _ => pc_wr (fun _ => pc_pw (pc_some ?_)))
  rw [wu_ne (by omega), wu_ne (by omega), wu_ne (by omega)]
theorem pc_addT {b : Nat} (hb : BrO b) {w : Mem} {x y z : Int32} (h0 : 0 ≤ (w b 3).toInt) (h8 : (w b 3).toInt < 6) : Pc (fun q => q = wu (wu (wu (wu w (b + 3) (w b 3).toNatClampNeg x) (b + 4) (w b 3).toNatClampNeg y) (b + 5) (w b 3).toNatClampNeg z) b 3 (w b 3 + 1)) (f_X1_addTraveller b x y z w) := by
  have hbb : b = 112 ∨ b = 119 := hb
  unfold f_X1_addTraveller
  have t6 := tl_6
  rw [if_pos (show w b 3 < 6 by rw [Int32.lt_iff_toInt_lt]; omega)]
  refine pc_wr (fun _ => pc_wr (fun _ => pc_wr (fun _ => pc_pw (pc_some ?_))))
  rw [wu_ne (by omega), wu_ne (by omega), wu_ne (by omega), wu_ne (by omega), wu_ne (by omega), wu_ne (by omega)]
theorem rc_matter {b : Nat} (hb : BrO b) {w w' : Mem} {p : Int} (h : GdR w w' p) (hd : DfR b w w') (ht : 1 ≤ (w b 0).toInt) (hm : (w b 2).toInt < 8) : Rc (ClP b p) (f_X7_readMatter b w) (f_X10_readsMatter w') := by
  have hbb : b = 112 ∨ b = 119 := hb
  unfold f_X7_readMatter f_X10_readsMatter
  simp only [bind_eta1, bind_eta2]
  have t0 := tl_0
  have t1 := tl_1
  have t60 := tl_60
  have t255 := tl_255
  obtain ⟨d1, d2, d3, d4, d5⟩ := hd
  have ei : w' 134 8 = w b 2 := d1.2.2.1.symm
  rw [ei]
  obtain ⟨j, ej⟩ : ∃ j : Nat, (w b 2).toNatClampNeg = j := ⟨_, rfl⟩
  have hj : (j : Int) = (w b 2).toInt := by rw [← ej]; exact i_clq d3.1.1
  refine rc_bind (rc_number h) (fun q1 r1 hq1 hr1 hN1 => ?_)
  have fl1 := fr_X7_readNumber _ _ _ q1 hq1
  have fr1 := fr_X10_readsNumber _ _ _ r1 hr1
  refine rcr_wr (fun _ => rcr_rd (fun _ => ?_))
  rw [ej, wu_at]
  rcases hN1 with ⟨a1, b1, c1, hG1⟩ | ⟨a1, hB1⟩
  · rw [if_neg (show ¬ r1.1 = -1 by rw [← a1]; exact ne_m1 (by omega))]
    have hG1' : GdR q1.2 (wu r1.2 136 j r1.1) p := gdr_of hG1 rfl (fun _ => rfl) (wu_ne (by omega)) (fun i => wu_ne (by omega)) rfl (wu_ne (by omega)) id
    refine rc_bind (rc_number hG1') (fun q2 r2 hq2 hr2 hN2 => ?_)
    have fl2 := fr_X7_readNumber _ _ _ q2 hq2
    have fr2 := fr_X10_readsNumber _ _ _ r2 hr2
    refine rcr_wr (fun _ => rcr_pw (rcr_rd (fun _ => ?_)))
    rw [ej]
    have e8 : wu r2.2 137 j r2.1 134 8 = w b 2 := by rw [wu_ne (by omega), fr2 134 8 (by omega), wu_ne (by omega), fr1 134 8 (by omega), ei]
    rw [e8]
    have ex : wu (wu r2.2 137 j r2.1) 134 8 (w b 2 + 1) 137 j = r2.1 := by rw [wu_ne (by omega), wu_at]
    rw [ex]
    rcases hN2 with ⟨a2, b2, c2, hG2⟩ | ⟨a2, hB2⟩
    · rw [if_neg (show ¬ r2.1 = -1 by rw [← a2]; exact ne_m1 (by omega))]
      have hG3 : GdR q2.2 (wu (wu r2.2 137 j r2.1) 134 8 (w b 2 + 1)) p := gdr_of hG2 rfl (fun _ => rfl) (by rw [wu_ne (by omega), wu_ne (by omega)]) (fun i => by rw [wu_ne (by omega), wu_ne (by omega)]) rfl (by rw [wu_ne (by omega), wu_ne (by omega)]) id
      refine rc_bind (rc_end hG3) (fun q3 r3 hq3 hr3 hE => ?_)
      have fl3 := fr_X7_readEnd _ q3 hq3
      have fr3 := fr_X10_readsSign _ _ r3 hr3
      rcases hE with ⟨e1, e2, hG4⟩ | ⟨e1, e2, hB4⟩
      · rw [if_neg (show ¬ q3.1 = 0 by rw [e1]; decide), if_neg (show ¬ r3.1 = 0 by rw [e2]; decide)]
        have L : ∀ k i, ¬ (k = 1 ∧ 2 ≤ i ∧ i ≤ 4) → q3.2 k i = w k i := by
          intro k i h3
          rw [fl3 k i h3, fl2 k i h3, fl1 k i h3]
        have R : ∀ k i, ¬ (k = 134 ∧ 2 ≤ i ∧ i ≤ 4) → ¬ (k = 134 ∧ i = 8) → ¬ (k = 136 ∧ i = j) → ¬ (k = 137 ∧ i = j) → r3.2 k i = w' k i := by
          intro k i h1 h2 h3 h4
          rw [fr3 k i (by omega), wu_ne h2, wu_ne h4, fr2 k i h1, wu_ne h3, fr1 k i h1]
        have Lb2 : q3.2 b 2 = w b 2 := L b 2 (by omega)
        intro u q hu hq
        cases hq
        have hu2 := pc_addM hb (by rw [Lb2]; omega) (by rw [Lb2]; omega) u hu
        rw [Lb2, ej] at hu2
        have ea : (w b 2 + 1).toInt = (w b 2).toInt + 1 := i_addk tl_1 (by omega) (by omega)
        have U : ∀ k i, ¬ (k = b ∧ i = 2) → ¬ (k = b + 1 ∧ i = j) → ¬ (k = b + 2 ∧ i = j) → u k i = q3.2 k i := by
          intro k i h1 h2 h3
          rw [hu2, wu_ne h1, wu_ne h3, wu_ne h2]
        have U2 : u b 2 = w b 2 + 1 := by rw [hu2, wu_at]
        have Um1 : u (b + 1) j = q1.1 := by rw [hu2, wu_ne (by omega), wu_ne (by omega), wu_at]
        have Um2 : u (b + 2) j = q2.1 := by rw [hu2, wu_ne (by omega), wu_at]
        have R8 : r3.2 134 8 = w b 2 + 1 := by rw [fr3 134 8 (by omega), wu_at]
        have Rm1 : r3.2 136 j = r1.1 := by rw [fr3 136 j (by omega), wu_ne (by omega), wu_ne (by omega), fr2 136 j (by omega), wu_at]
        have Rm2 : r3.2 137 j = r2.1 := by rw [fr3 137 j (by omega), wu_ne (by omega), wu_at]
        refine Or.inl ⟨rfl, ?_, ?_⟩
        · exact gdr_of hG4 (U 1 1 (by omega) (by omega) (by omega)) (fun i => U 2 i (by omega) (by omega) (by omega)) rfl (fun _ => rfl) (U 1 2 (by omega) (by omega) (by omega)) rfl (fun n => ⟨by rw [U 1 3 (by omega) (by omega) (by omega)]; exact n.1, by rw [U 1 4 (by omega) (by omega) (by omega)]; exact n.2⟩)
        · have V : ∀ k i, ¬ (k = b ∧ i = 2) → ¬ (k = b + 1 ∧ i = j) → ¬ (k = b + 2 ∧ i = j) → b ≤ k → u k i = w k i := fun k i h1 h2 h3 h4 => by rw [U k i h1 h2 h3, L k i (by omega)]
          refine ⟨⟨?_, ?_, ?_, ?_⟩, Or.inr ?_, ?_, fun i hi => ?_, fun i hi => ?_⟩
          · rw [V b 0 (by omega) (by omega) (by omega) (by omega)]
            show w b 0 = r3.2 134 6
            rw [R 134 6 (by omega) (by omega) (by omega) (by omega)]; exact d1.1
          · rw [V b 1 (by omega) (by omega) (by omega) (by omega)]
            show w b 1 = r3.2 134 7
            rw [R 134 7 (by omega) (by omega) (by omega) (by omega)]; exact d1.2.1
          · show u b 2 = r3.2 134 8
            rw [U2, R8]
          · rw [V b 3 (by omega) (by omega) (by omega) (by omega)]
            show w b 3 = r3.2 134 9
            rw [R 134 9 (by omega) (by omega) (by omega) (by omega)]; exact d1.2.2.2
          · rw [V b 0 (by omega) (by omega) (by omega) (by omega), V b 1 (by omega) (by omega) (by omega) (by omega)]
            rcases d2 with ⟨z0, _⟩ | z
            · rw [z0, t0] at ht; omega
            · exact z
          · rw [U2, V b 3 (by omega) (by omega) (by omega) (by omega), ea]
            omega
          · rw [U2, ea] at hi
            show (u (b + 1) i = r3.2 136 i ∧ u (b + 2) i = r3.2 137 i) ∧ _
            by_cases e : i = j
            · rw [e, Um1, Um2, Rm1, Rm2]
              exact ⟨⟨a1, a2⟩, by omega, by omega⟩
            · rw [V (b + 1) i (by omega) (by omega) (by omega) (by omega), V (b + 2) i (by omega) (by omega) (by omega) (by omega), R 136 i (by omega) (by omega) (by omega) (by omega), R 137 i (by omega) (by omega) (by omega) (by omega)]
              exact d4 i (by omega)
          · rw [V b 3 (by omega) (by omega) (by omega) (by omega)] at hi
            show (u (b + 3) i = r3.2 138 i ∧ u (b + 4) i = r3.2 139 i ∧ u (b + 5) i = r3.2 140 i) ∧ _
            rw [V (b + 3) i (by omega) (by omega) (by omega) (by omega), V (b + 4) i (by omega) (by omega) (by omega) (by omega), V (b + 5) i (by omega) (by omega) (by omega) (by omega), R 138 i (by omega) (by omega) (by omega) (by omega), R 139 i (by omega) (by omega) (by omega) (by omega), R 140 i (by omega) (by omega) (by omega) (by omega)]
            exact d5 i hi
      · rw [if_pos e1, if_pos e2]
        exact rc_some (Or.inr ⟨rfl, hB4⟩)
    · rw [if_pos a2]
      refine fun u q hu hq => ?_
      cases hq
      have hz := pc_tail0 hB2.2.1 u hu
      exact Or.inr ⟨rfl, bdr_of hB2 hz.1 hz.2 (by show wu (wu r2.2 137 j r2.1) 134 8 (w b 2 + 1) 134 4 = _; rw [wu_ne (by omega), wu_ne (by omega)]) (by show wu (wu r2.2 137 j r2.1) 134 8 (w b 2 + 1) 134 2 = _; rw [wu_ne (by omega), wu_ne (by omega)])⟩
  · rw [if_pos a1, sb]
    refine rcr_wr (fun _ => rcr_pw (rcr_rd (fun _ => ?_)))
    rw [ej]
    have ex : ∀ v : Int32, wu (wu (wu r1.2 136 j r1.1) 137 j (-1)) 134 8 v 137 j = -1 := fun v => by rw [wu_ne (by omega), wu_at]
    rw [ex, if_pos rfl]
    refine fun u q hu hq => ?_
    cases hq
    have hz := pc_tail1 hB1.2.1 u hu
    exact Or.inr ⟨rfl, bdr_of hB1 hz.1 hz.2 (by simp only [wu_ap]; rfl) (by simp only [wu_ap]; rfl)⟩
