/-! told: what nobody minds, who sat longest, all -/
theorem m1_bit {j : Nat} (hj : j < 32) : (-1 : Int32).toBitVec.getLsbD j = true := by
  have h : ∀ j : Fin 32, (-1 : Int32).toBitVec.getLsbD j.1 = true := by decide
  exact h ⟨j, hj⟩
theorem dm_key (o x : Int32) : (o ^^^ (-1 : Int32)) &&& (x ^^^ (-1 : Int32)) = (o ||| x) ^^^ (-1 : Int32) := by
  apply Int32.toBitVec_inj.mp
  apply BitVec.eq_of_getLsbD_eq
  intro j hj
  rw [Int32.toBitVec_and, Int32.toBitVec_xor, Int32.toBitVec_xor, Int32.toBitVec_xor, Int32.toBitVec_or, BitVec.getLsbD_and, BitVec.getLsbD_xor, BitVec.getLsbD_xor, BitVec.getLsbD_xor, BitVec.getLsbD_or, m1_bit hj]
  cases o.toBitVec.getLsbD j <;> cases x.toBitVec.getLsbD j <;> rfl
theorem dm_0 (a : Int32) : a &&& ((0 : Int32) ^^^ (-1 : Int32)) = a := by
  apply Int32.toBitVec_inj.mp
  apply BitVec.eq_of_getLsbD_eq
  intro j hj
  rw [show (0 : Int32) ^^^ (-1 : Int32) = -1 by decide, Int32.toBitVec_and, BitVec.getLsbD_and, m1_bit hj]
  cases a.toBitVec.getLsbD j <;> rfl
theorem rc_nob {b : Nat} {w w' : Mem} (hB : BrC b w w') : Rc (fun x y => x = y) (f_X1_nobodys b w) (f_X10_nobodys w') := by
  have t0 := tl_0
  have b3 := hB.2.2.1
  have en : w b 3 = w' 134 18 := hB.1.2.2.2
  have eM : w b 2 = w' 134 17 := hB.1.2.2.1
  unfold f_X1_nobodys f_X10_nobodys
  rw [← en, ← eM]
  refine rcr_lt (rc_bind (Q := fun (x y : Int32) => y = AllI (w b 2) &&& (x ^^^ (-1 : Int32))) (rc_lp (fun (s s2 : Int32 × Int32) => s.2 = s2.2 ∧ (0 ≤ s.2.toInt ∧ s.2.toInt ≤ (w b 3).toInt) ∧ s2.1 = AllI (w b 2) &&& (s.1 ^^^ (-1 : Int32))) ?_ _ _ _ _ ⟨rfl, by show 0 ≤ (0 : Int32).toInt ∧ (0 : Int32).toInt ≤ _; omega, (dm_0 _).symm⟩) (fun x y _ _ hxy => ?_))
  · intro s s2 hX
    obtain ⟨x1, x2, x3⟩ := hX
    rw [← x1]
    by_cases c : s.2 < w b 3
    · rw [if_pos c, if_pos c]
      rw [Int32.lt_iff_toInt_lt] at c
      have ea : (s.2 + 1).toInt = s.2.toInt + 1 := i_addk tl_1 (by omega) (by omega)
      obtain ⟨j, ej⟩ : ∃ j, s.2.toNatClampNeg = j := ⟨_, rfl⟩
      have hj := i_clq x2.1
      rw [ej] at hj
      obtain ⟨⟨_, _, E5⟩, _⟩ := hB.2.2.2.2 j (by omega)
      refine rcl_rd (fun _ => rcr_rd (fun _ => rcr_lt (rc_some ⟨rfl, by show 0 ≤ (s.2 + 1).toInt ∧ (s.2 + 1).toInt ≤ _; omega, ?_⟩)))
      show s2.1 &&& (w' 145 s.2.toNatClampNeg ^^^ (-1 : Int32)) = AllI (w b 2) &&& ((s.1 ||| w (b + 5) s.2.toNatClampNeg) ^^^ (-1 : Int32))
      rw [ej, E5, x3, Int32.and_assoc, dm_key]
    · rw [if_neg c, if_neg c]
      exact rc_some x3
  · refine rcl_bind (Q := fun r => r = AllI (w b 2)) (by unfold f_X9_setOfFirst; exact pc_some rfl) (fun r _ hr => rc_some ?_)
    rw [hr, hxy]
theorem rc_longest {b : Nat} {w w' : Mem} (hB : BrC b w w') (hE : EvC 3 (w' 146) b w) : Rc (fun x y => x = y) (f_X3_longestSat b w) (f_X10_longestSat w') := by
  have t0 := tl_0
  have b3 := hB.2.2.1
  have en : w b 3 = w' 134 18 := hB.1.2.2.2
  unfold f_X3_longestSat f_X10_longestSat
  simp only [bind_eta1]
  rw [← en]
  refine rc_lp (fun (s s2 : Int32 × Int32 × Int32) => s = s2 ∧ 0 ≤ s.2.2.toInt ∧ s.2.2.toInt ≤ (w b 3).toInt) ?_ _ _ _ _ ⟨rfl, by show 0 ≤ (0 : Int32).toInt; omega, by show (0 : Int32).toInt ≤ _; omega⟩
  intro s s2 hX
  obtain ⟨rfl, x1, x2⟩ := hX
  by_cases c : s.2.2 < w b 3
  · rw [if_pos c, if_pos c]
    rw [Int32.lt_iff_toInt_lt] at c
    have ea : (s.2.2 + 1).toInt = s.2.2.toInt + 1 := i_addk tl_1 (by omega) (by omega)
    obtain ⟨j, ej⟩ : ∃ j, s.2.2.toNatClampNeg = j := ⟨_, rfl⟩
    have hj := i_clq x1
    rw [ej] at hj
    have i13 : ((13 : Int32) + s.2.2).toNatClampNeg = 13 + j := by rw [ix (d := 13) tl_13 (by omega) x1 (by omega), ej]
    have es : w 5 j = w' 146 (13 + j) := (hE.2.2.2.2 j (by omega)).1.2
    refine rcl_rd (fun _ => rcr_rd (fun _ => ?_))
    rw [ej, i13, es]
    by_cases d : s.2.1 < w' 146 (13 + j)
    · rw [if_pos d, if_pos d, sb]
      refine rcr_rd (fun _ => ?_)
      rw [i13, if_pos d]
      refine rcl_bind (Q := fun v => v = (s.2.2, w' 146 (13 + j))) (pc_rd (fun _ => pc_some (by rw [ej, es]))) (fun v _ hv => ?_)
      refine rcr_bind (Q := fun v => v = w' 146 (13 + j)) (pc_rd (fun _ => pc_some (by rw [i13]))) (fun v2 _ hv2 => rc_some ⟨?_, by show 0 ≤ (s.2.2 + 1).toInt; omega, by show (s.2.2 + 1).toInt ≤ _; omega⟩)
      rw [hv, hv2]
    · rw [if_neg d, if_neg d, sb, sb]
      refine rcr_rd (fun _ => ?_)
      rw [i13, if_neg d, sb]
      exact rc_some ⟨rfl, by show 0 ≤ (s.2.2 + 1).toInt; omega, by show (s.2.2 + 1).toInt ≤ _; omega⟩
  · rw [if_neg c, if_neg c]
    exact rc_some rfl

theorem te_5 (w : Mem) : f_X9_toldOfEvening 5 w = some (w 3 0) := rfl
theorem te_6 (w : Mem) : f_X9_toldOfEvening 6 w = some (w 3 1) := rfl
theorem te_7 (w : Mem) : f_X9_toldOfEvening 7 w = some (w 3 2) := rfl
theorem te_8 (w : Mem) : f_X9_toldOfEvening 8 w = some (w 3 3) := rfl
theorem te_9 (w : Mem) : f_X9_toldOfEvening 9 w = some (w 3 4) := rfl
theorem te_10 (w : Mem) : f_X9_toldOfEvening 10 w = some (w 3 5) := rfl
theorem te_11 (w : Mem) : f_X9_toldOfEvening 11 w = some (w 3 6) := rfl
theorem te_12 (w : Mem) : f_X9_toldOfEvening 12 w = some (w 3 7) := rfl
theorem te_13 (w : Mem) : f_X9_toldOfEvening 13 w = some (w 3 8) := rfl
theorem te_14 (w : Mem) : f_X9_toldOfEvening 14 w = some (w 3 9) := rfl
theorem rc_told {w w' : Mem} {k : Int32} (h : SimE w w') (hG : BgP (brp (w 0 8)) w) (h100 : w 100 0 = 0) (hd : DefS (brp (w 0 8)) w w') : Rc (fun q q2 => q.1 = q2.1 ∧ q.2 100 0 = 0) (f_X9_told k w) (f_X10_told k w') := by
  have hB := h.1.2.1
  have hE := h.2.1
  have hb : brp (w 0 8) = 112 ∨ brp (w 0 8) = 119 := brp_or _
  obtain ⟨b, eb⟩ : ∃ b, b = brp (w 0 8) := ⟨_, rfl⟩
  rw [← eb] at hB hE hG hd hb
  have b3 := hB.2.2.1
  have en : w b 3 = w' 134 18 := hB.1.2.2.2
  have hn8 : 0 ≤ (w' 134 18).toInt ∧ (w' 134 18).toInt ≤ 6 := by rw [← en]; exact b3.2
  have enn : (w' 134 18).toInt = ((w b 3).toInt.toNat : Nat) := by rw [← en]; omega
  unfold f_X9_told f_X10_told
  simp only [bind_eta2]
  rw [← eb]
  by_cases k0 : k = 0
  · rw [if_pos k0, if_pos k0]
    exact rc_some ⟨hB.1.1, h100⟩
  · rw [if_neg k0, if_neg k0]
    by_cases k1 : k = 1
    · rw [if_pos k1, if_pos k1]
      exact rc_some ⟨hB.1.2.1, h100⟩
    · rw [if_neg k1, if_neg k1]
      by_cases k2 : k = 2
      · rw [if_pos k2, if_pos k2]
        exact rc_some ⟨hB.1.2.2.1, h100⟩
      · rw [if_neg k2, if_neg k2]
        by_cases k3 : k = 3
        · rw [if_pos k3, if_pos k3]
          exact rc_some ⟨en, h100⟩
        · rw [if_neg k3, if_neg k3]
          by_cases k4 : k = 4
          · rw [if_pos k4, if_pos k4]
            exact rc_some ⟨h.1.1.1, h100⟩
          · rw [if_neg k4, if_neg k4]
            by_cases k5 : k = 5
            · rw [if_pos k5, if_pos k5]
              rw [k5, te_5, sb]
              refine rcr_rd (fun _ => rc_some ⟨?_, h100⟩)
              rw [cl_0]
              exact hE.1.1
            · rw [if_neg k5, if_neg k5]
              by_cases k6 : k = 6
              · rw [if_pos k6, if_pos k6]
                rw [k6, te_6, sb]
                refine rcr_rd (fun _ => rc_some ⟨?_, h100⟩)
                rw [cl_1]
                exact hE.1.2.1
              · rw [if_neg k6, if_neg k6]
                by_cases k7 : k = 7
                · rw [if_pos k7, if_pos k7]
                  rw [k7, te_7, sb]
                  refine rcr_rd (fun _ => rc_some ⟨?_, h100⟩)
                  rw [cl_2]
                  exact hE.1.2.2.1
                · rw [if_neg k7, if_neg k7]
                  by_cases k8 : k = 8
                  · rw [if_pos k8, if_pos k8]
                    rw [k8, te_8, sb]
                    refine rcr_rd (fun _ => rc_some ⟨?_, h100⟩)
                    rw [cl_3]
                    exact hE.1.2.2.2.1
                  · rw [if_neg k8, if_neg k8]
                    by_cases k9 : k = 9
                    · rw [if_pos k9, if_pos k9]
                      rw [k9, te_9, sb]
                      refine rcr_rd (fun _ => rc_some ⟨?_, h100⟩)
                      rw [cl_4]
                      exact hE.1.2.2.2.2.1
                    · rw [if_neg k9, if_neg k9]
                      by_cases k10 : k = 10
                      · rw [if_pos k10, if_pos k10]
                        rw [k10, te_10, sb]
                        refine rcr_rd (fun _ => rc_some ⟨?_, h100⟩)
                        rw [cl_5]
                        exact hE.1.2.2.2.2.2.1
                      · rw [if_neg k10, if_neg k10]
                        by_cases k11 : k = 11
                        · rw [if_pos k11, if_pos k11]
                          rw [k11, te_11, sb]
                          refine rcr_rd (fun _ => rc_some ⟨?_, h100⟩)
                          rw [cl_6]
                          exact hE.1.2.2.2.2.2.2
                        · rw [if_neg k11, if_neg k11]
                          by_cases k12 : k = 12
                          · rw [if_pos k12, if_pos k12]
                            rw [k12, te_12, sb]
                            refine rcr_bind (pc_are hn8) (fun r _ hr => rc_some ⟨?_, h100⟩)
                            refine eq_are (n := (w b 3).toInt.toNat) (by omega) enn hE.2.2.2.1.1 (fun t ht => ?_) hr
                            obtain ⟨_, g⟩ := hE.2.2.2.2 t (by omega)
                            rcases g with ⟨z1, ⟨z2, z3, z4⟩, _⟩ | ⟨z1, ⟨z2, z3, z4⟩, _⟩ | ⟨z1, ⟨z2, z3, z4⟩, _⟩ | ⟨z1, ⟨z2, z3, z4⟩, _⟩
                            · exact ⟨fun _ => z1, fun _ => z2⟩
                            · exact ⟨fun q => absurd (z2.symm.trans q) (by decide), fun q => absurd (z1.symm.trans q) (by decide)⟩
                            · exact ⟨fun q => absurd (z2.symm.trans q) (by decide), fun q => absurd (z1.symm.trans q) (by decide)⟩
                            · exact ⟨fun q => absurd (z2.symm.trans q) (by decide), fun q => absurd (z1.symm.trans q) (by decide)⟩
                          · rw [if_neg k12, if_neg k12]
                            by_cases k13 : k = 13
                            · rw [if_pos k13, if_pos k13]
                              rw [k13, te_13, sb]
                              refine rcr_bind (pc_are hn8) (fun r _ hr => rc_some ⟨?_, h100⟩)
                              refine eq_are (n := (w b 3).toInt.toNat) (by omega) enn hE.2.2.2.1.2.1 (fun t ht => ?_) hr
                              obtain ⟨_, g⟩ := hE.2.2.2.2 t (by omega)
                              rcases g with ⟨z1, ⟨z2, z3, z4⟩, _⟩ | ⟨z1, ⟨z2, z3, z4⟩, _⟩ | ⟨z1, ⟨z2, z3, z4⟩, _⟩ | ⟨z1, ⟨z2, z3, z4⟩, _⟩
                              · exact ⟨fun q => absurd (z3.symm.trans q) (by decide), fun q => absurd (z1.symm.trans q) (by decide)⟩
                              · exact ⟨fun q => absurd (z3.symm.trans q) (by decide), fun q => absurd (z1.symm.trans q) (by decide)⟩
                              · exact ⟨fun _ => z1, fun _ => z3⟩
                              · exact ⟨fun q => absurd (z3.symm.trans q) (by decide), fun q => absurd (z1.symm.trans q) (by decide)⟩
                            · rw [if_neg k13, if_neg k13]
                              by_cases k14 : k = 14
                              · rw [if_pos k14, if_pos k14]
                                rw [k14, te_14, sb]
                                refine rcr_bind (pc_are hn8) (fun r _ hr => rc_some ⟨?_, h100⟩)
                                refine eq_are (n := (w b 3).toInt.toNat) (by omega) enn hE.2.2.2.1.2.2 (fun t ht => ?_) hr
                                obtain ⟨_, g⟩ := hE.2.2.2.2 t (by omega)
                                rcases g with ⟨z1, ⟨z2, z3, z4⟩, _⟩ | ⟨z1, ⟨z2, z3, z4⟩, _⟩ | ⟨z1, ⟨z2, z3, z4⟩, _⟩ | ⟨z1, ⟨z2, z3, z4⟩, _⟩
                                · exact ⟨fun q => absurd (z4.symm.trans q) (by decide), fun q => absurd (z1.symm.trans q) (by decide)⟩
                                · exact ⟨fun q => absurd (z4.symm.trans q) (by decide), fun q => absurd (z1.symm.trans q) (by decide)⟩
                                · exact ⟨fun q => absurd (z4.symm.trans q) (by decide), fun q => absurd (z1.symm.trans q) (by decide)⟩
                                · exact ⟨fun _ => z1, fun _ => z4⟩
                              · rw [if_neg k14, if_neg k14]
                                by_cases k15 : k = 15
                                · rw [if_pos k15, if_pos k15]
                                  exact rc_bind (rc_nob hB) (fun x y _ _ hxy => rc_some ⟨hxy, h100⟩)
                                · rw [if_neg k15, if_neg k15]
                                  by_cases k16 : k = 16
                                  · rw [if_pos k16, if_pos k16]
                                    exact rc_bind (rc_longest hB hE) (fun x y _ _ hxy => rc_some ⟨hxy, h100⟩)
                                  · rw [if_neg k16, if_neg k16]
                                    by_cases k17 : k = 17
                                    · rw [if_pos k17, if_pos k17]
                                      exact rc_best hb hB hE hG h100 hd
                                    · rw [if_neg k17, if_neg k17]
                                      by_cases k18 : k = 18
                                      · rw [if_pos k18, if_pos k18]
                                        exact rc_some ⟨h.1.2.2.2.2.1.1.1, h100⟩
                                      · rw [if_neg k18, if_neg k18]
                                        by_cases k19 : k = 19
                                        · rw [if_pos k19, if_pos k19]
                                          exact rc_some ⟨h.1.2.2.2.2.1.2.1, h100⟩
                                        · rw [if_neg k19, if_neg k19]
                                          by_cases k20 : k = 20
                                          · rw [if_pos k20, if_pos k20]
                                            exact rc_some ⟨h.2.2.1.1.1, h100⟩
                                          · rw [if_neg k20, if_neg k20]
                                            unfold f_X9_toldOfEvening
                                            rw [if_neg k5, if_neg k6, if_neg k7, if_neg k8, if_neg k9, if_neg k10, if_neg k11, if_neg k12, if_neg k13, if_neg k14, sb]
                                            exact rc_some ⟨rfl, h100⟩
