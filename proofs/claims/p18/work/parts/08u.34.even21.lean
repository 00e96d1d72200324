/-! the rest -/
theorem sime_b {w w' u u' : Mem} (h : SimE w w') (hB : SimB u u') (hl : ∀ k i, (k = 0 ∧ (i = 8 ∨ i = 10)) ∨ (3 ≤ k ∧ k ≤ 97) ∨ (112 ≤ k ∧ k ≤ 117) ∨ (119 ≤ k ∧ k ≤ 124) ∨ (126 ≤ k ∧ k ≤ 133) → u k i = w k i) (hr : ∀ k i, (k = 134 ∧ 25 ≤ i ∧ i ≤ 28) ∨ (146 ≤ k ∧ k ≤ 147) ∨ (155 ≤ k ∧ k ≤ 156) → u' k i = w' k i) : SimE u u' := by
  obtain ⟨a, e, p, m, d⟩ := h
  have hb : brp (w 0 8) = 112 ∨ brp (w 0 8) = 119 := brp_or _
  have h6 : (w (brp (w 0 8)) 3).toInt ≤ 6 := a.2.1.2.2.1.2.2
  have e8 : u 0 8 = w 0 8 := hl 0 8 (by omega)
  refine ⟨hB, ?_, ?_, ?_, ?_⟩
  · rw [e8]
    exact evc_mv e h6 (fun j _ => hl _ j (by omega)) (fun j _ => hl _ j (by omega)) (fun j _ => hl _ j (by omega)) (fun j _ => hr _ _ (by omega)) (hl _ _ (by omega)) (hl _ _ (by omega)) (fun j _ => hl _ j (by omega))
  · rw [e8]
    exact pac_of p h6 (hl _ _ (by omega)) (hl _ _ (by omega)) (fun k i k1 k2 => hl k i (by omega)) (hr _ _ (by omega)) (hr _ _ (by omega)) (fun i => hr _ _ (by omega)) (hl _ _ (by omega)) (hl _ _ (by omega)) (fun j => hl _ j (by omega))
  · rw [e8]
    exact imc_of m h6 (fun k i k1 k2 => hl k i (by omega)) (fun i => hr _ _ (by omega)) (fun i => hr _ _ (by omega)) (hl _ _ (by omega)) (hl _ _ (by omega)) (fun j => hl _ j (by omega))
  · rw [hl 0 10 (by omega), hr 134 28 (by omega)]
    exact d
theorem rc_fav {b : Nat} {w w' : Mem} {t : Int32} (hB : BrC b w w') (ht : 0 ≤ t.toInt ∧ t.toInt < (w b 3).toInt) : Rc (fun x y => x = y) (f_X1_favouriteOf b t w) (f_X10_favourite t w') := by
  unfold f_X1_favouriteOf f_X10_favourite
  simp only [bind_eta1]
  have t0 := tl_0
  have b3 := hB.2.2.1
  have eM : w b 2 = w' 134 17 := hB.1.2.2.1
  rw [← eM]
  refine rc_lp (fun (s s2 : Int32 × Int32 × Int32) => s = s2 ∧ 0 ≤ s.2.2.toInt ∧ s.2.2.toInt ≤ 8) ?_ _ _ _ _ ⟨rfl, by show 0 ≤ (0 : Int32).toInt; omega, by show (0 : Int32).toInt ≤ 8; omega⟩
  intro s s2 hX
  obtain ⟨rfl, x1, x2⟩ := hX
  by_cases c : s.2.2 < w b 2
  · rw [if_pos c, if_pos c]
    rw [Int32.lt_iff_toInt_lt] at c
    have ea : (s.2.2 + 1).toInt = s.2.2.toInt + 1 := i_addk tl_1 (by omega) (by omega)
    refine rc_bind (rc_stayOf hB ht ⟨x1, c⟩) (fun p p2 _ hp2 hp => ?_)
    rw [← hp] at hp2
    rw [← hp]
    have again : Pc (fun r => r = p) (f_X10_stayOf t s.2.2 w') := fun r hr => by
      rw [hp2] at hr
      exact (Option.some.inj hr).symm
    by_cases c2 : s.2.1 < p
    · rw [if_pos c2, if_pos c2, sb, sb]
      refine rcr_bind again (fun r3 _ h3 => ?_)
      rw [h3, if_pos c2]
      refine rcr_bind again (fun r5 _ h5 => ?_)
      rw [h5]
      exact rc_some ⟨rfl, by show 0 ≤ (s.2.2 + 1).toInt; omega, by show (s.2.2 + 1).toInt ≤ 8; omega⟩
    · rw [if_neg c2, if_neg c2, sb, sb]
      refine rcr_bind again (fun r3 _ h3 => ?_)
      rw [h3, if_neg c2, sb]
      exact rc_some ⟨rfl, by show 0 ≤ (s.2.2 + 1).toInt; omega, by show (s.2.2 + 1).toInt ≤ 8; omega⟩
  · rw [if_neg c, if_neg c]
    exact rc_some rfl
theorem eq_traveller {w w' : Mem} {t k : Int32} (h : SimE w w') : Rc (fun x y => x = y) (f_X9_traveller t k w) (f_X10_traveller t k w') := by
  have hB := h.1.2.1
  have hE := h.2.1
  have b3 := hB.2.2.1
  have en : w (brp (w 0 8)) 3 = w' 134 18 := hB.1.2.2.2
  unfold f_X9_traveller f_X10_traveller
  simp only [bind_eta1]
  refine rcl_bind (pc_hasT b3.2.2) (fun r _ hr => ?_)
  refine rcr_bind (pc_isT (by rw [← en]; exact b3.2.1)) (fun r2 _ hr2 => ?_)
  rw [← en] at hr2
  rcases hr with ⟨r1, ht⟩ | ⟨r1, n⟩
  · rcases hr2 with ⟨s1, _⟩ | ⟨_, n⟩
    · rw [if_neg (show ¬ r = 0 by rw [r1]; decide), if_neg (show ¬ r2 = 0 by rw [s1]; decide)]
      obtain ⟨j, ej⟩ : ∃ j, t.toNatClampNeg = j := ⟨_, rfl⟩
      have hj := i_clq ht.1
      rw [ej] at hj
      have i7 : ((7 : Int32) + t).toNatClampNeg = 7 + j := by rw [ix (d := 7) tl_7' (by omega) ht.1 (by omega), ej]
      have i13 : ((13 : Int32) + t).toNatClampNeg = 13 + j := by rw [ix (d := 13) tl_13 (by omega) ht.1 (by omega), ej]
      have i19 : ((19 : Int32) + t).toNatClampNeg = 19 + j := by rw [ix (d := 19) tl_19 (by omega) ht.1 (by omega), ej]
      obtain ⟨⟨E3, E4, E5⟩, _, hh, _⟩ := hB.2.2.2.2 j (by omega)
      obtain ⟨⟨w1, w2⟩, w3⟩ := hE.2.2.2.2 j (by omega)
      have w1' : w 4 j = w' 146 (19 + j) := w1
      have w2' : w 5 j = w' 146 (13 + j) := w2
      by_cases k0 : k = 0
      · rw [if_pos k0, if_pos k0]
        refine rcl_rd (fun _ => rcr_rd (fun _ => rc_some ?_))
        rw [ej, E3]
      · rw [if_neg k0, if_neg k0]
        by_cases k1 : k = 1
        · rw [if_pos k1, if_pos k1]
          refine rcl_rd (fun _ => rcr_rd (fun _ => rc_some ?_))
          rw [ej, E4]
        · rw [if_neg k1, if_neg k1]
          by_cases k2 : k = 2
          · rw [if_pos k2, if_pos k2]
            refine rcl_rd (fun _ => rcr_rd (fun _ => rc_some ?_))
            rw [ej, E5]
          · rw [if_neg k2, if_neg k2]
            by_cases k3 : k = 3
            · rw [if_pos k3, if_pos k3]
              refine rcl_rd (fun _ => rcr_rd (fun _ => rc_some ?_))
              rw [ej, i13, w2']
            · rw [if_neg k3, if_neg k3]
              by_cases k4 : k = 4
              · rw [if_pos k4, if_pos k4]
                refine rcl_rd (fun _ => rcr_rd (fun _ => rc_some ?_))
                rw [ej, i19, w1']
              · rw [if_neg k4, if_neg k4]
                by_cases k5 : k = 5
                · rw [if_pos k5, if_pos k5]
                  unfold f_X3_patienceOf
                  refine rcl_bind (pc_hasT b3.2.2) (fun x _ hx => ?_)
                  rcases hx with ⟨x1, _⟩ | ⟨_, n⟩
                  · rw [if_neg (show ¬ x = 0 by rw [x1]; decide)]
                    refine rcl_bind (pc_holds ht.1 (by omega)) (fun y _ hy => rcr_rd (fun _ => ?_))
                    have hbj : hbI (w 3 7) t = bt (w 3 7) j := by unfold bt; rw [← ej, ← i_nat3 ht.1]
                    rw [hbj] at hy
                    rw [i7]
                    rcases w3 with ⟨z1, ⟨z2, _⟩, _⟩ | ⟨z1, ⟨z2, _⟩, _⟩ | ⟨z1, ⟨z2, _⟩, _⟩ | ⟨z1, ⟨z2, _⟩, _⟩
                    · rw [if_neg (show ¬ y = 0 by rw [hy, z2]; decide), if_pos z1]
                      refine rcl_bind (pc_most b3.2.2 ht (by rw [ej]; exact hh)) (fun m1 _ hm1 => rcr_bind (pc_limit ⟨ht.1, by omega⟩ (by rw [ej, ← E4]; exact hh)) (fun m2 _ hm2 => ?_))
                      have em : m1 = m2 := by
                        rw [i_eq_iff, hm1, hm2, ej]
                        unfold LimI LimR
                        rw [E4]
                      refine rcl_rd (fun _ => rcr_rd (fun _ => rc_some ?_))
                      rw [ej, i19, w1', em]
                    · rw [if_pos (show y = 0 by rw [hy, z2]), if_neg (by rw [z1]; decide)]
                      exact rc_some rfl
                    · rw [if_pos (show y = 0 by rw [hy, z2]), if_neg (by rw [z1]; decide)]
                      exact rc_some rfl
                    · rw [if_pos (show y = 0 by rw [hy, z2]), if_neg (by rw [z1]; decide)]
                      exact rc_some rfl
                  · exact absurd ht n
                · rw [if_neg k5, if_neg k5]
                  by_cases k6 : k = 6
                  · rw [if_pos k6, if_pos k6]
                    exact rc_fav hB ht
                  · rw [if_neg k6, if_neg k6]
                    exact rc_some rfl
    · exact absurd ht n
  · rcases hr2 with ⟨s1, ht⟩ | ⟨s1, _⟩
    · exact absurd ht n
    · rw [if_pos r1, if_pos s1]
      exact rc_some rfl
