theorem sub_le {S K : Nat} (h : S &&& K = S) : S ≤ K := by
  have h2 : S &&& K ≤ K := Nat.and_le_right
  omega
theorem bu_mv {L : Nat → Nat} {K S j : Nat} {z z2 : Int32} (h : BuR L K z S j) (e : z2 = z) : BuR L K z2 S j := by rw [e]; exact h
theorem pc_layTalks {w' : Mem} {L : Nat → Nat} {K : Int32} (hM : 0 ≤ (w' 134 17).toInt ∧ (w' 134 17).toInt ≤ 8) (hL : ∀ a : Nat, (a : Int) < (w' 134 17).toInt → (0 ≤ (w' 142 a).toInt ∧ (w' 142 a).toInt ≤ 255) ∧ L a = (w' 142 a).toNatClampNeg) (hK : 0 ≤ K.toInt ∧ K.toInt < (2 ^ (w' 134 17).toInt.toNat : Nat)) : Pc (fun v => (∀ k i, ¬ k = 148 → v k i = w' k i) ∧ ∀ S : Nat, 1 ≤ S → S < 256 → ∀ j : Nat, j < 8 → BuR L K.toNatClampNeg (v 148 (8 * S + j)) S j) (f_X10_layTalks K w') := by
  have t0 := tl_0
  have t1 := tl_1
  have t256 := tl_256
  have p8 : 2 ^ (w' 134 17).toInt.toNat ≤ 2 ^ 8 := Nat.pow_le_pow_right (by decide) (by omega)
  have hKn := i_clq hK.1
  obtain ⟨Kn, eK⟩ : ∃ Kn, K.toNatClampNeg = Kn := ⟨_, rfl⟩
  rw [eK] at hKn ⊢
  unfold f_X10_layTalks
  simp only [bind_eta1]
  refine pc_bind (pc_zero148 _) (fun v2 _ h2 => ?_)
  refine pc_lp (fun (s : Int32 × Mem) => (1 ≤ s.1.toInt ∧ s.1.toInt ≤ 256) ∧ (∀ k i, ¬ k = 148 → s.2 k i = w' k i) ∧ (∀ S : Nat, 1 ≤ S → (S : Int) < s.1.toInt → ∀ j : Nat, j < 8 → BuR L Kn (s.2 148 (8 * S + j)) S j) ∧ (∀ S : Nat, s.1.toInt ≤ (S : Int) → S < 256 → ∀ j : Nat, j < 8 → s.2 148 (8 * S + j) = 0)) ?_ _ _ ?_
  · intro s hX
    obtain ⟨x1, x2, x3, x4⟩ := hX
    refine pc_ite (fun c => ?_) (fun c => pc_some ?_)
    · rw [Int32.lt_iff_toInt_lt, t256] at c
      have ea : (s.1 + 1).toInt = s.1.toInt + 1 := i_addk tl_1 (by omega) (by omega)
      obtain ⟨S, eS⟩ : ∃ S, s.1.toNatClampNeg = S := ⟨_, rfl⟩
      have hc := i_clq (i := s.1) (by omega)
      rw [eS] at hc
      have sz := sub_z (S := s.1) (K := K) (by omega) (by omega) hK.1 (by omega)
      rw [eS, eK] at sz
      refine pc_bind (Q := fun v => (∀ k i, ¬ k = 148 → v k i = w' k i) ∧ (∀ R : Nat, 1 ≤ R → R < S + 1 → ∀ j : Nat, j < 8 → BuR L Kn (v 148 (8 * R + j)) R j) ∧ (∀ R : Nat, S < R → R < 256 → ∀ j : Nat, j < 8 → v 148 (8 * R + j) = 0)) ?_ (fun v _ hv => pc_some ⟨?_, hv.1, fun R hR hR2 => ?_, fun R hR hR2 => ?_⟩)
      · refine pc_lp (fun (q : Int32 × Mem) => (0 ≤ q.1.toInt ∧ q.1.toInt ≤ (w' 134 17).toInt) ∧ (∀ k i, ¬ k = 148 → q.2 k i = w' k i) ∧ (∀ R : Nat, 1 ≤ R → R < S → ∀ j : Nat, j < 8 → BuR L Kn (q.2 148 (8 * R + j)) R j) ∧ (∀ R : Nat, S < R → R < 256 → ∀ j : Nat, j < 8 → q.2 148 (8 * R + j) = 0) ∧ (∀ j : Nat, (j : Int) < q.1.toInt → BuR L Kn (q.2 148 (8 * S + j)) S j) ∧ (∀ j : Nat, q.1.toInt ≤ (j : Int) → j < 8 → q.2 148 (8 * S + j) = 0)) ?_ _ _ ?_
        · intro q hq
          obtain ⟨y1, y2, y3, y4, y5, y6⟩ := hq
          have hEx : (¬ (S &&& Kn = S) ∨ (w' 134 17).toInt ≤ q.1.toInt) → (∀ k i, ¬ k = 148 → q.2 k i = w' k i) ∧ (∀ R : Nat, 1 ≤ R → R < S + 1 → ∀ j : Nat, j < 8 → BuR L Kn (q.2 148 (8 * R + j)) R j) ∧ (∀ R : Nat, S < R → R < 256 → ∀ j : Nat, j < 8 → q.2 148 (8 * R + j) = 0) := by
            intro hor
            refine ⟨y2, fun R hR hR2 j hj => ?_, y4⟩
            by_cases e : R = S
            · rw [e]
              by_cases cj : (j : Int) < q.1.toInt
              · exact y5 j cj
              · refine bur_0 (y6 j (by omega) hj) (fun a h => ?_)
                rcases hor with hor | hor
                · exact hor h.1
                · have h1 := sub_le h.1
                  have h3 := tb_lt (S := S) (M := (w' 134 17).toInt.toNat) (a := j) (by omega) (beu_step.mp h.2).2.1
                  omega
            · exact y3 R hR (by omega) j hj
          have m17 : q.2 134 17 = w' 134 17 := y2 134 17 (by omega)
          rw [m17]
          refine pc_ite (fun cq => ?_) (fun cq => ?_)
          · rw [Int32.lt_iff_toInt_lt] at cq
            refine pc_ite (fun z => ?_) (fun z => ?_)
            · have hsub := sz.mp z
              have eq1 : (q.1 + 1).toInt = q.1.toInt + 1 := i_addk tl_1 (by omega) (by omega)
              obtain ⟨j, ej⟩ : ∃ j, q.1.toNatClampNeg = j := ⟨_, rfl⟩
              have hj := i_clq y1.1
              rw [ej] at hj
              have hbt := hb_tb (x := s.1) (m := q.1) (by omega) (by omega) y1.1 (by omega)
              rw [eS, ej] at hbt
              refine pc_bind pc_has (fun r3 _ h3 => ?_)
              rw [hbt] at h3
              refine pc_bind (Q := fun v4 => (∀ k i, ¬ (k = 148 ∧ i = 8 * S + j) → v4 k i = q.2 k i) ∧ BuR L Kn (v4 148 (8 * S + j)) S j) ?_ (fun v4 _ h4 => pc_some ⟨?_, fun k i hk => ?_, fun R hR hR2 i hi => ?_, fun R hR hR2 i hi => ?_, fun i hi => ?_, fun i hi hi2 => ?_⟩)
              · by_cases hb : S.testBit j = true
                · rw [if_pos hb] at h3
                  rw [if_neg (show ¬ r3 = 0 by rw [h3]; decide)]
                  have cv := cl_val (S := s.1) (a := q.1) (by omega) (by omega) y1.1 (by omega) (by rw [eS, ej]; exact hb)
                  rw [eS, ej] at cv
                  obtain ⟨T, eT⟩ : ∃ T, clrB s.1 q.1 = T := ⟨_, rfl⟩
                  have eT' : (s.1 &&& (((1 : Int32) <<< (q.1 &&& 31)) ^^^ (-1 : Int32))) = T := eT
                  rw [eT']
                  rw [eT] at cv
                  have hz := cN_0 cv.2.1
                  have hpos := Nat.two_pow_pos j
                  have hsK := sub_le hsub
                  refine pc_lt (pc_bind (Q := fun v6 => v6 = if T.toNatClampNeg = 0 then (1 : Int32) <<< (q.1 &&& 31) else 0) ?_ (fun v6 _ h6 => ?_))
                  · by_cases zT : T = 0
                    · rw [if_pos zT, if_pos (hz.mp zT)]
                      exact pc_some rfl
                    · rw [if_neg zT, if_neg (fun h => zT (hz.mpr h))]
                      exact pc_some rfl
                  · rw [← m17]
                    refine pc_bind (pc_from (L := L) (K := Kn) (by rw [m17]; exact hM) (fun a ha => ?_) ⟨cv.2.1, by rw [m17]; omega⟩ ⟨y1.1, by rw [m17]; exact cq⟩ (by rw [cv.1]; exact sub_cl (by omega) (by omega) hb hsub) h6 (fun d hd hd2 => ?_) _) (fun v12 _ h12 => pc_wr (fun _ => pc_some ⟨fun k i hk => ?_, ?_⟩))
                    · rw [m17] at ha
                      rw [y2 142 a (by omega)]
                      exact hL a ha
                    · rw [cv.1] at hd2 ⊢
                      exact y3 (S - 2 ^ j) (by omega) (by omega) d hd
                    · rw [ix8 (by omega) (by omega) y1.1 (by omega), eS, ej, wu_ne hk]
                    · rw [ix8 (by omega) (by omega) y1.1 (by omega), eS, ej, wu_at]
                      refine ⟨h12.1, fun a ha => ?_⟩
                      rw [h12.2 a ha, cv.1, ej]
                      constructor
                      · exact fun h => ⟨hsub, beu_step.mpr ⟨by omega, hb, h⟩⟩
                      · exact fun h => (beu_step.mp h.2).2.2
                · rw [if_neg hb] at h3
                  rw [if_pos h3]
                  exact pc_some ⟨fun k i _ => rfl, bur_0 (y6 j (by omega) (by omega)) (fun a h => hb (beu_step.mp h.2).2.1)⟩
              · show 0 ≤ (q.1 + 1).toInt ∧ (q.1 + 1).toInt ≤ _
                omega
              · show v4 k i = w' k i
                rw [h4.1 k i (by omega)]
                exact y2 k i hk
              · exact bu_mv (y3 R hR hR2 i hi) (h4.1 148 (8 * R + i) (by omega))
              · show v4 148 (8 * R + i) = 0
                rw [h4.1 148 (8 * R + i) (by omega)]
                exact y4 R hR hR2 i hi
              · have hi3 : (i : Int) < (q.1 + 1).toInt := hi
                show BuR L Kn (v4 148 (8 * S + i)) S i
                by_cases e : i = j
                · rw [e]; exact h4.2
                · exact bu_mv (y5 i (by omega)) (h4.1 148 (8 * S + i) (by omega))
              · have hi3 : (q.1 + 1).toInt ≤ (i : Int) := hi
                show v4 148 (8 * S + i) = 0
                rw [h4.1 148 (8 * S + i) (by omega)]
                exact y6 i (by omega) hi2
            · exact pc_some (hEx (Or.inl (fun h => z (sz.mpr h))))
          · rw [Int32.lt_iff_toInt_lt] at cq
            exact pc_some (hEx (Or.inr (by omega)))
        · refine ⟨by show 0 ≤ (0 : Int32).toInt ∧ (0 : Int32).toInt ≤ _; omega, x2, fun R hR hR2 => x3 R hR (by omega), fun R hR hR2 => x4 R (by omega) hR2, fun i hi => ?_, fun i hi hi2 => x4 S (by omega) (by omega) i hi2⟩
          have hi3 : (i : Int) < (0 : Int32).toInt := hi
          omega
      · show 1 ≤ (s.1 + 1).toInt ∧ (s.1 + 1).toInt ≤ 256
        omega
      · have hR3 : (R : Int) < (s.1 + 1).toInt := hR2
        exact hv.2.1 R hR (by omega)
      · have hR3 : (s.1 + 1).toInt ≤ (R : Int) := hR
        exact hv.2.2 R (by omega) hR2
    · rw [Int32.lt_iff_toInt_lt, t256] at c
      exact ⟨x2, fun S hS hS2 => x3 S hS (by omega)⟩
  · refine ⟨by show 1 ≤ (1 : Int32).toInt ∧ (1 : Int32).toInt ≤ 256; omega, h2.1, fun S hS hS2 => ?_, fun S _ hS2 j hj => h2.2 (8 * S + j) (by omega)⟩
    have hS3 : (S : Int) < (1 : Int32).toInt := hS2
    omega
