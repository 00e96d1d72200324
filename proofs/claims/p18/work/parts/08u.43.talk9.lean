/-! told -/
theorem dep_stay {b : Nat} {u w : Mem} (t k : Int32) (h : ∀ j, b ≤ j → j ≤ b + 5 → u j = w j) : f_X1_stayOf b t k u = f_X1_stayOf b t k w := by
  unfold f_X1_stayOf f_X1_hasTraveller f_X1_hasMatter
  simp only [h b (by omega) (by omega), h (b + 1) (by omega) (by omega), h (b + 2) (by omega) (by omega), h (b + 3) (by omega) (by omega), h (b + 4) (by omega) (by omega), h (b + 5) (by omega) (by omega)]
theorem dep_stayR {u w : Mem} (t k : Int32) (h : ∀ j, 141 ≤ j → j ≤ 145 → u j = w j) : f_X10_stayOf t k u = f_X10_stayOf t k w := by
  unfold f_X10_stayOf
  simp only [h 141 (by omega) (by omega), h 142 (by omega) (by omega), h 143 (by omega) (by omega), h 144 (by omega) (by omega), h 145 (by omega) (by omega)]
def TkF (w w' u u' : Mem) : Prop := (∀ k i, ¬ (k = 100 ∨ (k = 99 ∧ 1 ≤ i ∧ i ≤ 3)) → u k i = w k i) ∧ (∀ k i, ¬ (k = 148 ∨ (k = 134 ∧ 30 ≤ i ∧ i ≤ 32)) → u' k i = w' k i) ∧ u 100 0 = 0
theorem tkf_all {b : Nat} (hb : BrO b) {w w' u u' : Mem} (h : TkF w w' u u') (hB : BrC b w w') (hG : BgP b w) (hd : DefS b w w') : BrC b u u' ∧ BgP b u ∧ DefS b u u' := by
  have hbb : b = 112 ∨ b = 119 := hb
  obtain ⟨h1, h2, _⟩ := h
  refine ⟨brc_of hB (fun k i k1 k2 => h1 k i (by omega)) (h2 134 15 (by omega)) (h2 134 16 (by omega)) (h2 134 17 (by omega)) (h2 134 18 (by omega)) (fun k i k1 k2 => h2 k i (by omega)), bgp_of hG (h1 _ _ (by omega)) (fun i => h1 _ _ (by omega)) (fun i => h1 _ _ (by omega)), ?_⟩
  exact defs_of hd (h1 _ _ (by omega)) (h1 _ _ (by omega)) (fun t k => dep_stay t k (fun j j1 j2 => funext (fun i => h1 j i (by omega)))) (fun t k => dep_stayR t k (fun j j1 j2 => funext (fun i => h2 j i (by omega))))
theorem rc_worth {b : Nat} (hb : BrO b) {w w' : Mem} {K : Int32} (hB : BrC b w w') (hG : BgP b w) (h100 : w 100 0 = 0) (hK : 0 ≤ K.toInt ∧ K.toInt < (2 ^ (w b 2).toInt.toNat : Nat)) (hd : DefS b w w') : Rc (fun q q2 => q.1 = q2.1 ∧ TkF w w' q.2 q2.2) (f_X8_worthOfAll b K w) (f_X10_worthOfAll K w') := by
  have hbb : b = 112 ∨ b = 119 := hb
  have t0 := tl_0
  have b3 := hB.2.2.1
  unfold f_X8_worthOfAll f_X10_worthOfAll
  simp only [bind_eta2]
  refine rc_lp (fun (s s2 : Int32 × Int32 × Mem) => (s.1 = s2.1 ∧ s.2.1 = s2.2.1) ∧ (0 ≤ s.2.1.toInt ∧ s.2.1.toInt ≤ (w b 3).toInt) ∧ TkF w w' s.2.2 s2.2.2) ?_ _ _ _ _ ⟨⟨rfl, rfl⟩, by show 0 ≤ (0 : Int32).toInt ∧ (0 : Int32).toInt ≤ _; omega, fun k i _ => rfl, fun k i _ => rfl, h100⟩
  intro s s2 hX
  obtain ⟨⟨x1, x2⟩, x3, x4⟩ := hX
  obtain ⟨hB2, hG2, hd2⟩ := tkf_all hb x4 hB hG hd
  have en : s.2.2 b 3 = s2.2.2 134 18 := hB2.1.2.2.2
  have e3 : s.2.2 b 3 = w b 3 := x4.1 b 3 (by omega)
  have e2 : s.2.2 b 2 = w b 2 := x4.1 b 2 (by omega)
  rw [← x2, ← en, e3]
  by_cases c : s.2.1 < w b 3
  · rw [if_pos c, if_pos c]
    rw [Int32.lt_iff_toInt_lt] at c
    have ea : (s.2.1 + 1).toInt = s.2.1.toInt + 1 := i_addk tl_1 (by omega) (by omega)
    refine rc_bind (rc_tryT hb hB2 hG2 x4.2.2 ⟨x3.1, by rw [e3]; exact c⟩ (by rw [e2]; exact hK) hd2) (fun v v' hv hv' hQ => ?_)
    obtain ⟨⟨e1, _, _⟩, e4, _⟩ := hQ
    have fl := fr_X8_tryWith b hb s.2.1 K s.2.2 v hv
    have fr := fr_X10_layTalk s.2.1 K s2.2.2 v' hv'
    have hF : TkF w w' v v' := ⟨fun k i h => by rw [fl k i h, x4.1 k i h], fun k i h => by rw [fr k i h, x4.2.1 k i h], e4⟩
    have hq : 1 ≤ (w b 0).toInt := by
      rcases hB.2.1 with ⟨_, _, _, z⟩ | z
      · rw [z, t0] at c; omega
      · exact z.1.1
    refine rcl_bind (pc_cpay (by rw [hF.1 b 0 (by omega)]; exact hq)) (fun x _ hx => rcr_bind pc_rpay (fun y _ hy => rc_some ⟨⟨?_, rfl⟩, by show 0 ≤ (s.2.1 + 1).toInt ∧ (s.2.1 + 1).toInt ≤ _; omega, hF⟩))
    show s.1 + x = s2.1 + y
    rw [x1, hx, hy, hF.1 b 0 (by omega), hF.1 b 1 (by omega), hF.2.1 134 15 (by omega), hF.2.1 134 16 (by omega), hB.1.1, hB.1.2.1, e1]
  · rw [if_neg c, if_neg c]
    exact rc_some ⟨x1, x4⟩
theorem rc_best {b : Nat} (hb : BrO b) {w w' : Mem} (hB : BrC b w w') (hE : EvC 3 (w' 146) b w) (hG : BgP b w) (h100 : w 100 0 = 0) (hd : DefS b w w') : Rc (fun q q2 => q.1 = q2.1 ∧ q.2 100 0 = 0) (f_X8_bestToLearn b (w 3 3) w) (f_X10_bestToLearn w') := by
  have hbb : b = 112 ∨ b = 119 := hb
  have t0 := tl_0
  have b3 := hB.2.2.1
  have eK : w 3 3 = w' 146 3 := hE.1.2.2.2.1
  have hK : 0 ≤ (w 3 3).toInt ∧ (w 3 3).toInt < (2 ^ (w b 2).toInt.toNat : Nat) := by rw [eK]; exact hE.2.1.2.2.1
  obtain ⟨K, eKK⟩ : ∃ K, K = w 3 3 := ⟨_, rfl⟩
  rw [← eKK] at eK hK ⊢
  unfold f_X8_bestToLearn f_X10_bestToLearn
  simp only [bind_eta2]
  refine rc_lp (fun (s s2 : Int32 × Int32 × Int32 × Mem) => (s.1 = s2.1 ∧ s.2.1 = s2.2.1 ∧ s.2.2.1 = s2.2.2.1) ∧ (0 ≤ s.2.2.1.toInt ∧ s.2.2.1.toInt ≤ (w b 2).toInt) ∧ TkF w w' s.2.2.2 s2.2.2.2) ?_ _ _ _ _ ⟨⟨rfl, rfl, rfl⟩, by show 0 ≤ (0 : Int32).toInt ∧ (0 : Int32).toInt ≤ _; omega, fun k i _ => rfl, fun k i _ => rfl, h100⟩
  intro s s2 hX
  obtain ⟨⟨x1, x2, x5⟩, x3, x4⟩ := hX
  obtain ⟨hB2, hG2, hd2⟩ := tkf_all hb x4 hB hG hd
  have en : s.2.2.2 b 2 = s2.2.2.2 134 17 := hB2.1.2.2.1
  have e2 : s.2.2.2 b 2 = w b 2 := x4.1 b 2 (by omega)
  rw [← x5, ← en, e2]
  by_cases c : s.2.2.1 < w b 2
  · rw [if_pos c, if_pos c]
    rw [Int32.lt_iff_toInt_lt] at c
    have ea : (s.2.2.1 + 1).toInt = s.2.2.1.toInt + 1 := i_addk tl_1 (by omega) (by omega)
    refine rcr_rd (fun _ => ?_)
    rw [cl_3, x4.2.1 146 3 (by omega), ← eK]
    refine rcl_bind (pc_holds x3.1 (by omega)) (fun r _ hr => rcr_bind pc_has (fun r2 _ hr2 => ?_))
    rw [hr, hr2]
    refine rc_bind (Q := fun (v v' : Int32 × Mem) => v.1 = v'.1 ∧ TkF w w' v.2 v'.2) ?_ (fun v v' _ _ hv => ?_)
    · by_cases z : hbI K s.2.2.1 = 0
      · rw [if_pos z, if_pos z]
        refine rcr_rd (fun _ => ?_)
        rw [cl_3, x4.2.1 146 3 (by omega), ← eK]
        have p8 : 2 ^ (w b 2).toInt.toNat ≤ 2 ^ 8 := Nat.pow_le_pow_right (by decide) (by omega)
        have hs := set_rng (x := K) (t := s.2.2.1) (n := (w b 2).toInt.toNat) (by omega) hK.1 hK.2 x3.1 (by omega)
        refine rc_mono (rc_worth hb hB2 hG2 x4.2.2 (K := K ||| (1 : Int32) <<< (s.2.2.1 &&& 31)) (by rw [e2]; exact hs) hd2) (fun v v' _ _ h => ⟨h.1, ?_⟩)
        exact ⟨fun k i hk => by rw [h.2.1 k i hk, x4.1 k i hk], fun k i hk => by rw [h.2.2.1 k i hk, x4.2.1 k i hk], h.2.2.2⟩
      · rw [if_neg z, if_neg z]
        exact rc_some ⟨rfl, x4⟩
    · rw [← x1, ← x2, ← hv.1]
      by_cases d : s.2.1 < v.1
      · rw [if_pos d, if_pos d, if_pos d, sb, sb, sb]
        exact rc_some ⟨⟨rfl, rfl, rfl⟩, by show 0 ≤ (s.2.2.1 + 1).toInt ∧ (s.2.2.1 + 1).toInt ≤ _; omega, hv.2⟩
      · rw [if_neg d, if_neg d, if_neg d, sb, sb, sb]
        exact rc_some ⟨⟨rfl, rfl, rfl⟩, by show 0 ≤ (s.2.2.1 + 1).toInt ∧ (s.2.2.1 + 1).toInt ≤ _; omega, hv.2⟩
  · rw [if_neg c, if_neg c]
    exact rc_some ⟨x1, x4.2.2⟩
/-! who waits, who passed, who turned back -/
theorem bt_tb {x : Int32} {t : Nat} (h0 : 0 ≤ x.toInt) (h1 : x.toInt ≤ 255) (ht : t < 8) : bt x t = if x.toNatClampNeg.testBit t = true then 1 else 0 := by
  have i := i_ofnat (n := t) (by omega)
  have h := hb_tb (x := x) (m := Int32.ofNat t) h0 h1 (by omega) (by omega)
  rw [cN_of (by omega)] at h
  exact h
theorem pc_are {w' : Mem} {a : Int32} (hn : 0 ≤ (w' 134 18).toInt ∧ (w' 134 18).toInt ≤ 6) : Pc (fun (r : Int32) => (0 ≤ r.toInt ∧ r.toInt ≤ 255) ∧ ∀ t : Nat, t < 8 → (r.toNatClampNeg.testBit t = true ↔ ((t : Int) < (w' 134 18).toInt ∧ w' 146 (7 + t) = a))) (f_X10_are a w') := by
  have t0 := tl_0
  unfold f_X10_are
  simp only [bind_eta1]
  refine pc_lp (fun (q : Int32 × Int32) => (0 ≤ q.2.toInt ∧ q.2.toInt ≤ (w' 134 18).toInt) ∧ (0 ≤ q.1.toInt ∧ q.1.toInt ≤ 255) ∧ ∀ t : Nat, t < 8 → (q.1.toNatClampNeg.testBit t = true ↔ ((t : Int) < q.2.toInt ∧ w' 146 (7 + t) = a))) ?_ _ _ ?_
  · intro q hX
    obtain ⟨x1, x2, x3⟩ := hX
    refine pc_ite (fun c => ?_) (fun c => pc_some ?_)
    · rw [Int32.lt_iff_toInt_lt] at c
      have ea : (q.2 + 1).toInt = q.2.toInt + 1 := i_addk tl_1 (by omega) (by omega)
      obtain ⟨j, ej⟩ : ∃ j, q.2.toNatClampNeg = j := ⟨_, rfl⟩
      have hj := i_clq x1.1
      rw [ej] at hj
      have i7 : ((7 : Int32) + q.2).toNatClampNeg = 7 + j := by rw [ix (d := 7) tl_7' (by omega) x1.1 (by omega), ej]
      refine pc_rd (fun _ => ?_)
      rw [i7]
      by_cases e : w' 146 (7 + j) = a
      · rw [if_pos e, sb]
        have sv := set_val (t := q.2) x2.1 x2.2 x1.1 (by omega)
        refine pc_some ⟨by show 0 ≤ (q.2 + 1).toInt ∧ (q.2 + 1).toInt ≤ _; omega, sv.1, fun t ht => ?_⟩
        show (q.1 ||| (1 : Int32) <<< (q.2 &&& 31)).toNatClampNeg.testBit t = true ↔ ((t : Int) < (q.2 + 1).toInt ∧ w' 146 (7 + t) = a)
        rw [sv.2 t ht, x3 t ht, ej, ea]
        constructor
        · rintro (h | h)
          · exact ⟨by omega, h.2⟩
          · rw [h]; exact ⟨by omega, e⟩
        · intro h
          by_cases et : t = j
          · exact Or.inr et
          · exact Or.inl ⟨by omega, h.2⟩
      · rw [if_neg e, sb, Int32.or_zero]
        refine pc_some ⟨by show 0 ≤ (q.2 + 1).toInt ∧ (q.2 + 1).toInt ≤ _; omega, x2, fun t ht => ?_⟩
        show q.1.toNatClampNeg.testBit t = true ↔ ((t : Int) < (q.2 + 1).toInt ∧ w' 146 (7 + t) = a)
        rw [x3 t ht, ea]
        constructor
        · exact fun h => ⟨by omega, h.2⟩
        · intro h
          by_cases et : t = j
          · rw [et] at h; exact absurd h.2 e
          · exact ⟨by omega, h.2⟩
    · rw [Int32.lt_iff_toInt_lt] at c
      have e : q.2.toInt = (w' 134 18).toInt := by omega
      rw [e] at x3
      exact ⟨x2, x3⟩
  · refine ⟨by show 0 ≤ (0 : Int32).toInt ∧ (0 : Int32).toInt ≤ _; omega, by show 0 ≤ (0 : Int32).toInt ∧ (0 : Int32).toInt ≤ 255; omega, fun t _ => ?_⟩
    show (0 : Int32).toNatClampNeg.testBit t = true ↔ ((t : Int) < (0 : Int32).toInt ∧ w' 146 (7 + t) = a)
    rw [cl_0, Nat.zero_testBit]
    constructor
    · intro h; cases h
    · intro h; omega
theorem eq_are {x a r : Int32} {n : Nat} {w' : Mem} (hn : n ≤ 6) (en : (w' 134 18).toInt = n) (h0 : 0 ≤ x.toInt ∧ x.toInt < (2 ^ n : Nat)) (hx : ∀ t : Nat, t < n → (bt x t = 1 ↔ w' 146 (7 + t) = a)) (hr : (0 ≤ r.toInt ∧ r.toInt ≤ 255) ∧ ∀ t : Nat, t < 8 → (r.toNatClampNeg.testBit t = true ↔ ((t : Int) < (w' 134 18).toInt ∧ w' 146 (7 + t) = a))) : x = r := by
  have p6 : 2 ^ n ≤ 2 ^ 6 := Nat.pow_le_pow_right (by decide) hn
  have c1 := i_clq h0.1
  have c2 := i_clq hr.1.1
  have e : x.toNatClampNeg = r.toNatClampNeg := by
    refine tb_ext (by omega) (by omega) (fun t ht => ?_)
    rw [hr.2 t ht, en]
    have hb := bt_tb (x := x) (t := t) h0.1 (by omega) ht
    constructor
    · intro h
      have h1 := tb_lt (S := x.toNatClampNeg) (M := n) (a := t) (by omega) h
      rw [if_pos h] at hb
      exact ⟨by omega, (hx t h1).mp hb⟩
    · intro h
      have h1 := (hx t (by omega)).mpr h.2
      rw [h1] at hb
      by_cases c : x.toNatClampNeg.testBit t = true
      · exact c
      · rw [if_neg c] at hb
        exact absurd hb (by decide)
  rw [i_eq_iff]
  omega
