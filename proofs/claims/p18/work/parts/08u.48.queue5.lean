/-! the minutes of each traveller's longest talk: one number on both sides -/
def StF (b : Nat) (t : Int32) (w w' : Mem) (k : Nat) : Int := if (k : Int) < (w b 2).toInt then ((f_X10_stayOf t (Int32.ofNat k) w').getD 0).toInt else 0
theorem std_fn {b : Nat} {t : Int32} {w w' : Mem} (hB : BrC b w w') (ht : 0 ≤ t.toInt ∧ t.toInt < (w b 3).toInt) (hd : DefS b w w') : StD b t w w' (StF b t w w') := by
  have b3 := hB.2.2.1
  have hk : ∀ k : Nat, (k : Int) < (w b 2).toInt → ∃ x y, f_X1_stayOf b t (Int32.ofNat k) w = some x ∧ f_X10_stayOf t (Int32.ofNat k) w' = some y ∧ x = y ∧ (0 ≤ y.toInt ∧ y.toInt ≤ 300) := by
    intro k hk
    have ik := i_ofnat (n := k) (by omega)
    obtain ⟨⟨x, hx⟩, y, hy⟩ := hd t (Int32.ofNat k) ht ⟨by omega, by omega⟩
    exact ⟨x, y, hx, hy, rc_stayOf hB ht (m := Int32.ofNat k) ⟨by omega, by omega⟩ x y hx hy, pc_stayR hB ht (m := Int32.ofNat k) ⟨by omega, by omega⟩ y hy⟩
  refine ⟨fun k => ?_, fun k hk2 => ?_⟩
  · unfold StF
    by_cases c : (k : Int) < (w b 2).toInt
    · rw [if_pos c]
      obtain ⟨x, y, _, hy, _, hr⟩ := hk k c
      rw [hy]
      exact hr
    · rw [if_neg c]
      omega
  · obtain ⟨x, y, hx, hy, e, hr⟩ := hk k hk2
    have hv : StF b t w w' k = y.toInt := by
      unfold StF
      rw [if_pos hk2, hy]
      rfl
    exact ⟨⟨x, hx, by rw [e]; exact hv.symm⟩, y, hy, hv.symm⟩
def miF (b : Nat) (w w' : Mem) (K t : Nat) : Int := (tk (fun S => (w (b + 6) S).toNatClampNeg) (fun S => smK (StF b (Int32.ofNat t) w w') S 8) K (2 ^ (w b 2).toInt.toNat - 1)).1
theorem miF_rng {b : Nat} {w w' : Mem} {K t : Nat} (hB : BrC b w w') (ht : (t : Int) < (w b 3).toInt) (hd : DefS b w w') : 0 ≤ miF b w w' K t ∧ miF b w w' K t ≤ 2400 := by
  have b3 := hB.2.2.1
  have it := i_ofnat (n := t) (by omega)
  have hs := std_fn hB (t := Int32.ofNat t) ⟨by omega, by omega⟩ hd
  exact tk_rng (fun S => by
    have h := smK_rng (S := S) hs.1 8
    exact ⟨h.1, h.2⟩) _
theorem pc_tryM {b : Nat} (hb : BrO b) {w w' u : Mem} {t : Nat} {K : Int32} (hB : BrC b w w') (hG : BgP b w) (hd : DefS b w w') (hu : ∀ k i, ¬ (99 ≤ k ∧ k ≤ 105) → u k i = w k i) (hz : u 100 0 = 0) (ht : (t : Int) < (w b 3).toInt) (hK : 0 ≤ K.toInt ∧ K.toInt < (2 ^ (w b 2).toInt.toNat : Nat)) : Pc (fun v => (v 99 1).toInt = miF b w w' K.toNatClampNeg t ∧ v 100 0 = 0) (f_X8_tryWith b (Int32.ofNat t) K u) := by
  have hbb : b = 112 ∨ b = 119 := hb
  have b3 := hB.2.2.1
  have it := i_ofnat (n := t) (by omega)
  have hs := std_fn hB (t := Int32.ofNat t) ⟨by omega, by omega⟩ hd
  have eM : u b 2 = w b 2 := hu _ _ (by omega)
  have hB2 : BrC b u w' := brc_of hB (fun k i k1 k2 => hu k i (by omega)) rfl rfl rfl rfl (fun k i _ _ => rfl)
  have hG2 : BgP b u := bgp_of hG eM (fun i => hu _ _ (by omega)) (fun i => hu _ _ (by omega))
  refine pc_mono (pc_try hb hB2 hG2 hz ⟨by omega, by rw [hu b 3 (by omega)]; omega⟩ (by rw [eM]; exact hK) hs.1 (fun k hk => (hs.2 k (by rw [← eM]; exact hk)).2)) (fun v _ hv => ⟨?_, hv.2.1⟩)
  have hf : (fun S => (u (b + 6) S).toNatClampNeg) = fun S => (w (b + 6) S).toNatClampNeg := funext (fun S => by rw [hu _ _ (by omega)])
  have h1 := hv.2.2.1
  rw [hf, eM] at h1
  exact h1
theorem pc_layM {b : Nat} {w w' u' : Mem} {t : Nat} {K : Int32} (hB : BrC b w w') (hG : BgP b w) (hd : DefS b w w') (hu : ∀ k i, ¬ (148 ≤ k ∧ k ≤ 149) → ¬ (k = 134 ∧ 30 ≤ i ∧ i ≤ 32) → u' k i = w' k i) (ht : (t : Int) < (w b 3).toInt) (hK : 0 ≤ K.toInt ∧ K.toInt < (2 ^ (w b 2).toInt.toNat : Nat)) : Pc (fun v => (v 134 30).toInt = miF b w w' K.toNatClampNeg t) (f_X10_layTalk (Int32.ofNat t) K u') := by
  have b3 := hB.2.2.1
  have p8 : 2 ^ (w b 2).toInt.toNat ≤ 2 ^ 8 := Nat.pow_le_pow_right (by decide) (by omega)
  have hKn := i_clq hK.1
  have it := i_ofnat (n := t) (by omega)
  have hs := std_fn hB (t := Int32.ofNat t) ⟨by omega, by omega⟩ hd
  have hB2 : BrC b w u' := brc_of hB (fun k i _ _ => rfl) (hu 134 15 (by omega) (by omega)) (hu 134 16 (by omega) (by omega)) (hu 134 17 (by omega) (by omega)) (hu 134 18 (by omega) (by omega)) (fun k i k1 k2 => hu k i (by omega) (by omega))
  refine pc_mono (pc_layTalk (G := fun S => (w (b + 6) S).toNatClampNeg) hB2 ⟨by omega, by omega⟩ hs.1 (fun k hk => (hs.2 k hk).1) hK (fun S h1 h2 => by
    obtain ⟨g1, g2⟩ := hG S h1 h2
    have c := i_clq g1.1
    exact ⟨by show (w (b + 6) S).toNatClampNeg < 256; omega, g2⟩)) (fun v _ hv => ?_)
  have h1 := hv.2.1
  rw [tk_stop (A := 2 ^ (w b 2).toInt.toNat - 1) (by omega) 255 (by omega)] at h1
  exact h1
/-! the reference lays all talks -/
theorem pc_layAll {b : Nat} {w w' : Mem} (hB : BrC b w w') (hE : EvC 3 (w' 146) b w) (hG : BgP b w) (hd : DefS b w w') (n : Nat) : Pc (fun v => (∀ k i, ¬ (148 ≤ k ∧ k ≤ 149) → ¬ (k = 134 ∧ 30 ≤ i ∧ i ≤ 32) → v k i = w' k i) ∧ ∀ t : Nat, (t : Int) < (w b 3).toInt → (v 149 t).toInt = miF b w w' (w 3 3).toNatClampNeg t) (lp (S := (Int32 × Mem)) (T := Mem) (fun s39 => (if s39.1 < (s39.2 134 18) then rd 25 (s39.2 146) (3 : Int32) fun x4 => (f_X10_layTalk s39.1 x4 s39.2).bind fun w5 => wr 6 149 s39.1 (w5 134 30) w5 fun w6 => some (Sum.inl ((s39.1 + (1 : Int32)), w6)) else some (Sum.inr s39.2))) n ((0 : Int32), w')) := by
  have t0 := tl_0
  have b3 := hB.2.2.1
  have en : w b 3 = w' 134 18 := hB.1.2.2.2
  have eK : w 3 3 = w' 146 3 := hE.1.2.2.2.1
  have hK : 0 ≤ (w 3 3).toInt ∧ (w 3 3).toInt < (2 ^ (w b 2).toInt.toNat : Nat) := by rw [eK]; exact hE.2.1.2.2.1
  refine pc_lp (fun (s : Int32 × Mem) => (0 ≤ s.1.toInt ∧ s.1.toInt ≤ (w b 3).toInt) ∧ (∀ k i, ¬ (148 ≤ k ∧ k ≤ 149) → ¬ (k = 134 ∧ 30 ≤ i ∧ i ≤ 32) → s.2 k i = w' k i) ∧ ∀ t : Nat, (t : Int) < s.1.toInt → (s.2 149 t).toInt = miF b w w' (w 3 3).toNatClampNeg t) ?_ _ _ ?_
  · intro s hX
    obtain ⟨x1, x2, x3⟩ := hX
    rw [x2 134 18 (by omega) (by omega), ← en]
    refine pc_ite (fun c => ?_) (fun c => pc_some ?_)
    · rw [Int32.lt_iff_toInt_lt] at c
      have ea : (s.1 + 1).toInt = s.1.toInt + 1 := i_addk tl_1 (by omega) (by omega)
      obtain ⟨t, et⟩ : ∃ t, s.1.toNatClampNeg = t := ⟨_, rfl⟩
      have ht := i_clq x1.1
      rw [et] at ht
      have es : s.1 = Int32.ofNat t := by rw [← et]; exact i_nat3 x1.1
      refine pc_rd (fun _ => ?_)
      rw [cl_3, x2 146 3 (by omega) (by omega), ← eK]
      refine pc_bind (Q := fun v => (v 134 30).toInt = miF b w w' (w 3 3).toNatClampNeg t ∧ ∀ k i, ¬ (k = 148 ∨ (k = 134 ∧ 30 ≤ i ∧ i ≤ 32)) → v k i = s.2 k i) (fun v hv => ⟨?_, fr_X10_layTalk _ _ _ v hv⟩) (fun v _ hv => pc_wr (fun _ => pc_some ?_))
      · rw [es] at hv
        exact pc_layM hB hG hd x2 (by omega) hK v hv
      · rw [et]
        refine ⟨by show 0 ≤ (s.1 + 1).toInt ∧ (s.1 + 1).toInt ≤ _; omega, fun k i k1 k2 => ?_, fun r hr => ?_⟩
        · show wu v 149 t (v 134 30) k i = w' k i
          rw [wu_ne (by omega), hv.2 k i (by omega)]
          exact x2 k i k1 k2
        · have hr2 : (r : Int) < (s.1 + 1).toInt := hr
          show (wu v 149 t (v 134 30) 149 r).toInt = _
          by_cases e : r = t
          · rw [e, wu_at]
            exact hv.1
          · rw [wu_ne (by omega), hv.2 149 r (by omega)]
            exact x3 r (by omega)
    · rw [Int32.lt_iff_toInt_lt] at c
      exact ⟨x2, fun t ht => x3 t (by omega)⟩
  · refine ⟨by show 0 ≤ (0 : Int32).toInt ∧ (0 : Int32).toInt ≤ _; omega, fun k i _ _ => rfl, fun t ht => ?_⟩
    have h2 : (t : Int) < (0 : Int32).toInt := ht
    omega
