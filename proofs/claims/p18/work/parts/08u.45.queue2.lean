/-! the reference: what an order of figures is paid -/
set_option maxRecDepth 100000 in
theorem pb6_tab : ∀ x : Fin 64, pb x.1 ≤ 6 := by decide +kernel
theorem pb_6 {x : Int32} (h0 : 0 ≤ x.toInt) (h1 : x.toInt ≤ 63) : pb x.toNatClampNeg ≤ 6 := by
  have e := i_clq h0
  exact pb6_tab ⟨x.toNatClampNeg, by omega⟩
theorem pc_by10 {S : Int32} {n : Nat} (h0 : 0 ≤ S.toInt) (h1 : S.toInt ≤ 63) (hn : 1 ≤ pb S.toNatClampNeg) : Pc (fun (r : Int32) => r.toInt = (10 ^ (pb S.toNatClampNeg - 1) : Nat)) (lp (S := (Int32 × Int32)) (T := Int32) (fun s14 => (f_X10_bits S).bind fun r1 => (if s14.2 < r1 then some (Sum.inl ((s14.1 * (10 : Int32)), (s14.2 + (1 : Int32)))) else some (Sum.inr s14.1))) n ((1 : Int32), (1 : Int32))) := by
  have t1 := tl_1
  have t10 := tl_10
  have ps := pb_i (x := S) h0 (by omega)
  have hp6 := pb_6 h0 h1
  have i3 := i_ofnat (n := pb S.toNatClampNeg) (by omega)
  rw [ps.1]
  refine pc_lp (fun (q : Int32 × Int32) => (1 ≤ q.2.toInt ∧ q.2.toInt ≤ pb S.toNatClampNeg) ∧ q.1.toInt = (10 ^ (q.2.toInt.toNat - 1) : Nat)) ?_ _ _ ⟨by show 1 ≤ (1 : Int32).toInt ∧ (1 : Int32).toInt ≤ _; omega, by show (1 : Int32).toInt = (10 ^ ((1 : Int32).toInt.toNat - 1) : Nat); rw [t1]; rfl⟩
  intro q hX
  obtain ⟨x1, x2⟩ := hX
  rw [sb]
  refine pc_ite (fun c => pc_some ?_) (fun c => pc_some ?_)
  · rw [Int32.lt_iff_toInt_lt, i3] at c
    have ea : (q.2 + 1).toInt = q.2.toInt + 1 := i_addk tl_1 (by omega) (by omega)
    have hle : 10 ^ (q.2.toInt.toNat - 1) ≤ 10 ^ 5 := Nat.pow_le_pow_right (by decide) (by omega)
    have hp0 := p10_pos (q.2.toInt.toNat - 1)
    have em : (q.1 * 10).toInt = 10 * q.1.toInt := i_mulkr tl_10 (by omega) (by omega)
    refine ⟨by show 1 ≤ (q.2 + 1).toInt ∧ (q.2 + 1).toInt ≤ _; omega, ?_⟩
    show (q.1 * 10).toInt = (10 ^ ((q.2 + 1).toInt.toNat - 1) : Nat)
    rw [em, x2, ea, show (q.2.toInt + 1).toNat - 1 = (q.2.toInt.toNat - 1) + 1 by omega, Nat.pow_succ]
    omega
  · rw [Int32.lt_iff_toInt_lt, i3] at c
    show q.1.toInt = (10 ^ (pb S.toNatClampNeg - 1) : Nat)
    rw [x2, show q.2.toInt.toNat = pb S.toNatClampNeg by omega]
def QuT (mi py pa : Nat → Int) (m : Mem) (t : Nat) : Prop := ((m 149 t).toInt = mi t ∧ 0 ≤ mi t ∧ mi t ≤ 2400) ∧ ((m 149 t / m 134 15 * m 134 16).toInt = py t ∧ 0 ≤ py t ∧ py t ≤ 21600) ∧ (0 ≤ (m 144 t).toInt ∧ (m 144 t).toInt ≤ 9) ∧ (0 ≤ (m 146 (19 + t)).toInt ∧ (m 146 (19 + t)).toInt ≤ 61) ∧ pa t = LimR m t - (m 146 (19 + t)).toInt
theorem dig_i {f y : Int32} {l : Nat} (hf : 0 ≤ f.toInt) (hy : y.toInt = (10 ^ l : Nat)) : (f / y - f / y / 10 * 10).toInt = ((f.toNatClampNeg / 10 ^ l % 10 : Nat) : Int) := by
  have hp := p10_pos l
  have d0 := i_divb (x := f) (y := y) hf (by omega)
  have d1 : (f / y).toInt = f.toInt / ((10 ^ l : Nat) : Int) := i_divk (k := 10 ^ l) hy hp hf
  have d2 : (f / y - f / y / 10 * 10).toInt = (f / y).toInt % ((10 : Nat) : Int) := i_remk (k := 10) tl_10 (by decide) d0.1
  rw [d2, d1, ← i_clq hf]
  rfl
theorem hb9_tab : ∀ x : Fin 64, ∀ k : Fin 9, hbI (Int32.ofNat x.1) (Int32.ofNat k.1) = if x.1.testBit k.1 = true then 1 else 0 := by decide +kernel
theorem hb_9 {x m : Int32} (h0 : 0 ≤ x.toInt) (h1 : x.toInt ≤ 63) (h2 : 0 ≤ m.toInt) (h3 : m.toInt ≤ 8) : hbI x m = if x.toNatClampNeg.testBit m.toNatClampNeg = true then 1 else 0 := by
  have e1 := i_clq h0
  have e2 := i_clq h2
  have h := hb9_tab ⟨x.toNatClampNeg, by omega⟩ ⟨m.toNatClampNeg, by omega⟩
  have h' : hbI (Int32.ofNat x.toNatClampNeg) (Int32.ofNat m.toNatClampNeg) = if x.toNatClampNeg.testBit m.toNatClampNeg = true then 1 else 0 := h
  rw [← i_nat3 h0, ← i_nat3 h2] at h'
  exact h'
def GnP (B k l x : Int) : Prop := 0 ≤ x ∧ x ≤ B * (k - l)
theorem gn_a {k l x : Int} (h : GnP 2400 k l x) (hl : 0 ≤ l) (hk : k ≤ 6) : 0 ≤ x ∧ x ≤ 14400 := by unfold GnP at h; omega
theorem gn_b {k l x : Int} (h : GnP 21600 k l x) (hl : 0 ≤ l) (hk : k ≤ 6) : 0 ≤ x ∧ x ≤ 129600 := by unfold GnP at h; omega
theorem gn_up {k l x y d : Int} (h : GnP 2400 k (l + 1) x) (hd : 0 ≤ d ∧ d ≤ 2400) (e : y = x + d ∨ y = x) : GnP 2400 k l y := by unfold GnP at h ⊢; omega
theorem gn_up2 {k l x y d : Int} (h : GnP 21600 k (l + 1) x) (hd : 0 ≤ d ∧ d ≤ 21600) (e : y = x + d ∨ y = x) : GnP 21600 k l y := by unfold GnP at h ⊢; omega
def PdX (mi py pa : Nat → Int) (F k : Nat) (S : Int32) (s : Int32 × Int32 × Int32 × Int32 × Int32) : Prop := (0 ≤ s.2.2.2.2.toInt ∧ s.2.2.2.2.toInt ≤ k) ∧ ((0 ≤ s.1.toInt ∧ s.1.toInt ≤ 63) ∧ ∀ a : Nat, s.1.toNatClampNeg.testBit a = true → S.toNatClampNeg.testBit a = true) ∧ (s.2.2.2.2.toInt ≤ 0 ∨ s.2.2.2.1.toInt = (10 ^ (s.2.2.2.2.toInt.toNat - 1) : Nat)) ∧ GnP 2400 k s.2.2.2.2.toInt s.2.1.toInt ∧ GnP 21600 k s.2.2.2.2.toInt s.2.2.1.toInt ∧ ∀ r, PoR mi py pa F s.2.2.2.2.toInt.toNat s.1.toNatClampNeg s.2.1.toInt s.2.2.1.toInt r → PoR mi py pa F k S.toNatClampNeg 0 0 r
theorem by_dn {y : Int32} {l : Nat} (hy : y.toInt = (10 ^ l : Nat)) : (l : Int) ≤ 0 ∨ (y / 10).toInt = (10 ^ (l - 1) : Nat) := by
  have hp := p10_pos l
  cases l with
  | zero => left; omega
  | succ l =>
    right
    have dd : (y / 10).toInt = y.toInt / ((10 : Nat) : Int) := i_divk (k := 10) tl_10 (by decide) (by omega)
    rw [dd, hy, show l + 1 - 1 = l by omega, Nat.pow_succ]
    omega
theorem pdx_step {mi py pa : Nat → Int} {F k l a : Nat} {S T g s' y q : Int32} {R : Nat} {g0 s0 : Int} (hq : q.toInt = (l : Int)) (hlk : (l : Int) + 1 ≤ k) (hT0 : 0 ≤ T.toInt) (hT1 : T.toInt ≤ 63) (hTV : ∀ b : Nat, T.toNatClampNeg.testBit b = true → S.toNatClampNeg.testBit b = true) (eT : T.toNatClampNeg = R - 2 ^ a) (hy : (l : Int) ≤ 0 ∨ y.toInt = (10 ^ (l - 1) : Nat)) (hg : GnP 2400 k (l + 1) g0) (hs : GnP 21600 k (l + 1) s0) (hm : 0 ≤ mi a ∧ mi a ≤ 2400) (hp : 0 ≤ py a ∧ py a ≤ 21600) (hor : (g0 ≤ pa a ∧ g.toInt = g0 + mi a ∧ s'.toInt = s0 + py a) ∨ (¬ g0 ≤ pa a ∧ g.toInt = g0 ∧ s'.toInt = s0)) (h7 : ∀ r, PoR mi py pa F l (R - 2 ^ a) g.toInt s'.toInt r → PoR mi py pa F k S.toNatClampNeg 0 0 r) : PdX mi py pa F k S (T, g, s', y, q) := by
  have en : (l : Int).toNat = l := by omega
  refine ⟨?_, ⟨⟨hT0, hT1⟩, hTV⟩, ?_, ?_, ?_, ?_⟩
  · show 0 ≤ q.toInt ∧ q.toInt ≤ k
    rw [hq]
    exact ⟨by omega, by omega⟩
  · show q.toInt ≤ 0 ∨ y.toInt = (10 ^ (q.toInt.toNat - 1) : Nat)
    rw [hq, en]
    exact hy
  · show GnP 2400 k q.toInt g.toInt
    rw [hq]
    rcases hor with ⟨_, h, _⟩ | ⟨_, h, _⟩
    · exact gn_up hg hm (Or.inl h)
    · exact gn_up hg hm (Or.inr h)
  · show GnP 21600 k q.toInt s'.toInt
    rw [hq]
    rcases hor with ⟨_, _, h⟩ | ⟨_, _, h⟩
    · exact gn_up2 hs hp (Or.inl h)
    · exact gn_up2 hs hp (Or.inr h)
  · show ∀ r, PoR mi py pa F q.toInt.toNat T.toNatClampNeg g.toInt s'.toInt r → PoR mi py pa F k S.toNatClampNeg 0 0 r
    rw [hq, en, eT]
    exact h7
theorem i_dec {x : Int32} (h0 : -2147483647 ≤ x.toInt) (h1 : x.toInt ≤ 2147483647) : (x + (-1 : Int32)).toInt = x.toInt + -1 := by
  have tm := tl_m1
  rw [i_add (by omega) (by omega), tm]
theorem pc_inl {A B : Type} {X : A → Prop} {Y : B → Prop} {s : A} (h : X s) : Pc (lqP X Y) (some (Sum.inl s)) := pc_some h
theorem pc_paidBy {m : Mem} {f S : Int32} {mi py pa : Nat → Int} (hf : 0 ≤ f.toInt) (h0 : 0 ≤ S.toInt) (h1 : S.toInt ≤ 63) (hn : 1 ≤ pb S.toNatClampNeg) (hT : ∀ t : Nat, S.toNatClampNeg.testBit t = true → QuT mi py pa m t) : Pc (fun r => PoR mi py pa f.toNatClampNeg (pb S.toNatClampNeg) S.toNatClampNeg 0 0 r.toInt) (f_X10_paidBy f S m) := by
  have t0 := tl_0
  have t1 := tl_1
  have tm := tl_m1
  have t10 := tl_10
  have ps := pb_i (x := S) h0 (by omega)
  have hp6 := pb_6 h0 h1
  obtain ⟨k, ek⟩ : ∃ k, k = pb S.toNatClampNeg := ⟨_, rfl⟩
  obtain ⟨F, eF⟩ : ∃ F, f.toNatClampNeg = F := ⟨_, rfl⟩
  have hF := i_clq hf
  rw [eF] at hF
  have i3 := i_ofnat (n := k) (by omega)
  unfold f_X10_paidBy
  refine pc_bind (pc_by10 h0 h1 hn) (fun v2 _ h2 => ?_)
  rw [ps.1, sb]
  rw [← ek] at h2 hn hp6 ⊢
  rw [eF]
  refine pc_lp (PdX mi py pa F k S) ?_ _ _ ?_
  · intro s hX
    obtain ⟨x1, ⟨x2, x3⟩, x4, x5, x6, x7⟩ := hX
    refine pc_ite (fun c => ?_) (fun c => pc_some ?_)
    · rw [Int32.lt_iff_toInt_lt, t0] at c
      refine pc_nz (fun _ => pc_lt (pc_lt ?_))
      obtain ⟨l, el⟩ : ∃ l : Nat, s.2.2.2.2.toInt = l + 1 := ⟨s.2.2.2.2.toInt.toNat - 1, by omega⟩
      have en : s.2.2.2.2.toInt.toNat = l + 1 := by omega
      rw [en] at x4 x7
      rw [el] at x5 x6
      have g5 := gn_a x5 (by omega) (by omega)
      have g6 := gn_b x6 (by omega) (by omega)
      have hy : s.2.2.2.1.toInt = (10 ^ l : Nat) := by
        rcases x4 with h | h
        · omega
        · exact h
      have dg := dig_i (f := f) hf hy
      rw [eF] at dg
      obtain ⟨D, eD⟩ : ∃ D, D = F / 10 ^ l % 10 := ⟨_, rfl⟩
      have hD : D < 10 := by rw [eD]; exact Nat.mod_lt _ (by decide)
      rw [← eD] at dg
      obtain ⟨t5, et5⟩ : ∃ t5, t5 = f / s.2.2.2.1 - f / s.2.2.2.1 / 10 * 10 - 1 := ⟨_, rfl⟩
      rw [← et5]
      have e5 : t5.toInt = (D : Int) - 1 := by rw [et5, i_sub (by omega) (by omega), dg, t1]
      refine pc_ite (fun c5 => pc_some ?_) (fun c5 => ?_)
      · rw [Int32.lt_iff_toInt_lt, t0] at c5
        show PoR mi py pa F k S.toNatClampNeg 0 0 (-1 : Int32).toInt
        rw [tm]
        refine x7 _ (por_bad (fun a _ h => ?_))
        rw [← eD] at h
        omega
      · rw [Int32.lt_iff_toInt_lt, t0] at c5
        obtain ⟨a, ea⟩ : ∃ a, t5.toNatClampNeg = a := ⟨_, rfl⟩
        have ha := i_clq (i := t5) (by omega)
        rw [ea] at ha
        have hbt := hb_9 (x := s.1) (m := t5) x2.1 x2.2 (by omega) (by omega)
        rw [ea] at hbt
        refine pc_bind pc_has (fun r7 _ h7 => ?_)
        rw [hbt] at h7
        by_cases hb : s.1.toNatClampNeg.testBit a = true
        · rw [if_pos hb] at h7
          rw [if_neg (show ¬ r7 = 0 by rw [h7]; decide)]
          have cR := i_clq x2.1
          have a6 : a < 6 := tb_lt (S := s.1.toNatClampNeg) (M := 6) (by omega) hb
          obtain ⟨⟨q1, q1a, q1b⟩, ⟨q2, q2a, q2b⟩, q3, q4, q5⟩ := hT a (x3 a hb)
          have cv := cl_val (S := s.1) (a := t5) x2.1 (by omega) (by omega) (by omega) (by rw [ea]; exact hb)
          rw [ea] at cv
          obtain ⟨T, eT⟩ : ∃ T, clrB s.1 t5 = T := ⟨_, rfl⟩
          have eT' : (s.1 &&& (((1 : Int32) <<< (t5 &&& 31)) ^^^ (-1 : Int32))) = T := eT
          rw [eT']
          rw [eT] at cv
          have i19 : ((19 : Int32) + t5).toNatClampNeg = 19 + a := by rw [ix (d := 19) tl_19 (by omega) (by omega) (by omega), ea]
          refine pc_lt (pc_rd (fun _ => ?_))
          rw [i19]
          refine pc_bind (pc_limit ⟨by omega, by omega⟩ (by rw [ea]; exact q3)) (fun r10 _ h10 => ?_)
          rw [ea] at h10
          have lim : LimR m a = 60 - 5 * (m 144 a).toInt := rfl
          have aw : (m 146 (19 + a) + s.2.1).toInt = (m 146 (19 + a)).toInt + s.2.1.toInt := i_add (by omega) (by omega)
          obtain ⟨qd, eqd⟩ : ∃ qd, s.2.2.2.2 + (-1 : Int32) = qd := ⟨_, rfl⟩
          have el2 : qd.toInt = l := by
            rw [← eqd, i_dec (by omega) (by omega), el]
            omega
          rw [eqd]
          have hlk2 : (l : Int) + 1 ≤ k := by omega
          have hT63 : T.toInt ≤ 63 := by omega
          have hR256 : s.1.toNatClampNeg < 256 := by omega
          have hDa : F / 10 ^ l % 10 = a + 1 := by rw [← eD]; omega
          have hTV : ∀ b : Nat, T.toNatClampNeg.testBit b = true → S.toNatClampNeg.testBit b = true := by
            intro b hb2
            rw [cv.1] at hb2
            have b8 : b < 8 := tb_8 (Nat.lt_of_le_of_lt (Nat.sub_le _ _) hR256) hb2
            exact x3 b ((cl_bit hR256 (by omega) b8 hb).mp hb2).1
          have hrest : ∀ (g s' : Int32), ((s.2.1.toInt ≤ pa a ∧ g.toInt = s.2.1.toInt + mi a ∧ s'.toInt = s.2.2.1.toInt + py a) ∨ (¬ s.2.1.toInt ≤ pa a ∧ g.toInt = s.2.1.toInt ∧ s'.toInt = s.2.2.1.toInt)) → Pc (lqP (PdX mi py pa F k S) (fun (r : Int32) => PoR mi py pa F k S.toNatClampNeg 0 0 r.toInt)) (some (Sum.inl (T, g, s', s.2.2.2.1 / 10, qd))) := by
            intro g s' hor
            have hX : PdX mi py pa F k S (T, g, s', s.2.2.2.1 / 10, qd) := (pdx_step (l := l) (a := a) (R := s.1.toNatClampNeg) el2 hlk2 cv.2.1 hT63 hTV cv.1 (by_dn hy) x5 x6 ⟨q1a, q1b⟩ ⟨q2a, q2b⟩ hor (fun r hr => x7 r (por_ok a6 hDa hb hor hr)))
            exact pc_inl (X := PdX mi py pa F k S) hX
          by_cases cl : r10 < m 146 (19 + a) + s.2.1
          · rw [if_pos cl, sb, if_pos (show (0 : Int32) = 0 from rfl), sb, if_pos (show (0 : Int32) = 0 from rfl), sb]
            rw [Int32.lt_iff_toInt_lt, aw, h10] at cl
            refine hrest _ _ (Or.inr ⟨by omega, ?_, ?_⟩)
            · rw [i_add (by omega) (by omega), t0]; omega
            · rw [i_add (by omega) (by omega), t0]; omega
          · rw [if_neg cl, sb, if_neg (show ¬ (1 : Int32) = 0 by decide), if_neg (show ¬ (1 : Int32) = 0 by decide)]
            rw [Int32.lt_iff_toInt_lt, aw, h10] at cl
            refine pc_bind (Q := fun (v : Int32) => v.toInt = py a) ?_ (fun v12 _ h12 => pc_bind (Q := fun (v : Int32) => v.toInt = mi a) (pc_rd (fun _ => pc_some (by rw [ea]; exact q1))) (fun v13 _ h13 => ?_))
            · refine pc_rd (fun _ => ?_)
              rw [ea]
              exact pc_bind pc_rpay (fun v _ hv => pc_some (by rw [hv]; exact q2))
            · refine hrest _ _ (Or.inl ⟨by omega, ?_, ?_⟩)
              · rw [i_add (by omega) (by omega)]; omega
              · rw [i_add (by omega) (by omega)]; omega
        · rw [if_neg hb] at h7
          rw [if_pos h7]
          refine pc_some ?_
          show PoR mi py pa F k S.toNatClampNeg 0 0 (-1 : Int32).toInt
          rw [tm]
          refine x7 _ (por_bad (fun a2 _ h => ?_))
          rw [← eD] at h
          have e2 : a2 = a := by omega
          rw [e2]
          exact hb
    · rw [Int32.lt_iff_toInt_lt, t0] at c
      rw [show s.2.2.2.2.toInt.toNat = 0 by omega] at x7
      exact x7 _ por_0
  · refine ⟨?_, ⟨⟨h0, h1⟩, fun a h => h⟩, Or.inr ?_, ?_, ?_, ?_⟩
    · show 0 ≤ (Int32.ofNat k).toInt ∧ (Int32.ofNat k).toInt ≤ k
      omega
    · show v2.toInt = (10 ^ ((Int32.ofNat k).toInt.toNat - 1) : Nat)
      rw [h2, i3, show ((k : Nat) : Int).toNat = k by omega]
    · show GnP 2400 k (Int32.ofNat k).toInt (0 : Int32).toInt
      rw [i3, t0]
      unfold GnP
      omega
    · show GnP 21600 k (Int32.ofNat k).toInt (0 : Int32).toInt
      rw [i3, t0]
      unfold GnP
      omega
    · show ∀ r, PoR mi py pa F (Int32.ofNat k).toInt.toNat S.toNatClampNeg (0 : Int32).toInt (0 : Int32).toInt r → PoR mi py pa F k S.toNatClampNeg 0 0 r
      rw [i3, t0, show ((k : Nat) : Int).toNat = k by omega]
      exact fun r h => h
