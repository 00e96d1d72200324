theorem lw_ctx {p : Program} {s : State} {m : MethodId} {meth : Method} {c : Code} {b L : Nat} {xs : Nat → Int32} (C0 : lw_At p s m meth c b L xs) : ∃ G : GT, Cx p s m #[Value.ref b] c G RL cL_law 4 s.heap.size := by
  obtain ⟨hx, hb, hr, hml, hown, hts, hX, hbl, hlocks, hgv⟩ := C0
  have htg : ∀ w ∈ lw_good, w.before #[Value.ref b] s = true := fun w h => hts w (List.mem_filter.mp h).1
  obtain ⟨c0, i0, k0⟩ := u_known (C := RX1) (T := TX1) (N := 10) (n := 10) htg gdX1 (htg _ kiX1)
  obtain ⟨c1, i1, k1⟩ := u_known (C := RX2) (T := TX2) (N := 3) (n := 3) htg gdX2 (htg _ kiX2)
  obtain ⟨c2, i2, k2⟩ := u_known (C := RX3) (T := TX3) (N := 12) (n := 12) htg gdX3 (htg _ kiX3)
  obtain ⟨c3, i3, k3⟩ := u_known (C := RX4) (T := TX4) (N := 3) (n := 3) htg gdX4 (htg _ kiX4)
  obtain ⟨c4, i4, k4⟩ := u_known (C := RX5) (T := TX5) (N := 7) (n := 7) htg gdX5 (htg _ kiX5)
  obtain ⟨c5, i5, k5⟩ := u_known (C := RX6) (T := TX6) (N := 3) (n := 3) htg gdX6 (htg _ kiX6)
  obtain ⟨c6, i6, k6⟩ := u_known (C := RX7) (T := TX7) (N := 5) (n := 5) htg gdX7 (htg _ kiX7)
  obtain ⟨c7, i7, k7⟩ := u_known (C := RX8) (T := TX8) (N := 4) (n := 4) htg gdX8 (htg _ kiX8)
  obtain ⟨c8, i8, k8⟩ := u_known (C := RX9) (T := TX9) (N := 12) (n := 12) htg gdX9 (htg _ kiX9)
  obtain ⟨c9, i9, k9⟩ := u_known (C := RX10) (T := TX10) (N := 43) (n := 43) htg gdX10 (htg _ kiX10)
  obtain ⟨a0, kA0, cp0, f0, g0, q0⟩ := Cond.arrayClass_spec (htg _ ka_int)
  obtain ⟨a1, kA1, cp1, f1, g1, q1⟩ := Cond.arrayClass_spec (htg _ ka_boolean)
  obtain ⟨a2, kA2, cp2, f2, g2, q2⟩ := Cond.arrayClass_spec (htg _ ka_long)
  obtain ⟨cp3, a3, kA3, j3, -, g3, q3, f3⟩ := Cond.arrayOver_spec (hts _ kaoX3)
  obtain ⟨cp4, a4, kA4, j4, -, g4, q4, f4⟩ := Cond.arrayOver_spec (hts _ kaoX4)
  refine ⟨((fun k => match k with | 0 => c0 | 1 => c1 | 2 => c2 | 3 => c3 | 4 => c4 | 5 => c5 | 6 => c6 | 7 => c7 | 8 => c8 | _ => c9, fun k => match k with | 0 => i0 | 1 => i1 | 2 => i2 | 3 => i3 | 4 => i4 | 5 => i5 | 6 => i6 | 7 => i7 | 8 => i8 | _ => i9), fun k => match k with | 0 => a0 | 1 => a1 | 2 => a2 | 3 => a3 | _ => a4), hx, hb, hml, hown, htg, ⟨⟨?_, ?_⟩, va_AO.of (hts _ kaoX3), va_AO.of (hts _ kaoX4), fun a i y h hm => va_Nw.of rfl (hts _ hm)⟩, Nat.le_refl _⟩
  · intro k q hq
    match k, hq with
    | 0, hq => cases hq; exact k0
    | 1, hq => cases hq; exact k1
    | 2, hq => cases hq; exact k2
    | 3, hq => cases hq; exact k3
    | 4, hq => cases hq; exact k4
    | 5, hq => cases hq; exact k5
    | 6, hq => cases hq; exact k6
    | 7, hq => cases hq; exact k7
    | 8, hq => cases hq; exact k8
    | 9, hq => cases hq; exact k9
    | k + 10, hq => simp [vwCl] at hq
  · intro k q hq
    match k, hq with
    | 0, hq => cases hq; exact ⟨fun n w => ⟨fun k h => (by cases h), kA0, g0, cp0, q0⟩, f0⟩
    | 1, hq => cases hq; exact ⟨fun n w => ⟨fun k h => (by cases h), kA1, g1, cp1, q1⟩, f1⟩
    | 2, hq => cases hq; exact ⟨fun n w => ⟨fun k h => (by cases h), kA2, g2, cp2, q2⟩, f2⟩
    | 3, hq => cases hq; exact ⟨fun n w => ⟨fun k h => (by cases h), kA3, g3, cp3, q3⟩, kA3, cp3, g3, q3, j3, f3⟩
    | 4, hq => cases hq; exact ⟨fun n w => ⟨fun k h => (by cases h), kA4, g4, cp4, q4⟩, kA4, cp4, g4, q4, j4, f4⟩
    | k + 5, hq => simp [gtys] at hq
theorem x_lret {p : Program} {l : Launch} {e : Env} {s : State} {m : MethodId} {below : List Frame} {meth : Method} {c : Code} {G : GT} {z b : Nat} {lo : List (Nat × Value)} {u : HpT} {n kc ks : Nat} (C : Cx p s m #[Value.ref b] c G RL cL_law 4 z) (hz : s.heap.size ≤ z) (hr : meth.sig.returnType = ret) (hlk : meth.locks = false) (hk : kc ≤ 600000) (hs : ks ≤ 7302250) : Xw p l e room_1 s m #[Value.ref b] below meth c G z 4 (lw_Z below #[Value.ref b] s) 774 lo [.int 1] u n kc ks := by
  intro H locs ls hL hH hS
  refine va_forget (fun q hq => Nat.le_trans hz (hS.2.2 q hq)) ?_
  refine W.widen hk hs ?_
  exact lw_ret C.1 C.2.1 hr hlk dL_law_774
set_option maxRecDepth 20000 in
theorem law_loop {p : Program} {l : Launch} {e : Env} {s : State} {m : MethodId} {below : List Frame} {meth : Method} {c : Code} {G : GT} {z b L : Nat} {xs : Nat → Int32} (C : Cx p s m #[Value.ref b] c G RL cL_law 4 z) (hz : s.heap.size ≤ z) (hr : meth.sig.returnType = ret) (hlocks : meth.locks = false) (hX : va_X b L xs s s.heap) (hbl : b < s.heap.size) (hbz : b < z) (hL : L ≤ 1536) : ∀ (d : Nat) (w : Mem) (i : Int32), Sim w → 0 ≤ i.toInt → i.toInt ≤ L + 3 → d = (L + 3 - i.toInt).toNat → Xw p l e room_1 s m #[Value.ref b] below meth c G z 4 (lw_Z below #[Value.ref b] s) 18 [(3, .int i), (2, .ref (z + 134)), (1, .ref (z + 0)), (0, .ref b)] [] (hp G z w) 157 157 5325 := by
  intro d
  induction d using Nat.strongRecOn with
  | _ d ih =>
    intro w i hS hi0 hi1 hd
    have l3 : (3 : Int32).toInt = 3 := by decide
    have lL : (Int32.ofNat L).toInt = L := i_ofnat (by omega)
    have e3 : (Int32.ofNat L - (3 : Int32)).toInt = (Int32.ofNat L).toInt - (3 : Int32).toInt := i_sub (by omega) (by omega)
    refine x_iload_n C 0 dL_law_18 rfl rfl ?_
    refine x_aload_n C 3 dL_law_19 rfl rfl ?_
    refine x_slen (v := Int32.ofNat L) C hX hbl hbz rfl dL_law_20 ?_
    refine x_iconst (v := (3 : Int32)) C dL_law_21 (by decide) ?_
    refine x_isub C dL_law_22 ?_
    refine x_icmp_gt C 773 dL_law_23 (by decide) (fun q => ?_) (fun q => ?_)
    · refine x_iconst (v := (1 : Int32)) C dL_law_773 (by decide) ?_
      exact x_lret C hz hr hlocks (Nat.le_of_ble_eq_true rfl) (Nat.le_of_ble_eq_true rfl)
    · have hi : i.toInt + 3 ≤ L := by rw [Int32.lt_iff_toInt_lt] at q; omega
      have ei : (i + Int32.ofInt 3).toInt = i.toInt + 3 := i_addk (by decide) (by omega) (by omega)
      have kend : ∀ w2 : Mem, Sim w2 → Xw p l e room_1 s m #[Value.ref b] below meth c G z 4 (lw_Z below #[Value.ref b] s) 767 [(3, .int i), (2, .ref (z + 134)), (1, .ref (z + 0)), (0, .ref b)] [] (hp G z w2) 157 157 5325 := by
        intro w2 hS2
        refine x_iinc (v := i + Int32.ofInt 3) C 0 [(3, .int (i + Int32.ofInt 3)), (2, .ref (z + 134)), (1, .ref (z + 0)), (0, .ref b)] dL_law_767 rfl rfl (by decide) rfl ?_
        refine x_goto C 18 dL_law_770 (by decide) ?_
        exact ih (L + 3 - (i + Int32.ofInt 3).toInt).toNat (by omega) w2 (i + Int32.ofInt 3) hS2 (by omega) (by omega) rfl
      refine x_aload_n C 3 dL_law_26 rfl rfl ?_
      refine x_iload_n C 0 dL_law_27 rfl rfl ?_
      refine x_sld (v := xs i.toNatClampNeg) C i.toNatClampNeg hX hbl hbz (i_in (by omega) (by omega)) rfl rfl dL_law_28 ?_
      refine x_bipush (v := (31 : Int32)) C dL_law_29 (by decide) ?_
      refine x_iand C dL_law_31 ?_
      obtain ⟨j, hj, ej⟩ := pk_andE (xs i.toNatClampNeg) (m := 31) 5 (by decide)
      refine x_eqi ej ?_
      rcases (by omega : j = 0 ∨ j = 1 ∨ j = 2 ∨ j = 3 ∨ j = 4 ∨ j = 5 ∨ j = 6 ∨ j = 7 ∨ j = 8 ∨ j = 9 ∨ j = 10 ∨ j = 11 ∨ j = 12 ∨ j = 13 ∨ j = 14 ∨ j = 15 ∨ j = 16 ∨ j = 17 ∨ j = 18 ∨ j = 19 ∨ j = 20 ∨ j = 21 ∨ j = 22 ∨ j = 23 ∨ j = 24 ∨ j = 25 ∨ j = 26 ∨ j = 27 ∨ j = 28 ∨ j = 29 ∨ j = 30 ∨ j = 31) with rfl | rfl | rfl | rfl | rfl | rfl | rfl | rfl | rfl | rfl | rfl | rfl | rfl | rfl | rfl | rfl | rfl | rfl | rfl | rfl | rfl | rfl | rfl | rfl | rfl | rfl | rfl | rfl | rfl | rfl | rfl | rfl
      · refine x_eqi (w := (0 : Int32)) (by decide) ?_
        refine x_tableIn C 156 dL_law_32 (by decide) (by decide) rfl (by decide) ?_
        exact lc_feed C hX hbl hbz hL hi0 hi hS kend
      · refine x_eqi (w := (1 : Int32)) (by decide) ?_
        refine x_tableIn C 179 dL_law_32 (by decide) (by decide) rfl (by decide) ?_
        exact lc_bridge C hX hbl hbz hL hi0 hi hS kend
      · refine x_eqi (w := (2 : Int32)) (by decide) ?_
        refine x_tableIn C 192 dL_law_32 (by decide) (by decide) rfl (by decide) ?_
        exact lc_fault C hX hbl hbz hL hi0 hi hS kend
      · refine x_eqi (w := (3 : Int32)) (by decide) ?_
        refine x_tableIn C 205 dL_law_32 (by decide) (by decide) rfl (by decide) ?_
        exact lc_told C hX hbl hbz hL hi0 hi hS kend
      · refine x_eqi (w := (4 : Int32)) (by decide) ?_
        refine x_tableIn C 228 dL_law_32 (by decide) (by decide) rfl (by decide) ?_
        exact lc_matter C hX hbl hbz hL hi0 hi hS kend
      · refine x_eqi (w := (5 : Int32)) (by decide) ?_
        refine x_tableIn C 261 dL_law_32 (by decide) (by decide) rfl (by decide) ?_
        exact lc_traveller C hX hbl hbz hL hi0 hi hS kend
      · refine x_eqi (w := (6 : Int32)) (by decide) ?_
        refine x_tableIn C 294 dL_law_32 (by decide) (by decide) rfl (by decide) ?_
        exact lc_seat C hX hbl hbz hL hi0 hi hS kend
      · refine x_eqi (w := (7 : Int32)) (by decide) ?_
        refine x_tableIn C 317 dL_law_32 (by decide) (by decide) rfl (by decide) ?_
        exact lc_tell C hX hbl hbz hL hi0 hi hS kend
      · refine x_eqi (w := (8 : Int32)) (by decide) ?_
        refine x_tableIn C 340 dL_law_32 (by decide) (by decide) rfl (by decide) ?_
        exact lc_rise C hX hbl hbz hL hi0 hi hS kend
      · refine x_eqi (w := (9 : Int32)) (by decide) ?_
        refine x_tableIn C 353 dL_law_32 (by decide) (by decide) rfl (by decide) ?_
        exact lc_learn C hX hbl hbz hL hi0 hi hS kend
      · refine x_eqi (w := (10 : Int32)) (by decide) ?_
        refine x_tableIn C 376 dL_law_32 (by decide) (by decide) rfl (by decide) ?_
        exact lc_minute C hX hbl hbz hL hi0 hi hS kend
      · refine x_eqi (w := (11 : Int32)) (by decide) ?_
        refine x_tableIn C 399 dL_law_32 (by decide) (by decide) rfl (by decide) ?_
        exact lc_anew C hX hbl hbz hL hi0 hi hS kend
      · refine x_eqi (w := (12 : Int32)) (by decide) ?_
        refine x_tableIn C 412 dL_law_32 (by decide) (by decide) rfl (by decide) ?_
        exact lc_drift C hX hbl hbz hL hi0 hi hS kend
      · refine x_eqi (w := (13 : Int32)) (by decide) ?_
        refine x_tableIn C 435 dL_law_32 (by decide) (by decide) rfl (by decide) ?_
        exact lc_undo C hX hbl hbz hL hi0 hi hS kend
      · refine x_eqi (w := (14 : Int32)) (by decide) ?_
        refine x_tableIn C 458 dL_law_32 (by decide) (by decide) rfl (by decide) ?_
        exact lc_stay C hX hbl hbz hL hi0 hi hS kend
      · refine x_eqi (w := (15 : Int32)) (by decide) ?_
        refine x_tableIn C 491 dL_law_32 (by decide) (by decide) rfl (by decide) ?_
        exact lc_talk C hX hbl hbz hL hi0 hi hS kend
      · refine x_eqi (w := (16 : Int32)) (by decide) ?_
        refine x_tableIn C 524 dL_law_32 (by decide) (by decide) rfl (by decide) ?_
        exact lc_queue C hX hbl hbz hL hi0 hi hS kend
      · refine x_eqi (w := (17 : Int32)) (by decide) ?_
        refine x_tableIn C 547 dL_law_32 (by decide) (by decide) rfl (by decide) ?_
        exact lc_dry C hX hbl hbz hL hi0 hi hS kend
      · refine x_eqi (w := (18 : Int32)) (by decide) ?_
        refine x_tableIn C 580 dL_law_32 (by decide) (by decide) rfl (by decide) ?_
        exact lc_stayed C hX hbl hbz hL hi0 hi hS kend
      · refine x_eqi (w := (19 : Int32)) (by decide) ?_
        refine x_tableIn C 613 dL_law_32 (by decide) (by decide) rfl (by decide) ?_
        exact lc_couldBe C hX hbl hbz hL hi0 hi hS kend
      · refine x_eqi (w := (20 : Int32)) (by decide) ?_
        refine x_tableIn C 626 dL_law_32 (by decide) (by decide) rfl (by decide) ?_
        exact lc_ask C hX hbl hbz hL hi0 hi hS kend
      · refine x_eqi (w := (21 : Int32)) (by decide) ?_
        refine x_tableIn C 639 dL_law_32 (by decide) (by decide) rfl (by decide) ?_
        exact lc_write C hX hbl hbz hL hi0 hi hS kend
      · refine x_eqi (w := (22 : Int32)) (by decide) ?_
        refine x_tableIn C 672 dL_law_32 (by decide) (by decide) rfl (by decide) ?_
        exact lc_judge C hX hbl hbz hL hi0 hi hS kend
      · refine x_eqi (w := (23 : Int32)) (by decide) ?_
        refine x_tableIn C 685 dL_law_32 (by decide) (by decide) rfl (by decide) ?_
        exact lc_tear C hX hbl hbz hL hi0 hi hS kend
      · refine x_eqi (w := (24 : Int32)) (by decide) ?_
        refine x_tableIn C 698 dL_law_32 (by decide) (by decide) rfl (by decide) ?_
        exact lc_seed C hX hbl hbz hL hi0 hi hS kend
      · refine x_eqi (w := (25 : Int32)) (by decide) ?_
        refine x_tableIn C 721 dL_law_32 (by decide) (by decide) rfl (by decide) ?_
        exact lc_keep C hX hbl hbz hL hi0 hi hS kend
      · refine x_eqi (w := (26 : Int32)) (by decide) ?_
        refine x_tableIn C 744 dL_law_32 (by decide) (by decide) rfl (by decide) ?_
        exact lc_goBack C hX hbl hbz hL hi0 hi hS kend
      · refine x_eqi (w := (27 : Int32)) (by decide) ?_
        refine x_tableOut C 767 dL_law_32 (by decide) (by decide) ?_
        exact kend _ hS
      · refine x_eqi (w := (28 : Int32)) (by decide) ?_
        refine x_tableOut C 767 dL_law_32 (by decide) (by decide) ?_
        exact kend _ hS
      · refine x_eqi (w := (29 : Int32)) (by decide) ?_
        refine x_tableOut C 767 dL_law_32 (by decide) (by decide) ?_
        exact kend _ hS
      · refine x_eqi (w := (30 : Int32)) (by decide) ?_
        refine x_tableOut C 767 dL_law_32 (by decide) (by decide) ?_
        exact kend _ hS
      · refine x_eqi (w := (31 : Int32)) (by decide) ?_
        refine x_tableOut C 767 dL_law_32 (by decide) (by decide) ?_
        exact kend _ hS
