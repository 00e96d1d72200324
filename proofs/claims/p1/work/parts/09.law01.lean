set_option maxRecDepth 20000 in
theorem lc_queue {p : Program} {l : Launch} {e : Env} {s : State} {m : MethodId} {below : List Frame} {meth : Method} {c : Code} {G : GT} {z b : Nat} {xs : Nat → Int32} {u : HpT} (C : Cx p s m #[Value.ref b] c G RL cL_law 4 z) (hX : va_X b 3 xs s s.heap) (hbl : b < s.heap.size) (hbz : b < z) (hF : Fresh G z u) (kend : ∀ u2 : HpT, Xw p l e room_1 s m #[Value.ref b] below meth c G z 4 (lw_Z below #[Value.ref b] s) 767 [(3, .int (0 : Int32)), (2, .ref (z + 134)), (1, .ref (z + 0)), (0, .ref b)] [] u2 157 157 5325) : Xw p l e room_1 s m #[Value.ref b] below meth c G z 4 (lw_Z below #[Value.ref b] s) 524 [(3, .int (0 : Int32)), (2, .ref (z + 134)), (1, .ref (z + 0)), (0, .ref b)] [] u 157 157 5325 := by
  obtain ⟨h0, h1, h2, h3, h4, h5, h6, h98, h99, h101, h106, h109, h112, h119, h126, h127, h128, h129, h130, h131, h132, h133, h134, h135, h146, h154, h155, h156⟩ := hF
  obtain ⟨va, eva⟩ : ∃ w : Int32, xs 1 = w := ⟨_, rfl⟩
  have hl_va : -2147483648 ≤ va.toInt := Int32.le_toInt va
  have hh_va : va.toInt ≤ 2147483647 := Int32.toInt_le va
  rcases (by omega : va.toInt < 1 ∨ 1 ≤ va.toInt) with q | q
  · have hh_va : va.toInt ≤ 0 := by omega
    rcases (by omega : va.toInt < 0 ∨ 0 ≤ va.toInt) with q | q
    · have hh_va : va.toInt ≤ -1 := by omega
      refine x_aload_n C 2 dL_law_524 rfl rfl ?_
      refine x_aload_n C 3 dL_law_525 rfl rfl ?_
      refine x_iload_n C 0 dL_law_526 rfl rfl ?_
      refine x_iconst (v := (1 : Int32)) C dL_law_527 (by decide) ?_
      refine x_iadd C dL_law_528 ?_
      refine x_eqi (w := (1 : Int32)) (by decide) ?_
      refine x_sld (v := va) C 1 hX hbl hbz (vp_in_lit (by decide) (by decide)) (by decide) eva dL_law_529 ?_
      refine x_callV C cl_X9_queue kmL_80 (ci := 8) (b := 0) (As := [.int va]) (rest := []) rfl h0 (p_X9_queue_0 u va hl_va hh_va) rfl rfl (Nat.le_of_ble_eq_true rfl) ⟨Nat.le_of_ble_eq_true rfl, Nat.le_of_ble_eq_true rfl⟩ ⟨Nat.le_of_ble_eq_true rfl, Nat.le_of_ble_eq_true rfl⟩ dL_law_530 ?_
      refine x_norm (st2 := [.int (-1000000002 : Int32)]) (kc2 := 157) (ks2 := 5325) rfl rfl rfl rfl rfl ?_
      refine x_aload_n C 1 dL_law_533 rfl rfl ?_
      refine x_aload_n C 3 dL_law_534 rfl rfl ?_
      refine x_iload_n C 0 dL_law_535 rfl rfl ?_
      refine x_iconst (v := (1 : Int32)) C dL_law_536 (by decide) ?_
      refine x_iadd C dL_law_537 ?_
      refine x_eqi (w := (1 : Int32)) (by decide) ?_
      refine x_sld (v := va) C 1 hX hbl hbz (vp_in_lit (by decide) (by decide)) (by decide) eva dL_law_538 ?_
      have g134 := h134
      refine x_callV C cl_X10_queue kmL_83 (ci := 9) (b := 134) (As := [.int va]) (rest := [.int (-1000000002 : Int32)]) rfl g134 (p_X10_queue_0 u va hl_va hh_va) rfl rfl (Nat.le_of_ble_eq_true rfl) ⟨Nat.le_of_ble_eq_true rfl, Nat.le_of_ble_eq_true rfl⟩ ⟨Nat.le_of_ble_eq_true rfl, Nat.le_of_ble_eq_true rfl⟩ dL_law_539 ?_
      refine x_norm (st2 := [.int (-1000000002 : Int32), .int (-1000000002 : Int32)]) (kc2 := 157) (ks2 := 5325) rfl rfl rfl rfl rfl ?_
      refine x_icmp_eq_t C 767 dL_law_542 (by decide) rfl ?_
      exact kend _
    · have hl_va : 0 ≤ va.toInt := by omega
      have eva : xs 1 = (0 : Int32) := eva.trans (by rw [i_eq_iff]; have e9 : (0 : Int32).toInt = 0 := (by decide); omega)
      refine x_aload_n C 2 dL_law_524 rfl rfl ?_
      refine x_aload_n C 3 dL_law_525 rfl rfl ?_
      refine x_iload_n C 0 dL_law_526 rfl rfl ?_
      refine x_iconst (v := (1 : Int32)) C dL_law_527 (by decide) ?_
      refine x_iadd C dL_law_528 ?_
      refine x_eqi (w := (1 : Int32)) (by decide) ?_
      refine x_sld (v := (0 : Int32)) C 1 hX hbl hbz (vp_in_lit (by decide) (by decide)) (by decide) eva dL_law_529 ?_
      refine x_callV C cl_X9_queue kmL_80 (ci := 8) (b := 0) (As := [.int (0 : Int32)]) (rest := []) rfl h0 (p_X9_queue_1 u h0 h3 h101 h112) rfl rfl (Nat.le_of_ble_eq_true rfl) ⟨Nat.le_of_ble_eq_true rfl, Nat.le_of_ble_eq_true rfl⟩ ⟨Nat.le_of_ble_eq_true rfl, Nat.le_of_ble_eq_true rfl⟩ dL_law_530 ?_
      obtain ⟨u1, eu1⟩ : ∃ w : HpT, w = (hup u 101 (.inr (4, [.ref (z + 102), .ref (z + 103), .ref (z + 104), .ref (z + 105), .int (0 : Int32), .int (0 : Int32), .int (0 : Int32)]))) := ⟨_, rfl⟩
      refine x_norm (st2 := [.int (0 : Int32)]) (kc2 := 157) (ks2 := 5325) rfl rfl rfl rfl eu1.symm ?_
      refine x_aload_n C 1 dL_law_533 rfl rfl ?_
      refine x_aload_n C 3 dL_law_534 rfl rfl ?_
      refine x_iload_n C 0 dL_law_535 rfl rfl ?_
      refine x_iconst (v := (1 : Int32)) C dL_law_536 (by decide) ?_
      refine x_iadd C dL_law_537 ?_
      refine x_eqi (w := (1 : Int32)) (by decide) ?_
      refine x_sld (v := (0 : Int32)) C 1 hX hbl hbz (vp_in_lit (by decide) (by decide)) (by decide) eva dL_law_538 ?_
      have g134 := (congrFun eu1 134).trans (hup_n' (by decide) (h134))
      have g146 := (congrFun eu1 146).trans (hup_n' (by decide) (h146))
      refine x_callV C cl_X10_queue kmL_83 (ci := 9) (b := 134) (As := [.int (0 : Int32)]) (rest := [.int (0 : Int32)]) rfl g134 (p_X10_queue_1 u1 g134 g146) rfl rfl (Nat.le_of_ble_eq_true rfl) ⟨Nat.le_of_ble_eq_true rfl, Nat.le_of_ble_eq_true rfl⟩ ⟨Nat.le_of_ble_eq_true rfl, Nat.le_of_ble_eq_true rfl⟩ dL_law_539 ?_
      refine x_norm (st2 := [.int (0 : Int32), .int (0 : Int32)]) (kc2 := 157) (ks2 := 5325) rfl rfl rfl rfl rfl ?_
      refine x_icmp_eq_t C 767 dL_law_542 (by decide) rfl ?_
      exact kend _
  · have hl_va : 1 ≤ va.toInt := by omega
    rcases (by omega : va.toInt < 2 ∨ 2 ≤ va.toInt) with q | q
    · have hh_va : va.toInt ≤ 1 := by omega
      have eva : xs 1 = (1 : Int32) := eva.trans (by rw [i_eq_iff]; have e9 : (1 : Int32).toInt = 1 := (by decide); omega)
      refine x_aload_n C 2 dL_law_524 rfl rfl ?_
      refine x_aload_n C 3 dL_law_525 rfl rfl ?_
      refine x_iload_n C 0 dL_law_526 rfl rfl ?_
      refine x_iconst (v := (1 : Int32)) C dL_law_527 (by decide) ?_
      refine x_iadd C dL_law_528 ?_
      refine x_eqi (w := (1 : Int32)) (by decide) ?_
      refine x_sld (v := (1 : Int32)) C 1 hX hbl hbz (vp_in_lit (by decide) (by decide)) (by decide) eva dL_law_529 ?_
      refine x_callV C cl_X9_queue kmL_80 (ci := 8) (b := 0) (As := [.int (1 : Int32)]) (rest := []) rfl h0 (p_X9_queue_2 u h0 h3 h101 h112) rfl rfl (Nat.le_of_ble_eq_true rfl) ⟨Nat.le_of_ble_eq_true rfl, Nat.le_of_ble_eq_true rfl⟩ ⟨Nat.le_of_ble_eq_true rfl, Nat.le_of_ble_eq_true rfl⟩ dL_law_530 ?_
      obtain ⟨u1, eu1⟩ : ∃ w : HpT, w = (hup u 101 (.inr (4, [.ref (z + 102), .ref (z + 103), .ref (z + 104), .ref (z + 105), .int (0 : Int32), .int (0 : Int32), .int (0 : Int32)]))) := ⟨_, rfl⟩
      refine x_norm (st2 := [.int (0 : Int32)]) (kc2 := 157) (ks2 := 5325) rfl rfl rfl rfl eu1.symm ?_
      refine x_aload_n C 1 dL_law_533 rfl rfl ?_
      refine x_aload_n C 3 dL_law_534 rfl rfl ?_
      refine x_iload_n C 0 dL_law_535 rfl rfl ?_
      refine x_iconst (v := (1 : Int32)) C dL_law_536 (by decide) ?_
      refine x_iadd C dL_law_537 ?_
      refine x_eqi (w := (1 : Int32)) (by decide) ?_
      refine x_sld (v := (1 : Int32)) C 1 hX hbl hbz (vp_in_lit (by decide) (by decide)) (by decide) eva dL_law_538 ?_
      have g134 := (congrFun eu1 134).trans (hup_n' (by decide) (h134))
      have g146 := (congrFun eu1 146).trans (hup_n' (by decide) (h146))
      refine x_callV C cl_X10_queue kmL_83 (ci := 9) (b := 134) (As := [.int (1 : Int32)]) (rest := [.int (0 : Int32)]) rfl g134 (p_X10_queue_2 u1 g134 g146) rfl rfl (Nat.le_of_ble_eq_true rfl) ⟨Nat.le_of_ble_eq_true rfl, Nat.le_of_ble_eq_true rfl⟩ ⟨Nat.le_of_ble_eq_true rfl, Nat.le_of_ble_eq_true rfl⟩ dL_law_539 ?_
      refine x_norm (st2 := [.int (0 : Int32), .int (0 : Int32)]) (kc2 := 157) (ks2 := 5325) rfl rfl rfl rfl rfl ?_
      refine x_icmp_eq_t C 767 dL_law_542 (by decide) rfl ?_
      exact kend _
    · have hl_va : 2 ≤ va.toInt := by omega
      refine x_aload_n C 2 dL_law_524 rfl rfl ?_
      refine x_aload_n C 3 dL_law_525 rfl rfl ?_
      refine x_iload_n C 0 dL_law_526 rfl rfl ?_
      refine x_iconst (v := (1 : Int32)) C dL_law_527 (by decide) ?_
      refine x_iadd C dL_law_528 ?_
      refine x_eqi (w := (1 : Int32)) (by decide) ?_
      refine x_sld (v := va) C 1 hX hbl hbz (vp_in_lit (by decide) (by decide)) (by decide) eva dL_law_529 ?_
      refine x_callV C cl_X9_queue kmL_80 (ci := 8) (b := 0) (As := [.int va]) (rest := []) rfl h0 (p_X9_queue_3 u va hl_va hh_va) rfl rfl (Nat.le_of_ble_eq_true rfl) ⟨Nat.le_of_ble_eq_true rfl, Nat.le_of_ble_eq_true rfl⟩ ⟨Nat.le_of_ble_eq_true rfl, Nat.le_of_ble_eq_true rfl⟩ dL_law_530 ?_
      refine x_norm (st2 := [.int (-1000000002 : Int32)]) (kc2 := 157) (ks2 := 5325) rfl rfl rfl rfl rfl ?_
      refine x_aload_n C 1 dL_law_533 rfl rfl ?_
      refine x_aload_n C 3 dL_law_534 rfl rfl ?_
      refine x_iload_n C 0 dL_law_535 rfl rfl ?_
      refine x_iconst (v := (1 : Int32)) C dL_law_536 (by decide) ?_
      refine x_iadd C dL_law_537 ?_
      refine x_eqi (w := (1 : Int32)) (by decide) ?_
      refine x_sld (v := va) C 1 hX hbl hbz (vp_in_lit (by decide) (by decide)) (by decide) eva dL_law_538 ?_
      have g134 := h134
      refine x_callV C cl_X10_queue kmL_83 (ci := 9) (b := 134) (As := [.int va]) (rest := [.int (-1000000002 : Int32)]) rfl g134 (p_X10_queue_3 u va hl_va hh_va) rfl rfl (Nat.le_of_ble_eq_true rfl) ⟨Nat.le_of_ble_eq_true rfl, Nat.le_of_ble_eq_true rfl⟩ ⟨Nat.le_of_ble_eq_true rfl, Nat.le_of_ble_eq_true rfl⟩ dL_law_539 ?_
      refine x_norm (st2 := [.int (-1000000002 : Int32), .int (-1000000002 : Int32)]) (kc2 := 157) (ks2 := 5325) rfl rfl rfl rfl rfl ?_
      refine x_icmp_eq_t C 767 dL_law_542 (by decide) rfl ?_
      exact kend _
set_option maxRecDepth 20000 in
theorem lc_dry {p : Program} {l : Launch} {e : Env} {s : State} {m : MethodId} {below : List Frame} {meth : Method} {c : Code} {G : GT} {z b : Nat} {xs : Nat → Int32} {u : HpT} (C : Cx p s m #[Value.ref b] c G RL cL_law 4 z) (hX : va_X b 3 xs s s.heap) (hbl : b < s.heap.size) (hbz : b < z) (hF : Fresh G z u) (kend : ∀ u2 : HpT, Xw p l e room_1 s m #[Value.ref b] below meth c G z 4 (lw_Z below #[Value.ref b] s) 767 [(3, .int (0 : Int32)), (2, .ref (z + 134)), (1, .ref (z + 0)), (0, .ref b)] [] u2 157 157 5325) : Xw p l e room_1 s m #[Value.ref b] below meth c G z 4 (lw_Z below #[Value.ref b] s) 547 [(3, .int (0 : Int32)), (2, .ref (z + 134)), (1, .ref (z + 0)), (0, .ref b)] [] u 157 157 5325 := by
  obtain ⟨h0, h1, h2, h3, h4, h5, h6, h98, h99, h101, h106, h109, h112, h119, h126, h127, h128, h129, h130, h131, h132, h133, h134, h135, h146, h154, h155, h156⟩ := hF
  obtain ⟨va, eva⟩ : ∃ w : Int32, xs 1 = w := ⟨_, rfl⟩
  have hl_va : -2147483648 ≤ va.toInt := Int32.le_toInt va
  have hh_va : va.toInt ≤ 2147483647 := Int32.toInt_le va
  obtain ⟨vb, evb⟩ : ∃ w : Int32, xs 2 = w := ⟨_, rfl⟩
  have hl_vb : -2147483648 ≤ vb.toInt := Int32.le_toInt vb
  have hh_vb : vb.toInt ≤ 2147483647 := Int32.toInt_le vb
  rcases (by omega : va.toInt < 0 ∨ 0 ≤ va.toInt) with q | q
  · have hh_va : va.toInt ≤ -1 := by omega
    refine x_aload_n C 2 dL_law_547 rfl rfl ?_
    refine x_aload_n C 3 dL_law_548 rfl rfl ?_
    refine x_iload_n C 0 dL_law_549 rfl rfl ?_
    refine x_iconst (v := (1 : Int32)) C dL_law_550 (by decide) ?_
    refine x_iadd C dL_law_551 ?_
    refine x_eqi (w := (1 : Int32)) (by decide) ?_
    refine x_sld (v := va) C 1 hX hbl hbz (vp_in_lit (by decide) (by decide)) (by decide) eva dL_law_552 ?_
    refine x_aload_n C 3 dL_law_553 rfl rfl ?_
    refine x_iload_n C 0 dL_law_554 rfl rfl ?_
    refine x_iconst (v := (2 : Int32)) C dL_law_555 (by decide) ?_
    refine x_iadd C dL_law_556 ?_
    refine x_eqi (w := (2 : Int32)) (by decide) ?_
    refine x_sld (v := vb) C 2 hX hbl hbz (vp_in_lit (by decide) (by decide)) (by decide) evb dL_law_557 ?_
    refine x_callV C cl_X9_dry kmL_84 (ci := 8) (b := 0) (As := [.int va, .int vb]) (rest := []) rfl h0 (p_X9_dry_0 u va hl_va hh_va vb hl_vb hh_vb) rfl rfl (Nat.le_of_ble_eq_true rfl) ⟨Nat.le_of_ble_eq_true rfl, Nat.le_of_ble_eq_true rfl⟩ ⟨Nat.le_of_ble_eq_true rfl, Nat.le_of_ble_eq_true rfl⟩ dL_law_558 ?_
    refine x_norm (st2 := [.int (-1000000002 : Int32)]) (kc2 := 157) (ks2 := 5325) rfl rfl rfl rfl rfl ?_
    refine x_aload_n C 1 dL_law_561 rfl rfl ?_
    refine x_aload_n C 3 dL_law_562 rfl rfl ?_
    refine x_iload_n C 0 dL_law_563 rfl rfl ?_
    refine x_iconst (v := (1 : Int32)) C dL_law_564 (by decide) ?_
    refine x_iadd C dL_law_565 ?_
    refine x_eqi (w := (1 : Int32)) (by decide) ?_
    refine x_sld (v := va) C 1 hX hbl hbz (vp_in_lit (by decide) (by decide)) (by decide) eva dL_law_566 ?_
    refine x_aload_n C 3 dL_law_567 rfl rfl ?_
    refine x_iload_n C 0 dL_law_568 rfl rfl ?_
    refine x_iconst (v := (2 : Int32)) C dL_law_569 (by decide) ?_
    refine x_iadd C dL_law_570 ?_
    refine x_eqi (w := (2 : Int32)) (by decide) ?_
    refine x_sld (v := vb) C 2 hX hbl hbz (vp_in_lit (by decide) (by decide)) (by decide) evb dL_law_571 ?_
    have g134 := h134
    refine x_callV C cl_X10_dry kmL_87 (ci := 9) (b := 134) (As := [.int va, .int vb]) (rest := [.int (-1000000002 : Int32)]) rfl g134 (p_X10_dry_0 u va hl_va hh_va vb hl_vb hh_vb) rfl rfl (Nat.le_of_ble_eq_true rfl) ⟨Nat.le_of_ble_eq_true rfl, Nat.le_of_ble_eq_true rfl⟩ ⟨Nat.le_of_ble_eq_true rfl, Nat.le_of_ble_eq_true rfl⟩ dL_law_572 ?_
    refine x_norm (st2 := [.int (-1000000002 : Int32), .int (-1000000002 : Int32)]) (kc2 := 157) (ks2 := 5325) rfl rfl rfl rfl rfl ?_
    refine x_icmp_eq_t C 767 dL_law_575 (by decide) rfl ?_
    exact kend _
  · have hl_va : 0 ≤ va.toInt := by omega
    rcases (by omega : va.toInt < 61 ∨ 61 ≤ va.toInt) with q | q
    · have hh_va : va.toInt ≤ 60 := by omega
      rcases (by omega : vb.toInt < 0 ∨ 0 ≤ vb.toInt) with q | q
      · have hh_vb : vb.toInt ≤ -1 := by omega
        refine x_aload_n C 2 dL_law_547 rfl rfl ?_
        refine x_aload_n C 3 dL_law_548 rfl rfl ?_
        refine x_iload_n C 0 dL_law_549 rfl rfl ?_
        refine x_iconst (v := (1 : Int32)) C dL_law_550 (by decide) ?_
        refine x_iadd C dL_law_551 ?_
        refine x_eqi (w := (1 : Int32)) (by decide) ?_
        refine x_sld (v := va) C 1 hX hbl hbz (vp_in_lit (by decide) (by decide)) (by decide) eva dL_law_552 ?_
        refine x_aload_n C 3 dL_law_553 rfl rfl ?_
        refine x_iload_n C 0 dL_law_554 rfl rfl ?_
        refine x_iconst (v := (2 : Int32)) C dL_law_555 (by decide) ?_
        refine x_iadd C dL_law_556 ?_
        refine x_eqi (w := (2 : Int32)) (by decide) ?_
        refine x_sld (v := vb) C 2 hX hbl hbz (vp_in_lit (by decide) (by decide)) (by decide) evb dL_law_557 ?_
        refine x_callV C cl_X9_dry kmL_84 (ci := 8) (b := 0) (As := [.int va, .int vb]) (rest := []) rfl h0 (p_X9_dry_1 u va hl_va hh_va vb hl_vb hh_vb) rfl rfl (Nat.le_of_ble_eq_true rfl) ⟨Nat.le_of_ble_eq_true rfl, Nat.le_of_ble_eq_true rfl⟩ ⟨Nat.le_of_ble_eq_true rfl, Nat.le_of_ble_eq_true rfl⟩ dL_law_558 ?_
        refine x_norm (st2 := [.int (-1000000002 : Int32)]) (kc2 := 157) (ks2 := 5325) rfl rfl rfl rfl rfl ?_
        refine x_aload_n C 1 dL_law_561 rfl rfl ?_
        refine x_aload_n C 3 dL_law_562 rfl rfl ?_
        refine x_iload_n C 0 dL_law_563 rfl rfl ?_
        refine x_iconst (v := (1 : Int32)) C dL_law_564 (by decide) ?_
        refine x_iadd C dL_law_565 ?_
        refine x_eqi (w := (1 : Int32)) (by decide) ?_
        refine x_sld (v := va) C 1 hX hbl hbz (vp_in_lit (by decide) (by decide)) (by decide) eva dL_law_566 ?_
        refine x_aload_n C 3 dL_law_567 rfl rfl ?_
        refine x_iload_n C 0 dL_law_568 rfl rfl ?_
        refine x_iconst (v := (2 : Int32)) C dL_law_569 (by decide) ?_
        refine x_iadd C dL_law_570 ?_
        refine x_eqi (w := (2 : Int32)) (by decide) ?_
        refine x_sld (v := vb) C 2 hX hbl hbz (vp_in_lit (by decide) (by decide)) (by decide) evb dL_law_571 ?_
        have g134 := h134
        refine x_callV C cl_X10_dry kmL_87 (ci := 9) (b := 134) (As := [.int va, .int vb]) (rest := [.int (-1000000002 : Int32)]) rfl g134 (p_X10_dry_1 u va hl_va hh_va vb hl_vb hh_vb) rfl rfl (Nat.le_of_ble_eq_true rfl) ⟨Nat.le_of_ble_eq_true rfl, Nat.le_of_ble_eq_true rfl⟩ ⟨Nat.le_of_ble_eq_true rfl, Nat.le_of_ble_eq_true rfl⟩ dL_law_572 ?_
        refine x_norm (st2 := [.int (-1000000002 : Int32), .int (-1000000002 : Int32)]) (kc2 := 157) (ks2 := 5325) rfl rfl rfl rfl rfl ?_
        refine x_icmp_eq_t C 767 dL_law_575 (by decide) rfl ?_
        exact kend _
      · have hl_vb : 0 ≤ vb.toInt := by omega
        rcases (by omega : vb.toInt < 101 ∨ 101 ≤ vb.toInt) with q | q
        · have hh_vb : vb.toInt ≤ 100 := by omega
          refine x_aload_n C 2 dL_law_547 rfl rfl ?_
          refine x_aload_n C 3 dL_law_548 rfl rfl ?_
          refine x_iload_n C 0 dL_law_549 rfl rfl ?_
          refine x_iconst (v := (1 : Int32)) C dL_law_550 (by decide) ?_
          refine x_iadd C dL_law_551 ?_
          refine x_eqi (w := (1 : Int32)) (by decide) ?_
          refine x_sld (v := va) C 1 hX hbl hbz (vp_in_lit (by decide) (by decide)) (by decide) eva dL_law_552 ?_
          refine x_aload_n C 3 dL_law_553 rfl rfl ?_
          refine x_iload_n C 0 dL_law_554 rfl rfl ?_
          refine x_iconst (v := (2 : Int32)) C dL_law_555 (by decide) ?_
          refine x_iadd C dL_law_556 ?_
          refine x_eqi (w := (2 : Int32)) (by decide) ?_
          refine x_sld (v := vb) C 2 hX hbl hbz (vp_in_lit (by decide) (by decide)) (by decide) evb dL_law_557 ?_
          refine x_callV C cl_X9_dry kmL_84 (ci := 8) (b := 0) (As := [.int va, .int vb]) (rest := []) rfl h0 (p_X9_dry_2 u va hl_va hh_va vb hl_vb hh_vb) rfl rfl (Nat.le_of_ble_eq_true rfl) ⟨Nat.le_of_ble_eq_true rfl, Nat.le_of_ble_eq_true rfl⟩ ⟨Nat.le_of_ble_eq_true rfl, Nat.le_of_ble_eq_true rfl⟩ dL_law_558 ?_
          refine x_norm (st2 := [.int (dryF vb va.toInt.toNat 1000000000).toInt32]) (kc2 := 157) (ks2 := 5325) rfl rfl rfl rfl rfl ?_
          refine x_aload_n C 1 dL_law_561 rfl rfl ?_
          refine x_aload_n C 3 dL_law_562 rfl rfl ?_
          refine x_iload_n C 0 dL_law_563 rfl rfl ?_
          refine x_iconst (v := (1 : Int32)) C dL_law_564 (by decide) ?_
          refine x_iadd C dL_law_565 ?_
          refine x_eqi (w := (1 : Int32)) (by decide) ?_
          refine x_sld (v := va) C 1 hX hbl hbz (vp_in_lit (by decide) (by decide)) (by decide) eva dL_law_566 ?_
          refine x_aload_n C 3 dL_law_567 rfl rfl ?_
          refine x_iload_n C 0 dL_law_568 rfl rfl ?_
          refine x_iconst (v := (2 : Int32)) C dL_law_569 (by decide) ?_
          refine x_iadd C dL_law_570 ?_
          refine x_eqi (w := (2 : Int32)) (by decide) ?_
          refine x_sld (v := vb) C 2 hX hbl hbz (vp_in_lit (by decide) (by decide)) (by decide) evb dL_law_571 ?_
          have g134 := h134
          refine x_callV C cl_X10_dry kmL_87 (ci := 9) (b := 134) (As := [.int va, .int vb]) (rest := [.int (dryF vb va.toInt.toNat 1000000000).toInt32]) rfl g134 (p_X10_dry_2 u va hl_va hh_va vb hl_vb hh_vb) rfl rfl (Nat.le_of_ble_eq_true rfl) ⟨Nat.le_of_ble_eq_true rfl, Nat.le_of_ble_eq_true rfl⟩ ⟨Nat.le_of_ble_eq_true rfl, Nat.le_of_ble_eq_true rfl⟩ dL_law_572 ?_
          refine x_norm (st2 := [.int (dryF vb va.toInt.toNat 1000000000).toInt32, .int (dryF vb va.toInt.toNat 1000000000).toInt32]) (kc2 := 157) (ks2 := 5325) rfl rfl rfl rfl rfl ?_
          refine x_icmp_eq_t C 767 dL_law_575 (by decide) rfl ?_
          exact kend _
        · have hl_vb : 101 ≤ vb.toInt := by omega
          refine x_aload_n C 2 dL_law_547 rfl rfl ?_
          refine x_aload_n C 3 dL_law_548 rfl rfl ?_
          refine x_iload_n C 0 dL_law_549 rfl rfl ?_
          refine x_iconst (v := (1 : Int32)) C dL_law_550 (by decide) ?_
          refine x_iadd C dL_law_551 ?_
          refine x_eqi (w := (1 : Int32)) (by decide) ?_
          refine x_sld (v := va) C 1 hX hbl hbz (vp_in_lit (by decide) (by decide)) (by decide) eva dL_law_552 ?_
          refine x_aload_n C 3 dL_law_553 rfl rfl ?_
          refine x_iload_n C 0 dL_law_554 rfl rfl ?_
          refine x_iconst (v := (2 : Int32)) C dL_law_555 (by decide) ?_
          refine x_iadd C dL_law_556 ?_
          refine x_eqi (w := (2 : Int32)) (by decide) ?_
          refine x_sld (v := vb) C 2 hX hbl hbz (vp_in_lit (by decide) (by decide)) (by decide) evb dL_law_557 ?_
          refine x_callV C cl_X9_dry kmL_84 (ci := 8) (b := 0) (As := [.int va, .int vb]) (rest := []) rfl h0 (p_X9_dry_3 u va hl_va hh_va vb hl_vb hh_vb) rfl rfl (Nat.le_of_ble_eq_true rfl) ⟨Nat.le_of_ble_eq_true rfl, Nat.le_of_ble_eq_true rfl⟩ ⟨Nat.le_of_ble_eq_true rfl, Nat.le_of_ble_eq_true rfl⟩ dL_law_558 ?_
          refine x_norm (st2 := [.int (-1000000002 : Int32)]) (kc2 := 157) (ks2 := 5325) rfl rfl rfl rfl rfl ?_
          refine x_aload_n C 1 dL_law_561 rfl rfl ?_
          refine x_aload_n C 3 dL_law_562 rfl rfl ?_
          refine x_iload_n C 0 dL_law_563 rfl rfl ?_
          refine x_iconst (v := (1 : Int32)) C dL_law_564 (by decide) ?_
          refine x_iadd C dL_law_565 ?_
          refine x_eqi (w := (1 : Int32)) (by decide) ?_
          refine x_sld (v := va) C 1 hX hbl hbz (vp_in_lit (by decide) (by decide)) (by decide) eva dL_law_566 ?_
          refine x_aload_n C 3 dL_law_567 rfl rfl ?_
          refine x_iload_n C 0 dL_law_568 rfl rfl ?_
          refine x_iconst (v := (2 : Int32)) C dL_law_569 (by decide) ?_
          refine x_iadd C dL_law_570 ?_
          refine x_eqi (w := (2 : Int32)) (by decide) ?_
          refine x_sld (v := vb) C 2 hX hbl hbz (vp_in_lit (by decide) (by decide)) (by decide) evb dL_law_571 ?_
          have g134 := h134
          refine x_callV C cl_X10_dry kmL_87 (ci := 9) (b := 134) (As := [.int va, .int vb]) (rest := [.int (-1000000002 : Int32)]) rfl g134 (p_X10_dry_3 u va hl_va hh_va vb hl_vb hh_vb) rfl rfl (Nat.le_of_ble_eq_true rfl) ⟨Nat.le_of_ble_eq_true rfl, Nat.le_of_ble_eq_true rfl⟩ ⟨Nat.le_of_ble_eq_true rfl, Nat.le_of_ble_eq_true rfl⟩ dL_law_572 ?_
          refine x_norm (st2 := [.int (-1000000002 : Int32), .int (-1000000002 : Int32)]) (kc2 := 157) (ks2 := 5325) rfl rfl rfl rfl rfl ?_
          refine x_icmp_eq_t C 767 dL_law_575 (by decide) rfl ?_
          exact kend _
    · have hl_va : 61 ≤ va.toInt := by omega
      refine x_aload_n C 2 dL_law_547 rfl rfl ?_
      refine x_aload_n C 3 dL_law_548 rfl rfl ?_
      refine x_iload_n C 0 dL_law_549 rfl rfl ?_
      refine x_iconst (v := (1 : Int32)) C dL_law_550 (by decide) ?_
      refine x_iadd C dL_law_551 ?_
      refine x_eqi (w := (1 : Int32)) (by decide) ?_
      refine x_sld (v := va) C 1 hX hbl hbz (vp_in_lit (by decide) (by decide)) (by decide) eva dL_law_552 ?_
      refine x_aload_n C 3 dL_law_553 rfl rfl ?_
      refine x_iload_n C 0 dL_law_554 rfl rfl ?_
      refine x_iconst (v := (2 : Int32)) C dL_law_555 (by decide) ?_
      refine x_iadd C dL_law_556 ?_
      refine x_eqi (w := (2 : Int32)) (by decide) ?_
      refine x_sld (v := vb) C 2 hX hbl hbz (vp_in_lit (by decide) (by decide)) (by decide) evb dL_law_557 ?_
      refine x_callV C cl_X9_dry kmL_84 (ci := 8) (b := 0) (As := [.int va, .int vb]) (rest := []) rfl h0 (p_X9_dry_4 u va hl_va hh_va vb hl_vb hh_vb) rfl rfl (Nat.le_of_ble_eq_true rfl) ⟨Nat.le_of_ble_eq_true rfl, Nat.le_of_ble_eq_true rfl⟩ ⟨Nat.le_of_ble_eq_true rfl, Nat.le_of_ble_eq_true rfl⟩ dL_law_558 ?_
      refine x_norm (st2 := [.int (-1000000002 : Int32)]) (kc2 := 157) (ks2 := 5325) rfl rfl rfl rfl rfl ?_
      refine x_aload_n C 1 dL_law_561 rfl rfl ?_
      refine x_aload_n C 3 dL_law_562 rfl rfl ?_
      refine x_iload_n C 0 dL_law_563 rfl rfl ?_
      refine x_iconst (v := (1 : Int32)) C dL_law_564 (by decide) ?_
      refine x_iadd C dL_law_565 ?_
      refine x_eqi (w := (1 : Int32)) (by decide) ?_
      refine x_sld (v := va) C 1 hX hbl hbz (vp_in_lit (by decide) (by decide)) (by decide) eva dL_law_566 ?_
      refine x_aload_n C 3 dL_law_567 rfl rfl ?_
      refine x_iload_n C 0 dL_law_568 rfl rfl ?_
      refine x_iconst (v := (2 : Int32)) C dL_law_569 (by decide) ?_
      refine x_iadd C dL_law_570 ?_
      refine x_eqi (w := (2 : Int32)) (by decide) ?_
      refine x_sld (v := vb) C 2 hX hbl hbz (vp_in_lit (by decide) (by decide)) (by decide) evb dL_law_571 ?_
      have g134 := h134
      refine x_callV C cl_X10_dry kmL_87 (ci := 9) (b := 134) (As := [.int va, .int vb]) (rest := [.int (-1000000002 : Int32)]) rfl g134 (p_X10_dry_4 u va hl_va hh_va vb hl_vb hh_vb) rfl rfl (Nat.le_of_ble_eq_true rfl) ⟨Nat.le_of_ble_eq_true rfl, Nat.le_of_ble_eq_true rfl⟩ ⟨Nat.le_of_ble_eq_true rfl, Nat.le_of_ble_eq_true rfl⟩ dL_law_572 ?_
      refine x_norm (st2 := [.int (-1000000002 : Int32), .int (-1000000002 : Int32)]) (kc2 := 157) (ks2 := 5325) rfl rfl rfl rfl rfl ?_
      refine x_icmp_eq_t C 767 dL_law_575 (by decide) rfl ?_
      exact kend _
set_option maxRecDepth 20000 in
theorem lc_stayed {p : Program} {l : Launch} {e : Env} {s : State} {m : MethodId} {below : List Frame} {meth : Method} {c : Code} {G : GT} {z b : Nat} {xs : Nat → Int32} {u : HpT} (C : Cx p s m #[Value.ref b] c G RL cL_law 4 z) (hX : va_X b 3 xs s s.heap) (hbl : b < s.heap.size) (hbz : b < z) (hF : Fresh G z u) (kend : ∀ u2 : HpT, Xw p l e room_1 s m #[Value.ref b] below meth c G z 4 (lw_Z below #[Value.ref b] s) 767 [(3, .int (0 : Int32)), (2, .ref (z + 134)), (1, .ref (z + 0)), (0, .ref b)] [] u2 157 157 5325) : Xw p l e room_1 s m #[Value.ref b] below meth c G z 4 (lw_Z below #[Value.ref b] s) 580 [(3, .int (0 : Int32)), (2, .ref (z + 134)), (1, .ref (z + 0)), (0, .ref b)] [] u 157 157 5325 := by
  obtain ⟨h0, h1, h2, h3, h4, h5, h6, h98, h99, h101, h106, h109, h112, h119, h126, h127, h128, h129, h130, h131, h132, h133, h134, h135, h146, h154, h155, h156⟩ := hF
  obtain ⟨va, eva⟩ : ∃ w : Int32, xs 1 = w := ⟨_, rfl⟩
  have hl_va : -2147483648 ≤ va.toInt := Int32.le_toInt va
  have hh_va : va.toInt ≤ 2147483647 := Int32.toInt_le va
  obtain ⟨vb, evb⟩ : ∃ w : Int32, xs 2 = w := ⟨_, rfl⟩
  have hl_vb : -2147483648 ≤ vb.toInt := Int32.le_toInt vb
  have hh_vb : vb.toInt ≤ 2147483647 := Int32.toInt_le vb
  rcases (by omega : va.toInt < 0 ∨ 0 ≤ va.toInt) with q | q
  · have hh_va : va.toInt ≤ -1 := by omega
    refine x_aload_n C 2 dL_law_580 rfl rfl ?_
    refine x_aload_n C 3 dL_law_581 rfl rfl ?_
    refine x_iload_n C 0 dL_law_582 rfl rfl ?_
    refine x_iconst (v := (1 : Int32)) C dL_law_583 (by decide) ?_
    refine x_iadd C dL_law_584 ?_
    refine x_eqi (w := (1 : Int32)) (by decide) ?_
    refine x_sld (v := va) C 1 hX hbl hbz (vp_in_lit (by decide) (by decide)) (by decide) eva dL_law_585 ?_
    refine x_aload_n C 3 dL_law_586 rfl rfl ?_
    refine x_iload_n C 0 dL_law_587 rfl rfl ?_
    refine x_iconst (v := (2 : Int32)) C dL_law_588 (by decide) ?_
    refine x_iadd C dL_law_589 ?_
    refine x_eqi (w := (2 : Int32)) (by decide) ?_
    refine x_sld (v := vb) C 2 hX hbl hbz (vp_in_lit (by decide) (by decide)) (by decide) evb dL_law_590 ?_
    refine x_callV C cl_X9_stayed kmL_88 (ci := 8) (b := 0) (As := [.int va, .int vb]) (rest := []) rfl h0 (p_X9_stayed_0 u va hl_va hh_va vb hl_vb hh_vb h0 h112) rfl rfl (Nat.le_of_ble_eq_true rfl) ⟨Nat.le_of_ble_eq_true rfl, Nat.le_of_ble_eq_true rfl⟩ ⟨Nat.le_of_ble_eq_true rfl, Nat.le_of_ble_eq_true rfl⟩ dL_law_591 ?_
    refine x_norm (st2 := [.int (-1000000001 : Int32)]) (kc2 := 157) (ks2 := 5325) rfl rfl rfl rfl rfl ?_
    refine x_aload_n C 1 dL_law_594 rfl rfl ?_
    refine x_aload_n C 3 dL_law_595 rfl rfl ?_
    refine x_iload_n C 0 dL_law_596 rfl rfl ?_
    refine x_iconst (v := (1 : Int32)) C dL_law_597 (by decide) ?_
    refine x_iadd C dL_law_598 ?_
    refine x_eqi (w := (1 : Int32)) (by decide) ?_
    refine x_sld (v := va) C 1 hX hbl hbz (vp_in_lit (by decide) (by decide)) (by decide) eva dL_law_599 ?_
    refine x_aload_n C 3 dL_law_600 rfl rfl ?_
    refine x_iload_n C 0 dL_law_601 rfl rfl ?_
    refine x_iconst (v := (2 : Int32)) C dL_law_602 (by decide) ?_
    refine x_iadd C dL_law_603 ?_
    refine x_eqi (w := (2 : Int32)) (by decide) ?_
    refine x_sld (v := vb) C 2 hX hbl hbz (vp_in_lit (by decide) (by decide)) (by decide) evb dL_law_604 ?_
    have g134 := h134
    refine x_callV C cl_X10_stayed kmL_91 (ci := 9) (b := 134) (As := [.int va, .int vb]) (rest := [.int (-1000000001 : Int32)]) rfl g134 (p_X10_stayed_0 u va hl_va hh_va vb hl_vb hh_vb g134) rfl rfl (Nat.le_of_ble_eq_true rfl) ⟨Nat.le_of_ble_eq_true rfl, Nat.le_of_ble_eq_true rfl⟩ ⟨Nat.le_of_ble_eq_true rfl, Nat.le_of_ble_eq_true rfl⟩ dL_law_605 ?_
    refine x_norm (st2 := [.int (-1000000001 : Int32), .int (-1000000001 : Int32)]) (kc2 := 157) (ks2 := 5325) rfl rfl rfl rfl rfl ?_
    refine x_icmp_eq_t C 767 dL_law_608 (by decide) rfl ?_
    exact kend _
  · have hl_va : 0 ≤ va.toInt := by omega
    refine x_aload_n C 2 dL_law_580 rfl rfl ?_
    refine x_aload_n C 3 dL_law_581 rfl rfl ?_
    refine x_iload_n C 0 dL_law_582 rfl rfl ?_
    refine x_iconst (v := (1 : Int32)) C dL_law_583 (by decide) ?_
    refine x_iadd C dL_law_584 ?_
    refine x_eqi (w := (1 : Int32)) (by decide) ?_
    refine x_sld (v := va) C 1 hX hbl hbz (vp_in_lit (by decide) (by decide)) (by decide) eva dL_law_585 ?_
    refine x_aload_n C 3 dL_law_586 rfl rfl ?_
    refine x_iload_n C 0 dL_law_587 rfl rfl ?_
    refine x_iconst (v := (2 : Int32)) C dL_law_588 (by decide) ?_
    refine x_iadd C dL_law_589 ?_
    refine x_eqi (w := (2 : Int32)) (by decide) ?_
    refine x_sld (v := vb) C 2 hX hbl hbz (vp_in_lit (by decide) (by decide)) (by decide) evb dL_law_590 ?_
    refine x_callV C cl_X9_stayed kmL_88 (ci := 8) (b := 0) (As := [.int va, .int vb]) (rest := []) rfl h0 (p_X9_stayed_1 u va hl_va hh_va vb hl_vb hh_vb h0 h112) rfl rfl (Nat.le_of_ble_eq_true rfl) ⟨Nat.le_of_ble_eq_true rfl, Nat.le_of_ble_eq_true rfl⟩ ⟨Nat.le_of_ble_eq_true rfl, Nat.le_of_ble_eq_true rfl⟩ dL_law_591 ?_
    refine x_norm (st2 := [.int (-1000000001 : Int32)]) (kc2 := 157) (ks2 := 5325) rfl rfl rfl rfl rfl ?_
    refine x_aload_n C 1 dL_law_594 rfl rfl ?_
    refine x_aload_n C 3 dL_law_595 rfl rfl ?_
    refine x_iload_n C 0 dL_law_596 rfl rfl ?_
    refine x_iconst (v := (1 : Int32)) C dL_law_597 (by decide) ?_
    refine x_iadd C dL_law_598 ?_
    refine x_eqi (w := (1 : Int32)) (by decide) ?_
    refine x_sld (v := va) C 1 hX hbl hbz (vp_in_lit (by decide) (by decide)) (by decide) eva dL_law_599 ?_
    refine x_aload_n C 3 dL_law_600 rfl rfl ?_
    refine x_iload_n C 0 dL_law_601 rfl rfl ?_
    refine x_iconst (v := (2 : Int32)) C dL_law_602 (by decide) ?_
    refine x_iadd C dL_law_603 ?_
    refine x_eqi (w := (2 : Int32)) (by decide) ?_
    refine x_sld (v := vb) C 2 hX hbl hbz (vp_in_lit (by decide) (by decide)) (by decide) evb dL_law_604 ?_
    have g134 := h134
    refine x_callV C cl_X10_stayed kmL_91 (ci := 9) (b := 134) (As := [.int va, .int vb]) (rest := [.int (-1000000001 : Int32)]) rfl g134 (p_X10_stayed_1 u va hl_va hh_va vb hl_vb hh_vb g134) rfl rfl (Nat.le_of_ble_eq_true rfl) ⟨Nat.le_of_ble_eq_true rfl, Nat.le_of_ble_eq_true rfl⟩ ⟨Nat.le_of_ble_eq_true rfl, Nat.le_of_ble_eq_true rfl⟩ dL_law_605 ?_
    refine x_norm (st2 := [.int (-1000000001 : Int32), .int (-1000000001 : Int32)]) (kc2 := 157) (ks2 := 5325) rfl rfl rfl rfl rfl ?_
    refine x_icmp_eq_t C 767 dL_law_608 (by decide) rfl ?_
    exact kend _
set_option maxRecDepth 20000 in
theorem lc_couldBe {p : Program} {l : Launch} {e : Env} {s : State} {m : MethodId} {below : List Frame} {meth : Method} {c : Code} {G : GT} {z b : Nat} {xs : Nat → Int32} {u : HpT} (C : Cx p s m #[Value.ref b] c G RL cL_law 4 z) (hX : va_X b 3 xs s s.heap) (hbl : b < s.heap.size) (hbz : b < z) (hF : Fresh G z u) (kend : ∀ u2 : HpT, Xw p l e room_1 s m #[Value.ref b] below meth c G z 4 (lw_Z below #[Value.ref b] s) 767 [(3, .int (0 : Int32)), (2, .ref (z + 134)), (1, .ref (z + 0)), (0, .ref b)] [] u2 157 157 5325) : Xw p l e room_1 s m #[Value.ref b] below meth c G z 4 (lw_Z below #[Value.ref b] s) 613 [(3, .int (0 : Int32)), (2, .ref (z + 134)), (1, .ref (z + 0)), (0, .ref b)] [] u 157 157 5325 := by
  obtain ⟨h0, h1, h2, h3, h4, h5, h6, h98, h99, h101, h106, h109, h112, h119, h126, h127, h128, h129, h130, h131, h132, h133, h134, h135, h146, h154, h155, h156⟩ := hF
  refine x_aload_n C 2 dL_law_613 rfl rfl ?_
  refine x_callV C cl_X9_couldBe kmL_92 (ci := 8) (b := 0) (As := []) (rest := []) rfl h0 (p_X9_couldBe_0 u h0 h106 h112) rfl rfl (Nat.le_of_ble_eq_true rfl) ⟨Nat.le_of_ble_eq_true rfl, Nat.le_of_ble_eq_true rfl⟩ ⟨Nat.le_of_ble_eq_true rfl, Nat.le_of_ble_eq_true rfl⟩ dL_law_614 ?_
  refine x_norm (st2 := [.int (0 : Int32)]) (kc2 := 157) (ks2 := 5325) rfl rfl rfl rfl rfl ?_
  refine x_aload_n C 1 dL_law_617 rfl rfl ?_
  have g134 := h134
  refine x_callV C cl_X10_couldBe kmL_95 (ci := 9) (b := 134) (As := []) (rest := [.int (0 : Int32)]) rfl g134 (p_X10_couldBe_0 u g134) rfl rfl (Nat.le_of_ble_eq_true rfl) ⟨Nat.le_of_ble_eq_true rfl, Nat.le_of_ble_eq_true rfl⟩ ⟨Nat.le_of_ble_eq_true rfl, Nat.le_of_ble_eq_true rfl⟩ dL_law_618 ?_
  refine x_norm (st2 := [.int (0 : Int32), .int (0 : Int32)]) (kc2 := 157) (ks2 := 5325) rfl rfl rfl rfl rfl ?_
  refine x_icmp_eq_t C 767 dL_law_621 (by decide) rfl ?_
  exact kend _
set_option maxRecDepth 20000 in
theorem lc_ask {p : Program} {l : Launch} {e : Env} {s : State} {m : MethodId} {below : List Frame} {meth : Method} {c : Code} {G : GT} {z b : Nat} {xs : Nat → Int32} {u : HpT} (C : Cx p s m #[Value.ref b] c G RL cL_law 4 z) (hX : va_X b 3 xs s s.heap) (hbl : b < s.heap.size) (hbz : b < z) (hF : Fresh G z u) (kend : ∀ u2 : HpT, Xw p l e room_1 s m #[Value.ref b] below meth c G z 4 (lw_Z below #[Value.ref b] s) 767 [(3, .int (0 : Int32)), (2, .ref (z + 134)), (1, .ref (z + 0)), (0, .ref b)] [] u2 157 157 5325) : Xw p l e room_1 s m #[Value.ref b] below meth c G z 4 (lw_Z below #[Value.ref b] s) 626 [(3, .int (0 : Int32)), (2, .ref (z + 134)), (1, .ref (z + 0)), (0, .ref b)] [] u 157 157 5325 := by
  obtain ⟨h0, h1, h2, h3, h4, h5, h6, h98, h99, h101, h106, h109, h112, h119, h126, h127, h128, h129, h130, h131, h132, h133, h134, h135, h146, h154, h155, h156⟩ := hF
  refine x_aload_n C 2 dL_law_626 rfl rfl ?_
  refine x_callV C cl_X9_ask kmL_96 (ci := 8) (b := 0) (As := []) (rest := []) rfl h0 (p_X9_ask_0 u h0 h106 h112) rfl rfl (Nat.le_of_ble_eq_true rfl) ⟨Nat.le_of_ble_eq_true rfl, Nat.le_of_ble_eq_true rfl⟩ ⟨Nat.le_of_ble_eq_true rfl, Nat.le_of_ble_eq_true rfl⟩ dL_law_627 ?_
  refine x_norm (st2 := [.int (-1 : Int32)]) (kc2 := 157) (ks2 := 5325) rfl rfl rfl rfl rfl ?_
  refine x_aload_n C 1 dL_law_630 rfl rfl ?_
  have g134 := h134
  refine x_callV C cl_X10_ask kmL_99 (ci := 9) (b := 134) (As := []) (rest := [.int (-1 : Int32)]) rfl g134 (p_X10_ask_0 u g134) rfl rfl (Nat.le_of_ble_eq_true rfl) ⟨Nat.le_of_ble_eq_true rfl, Nat.le_of_ble_eq_true rfl⟩ ⟨Nat.le_of_ble_eq_true rfl, Nat.le_of_ble_eq_true rfl⟩ dL_law_631 ?_
  refine x_norm (st2 := [.int (-1 : Int32), .int (-1 : Int32)]) (kc2 := 157) (ks2 := 5325) rfl rfl rfl rfl rfl ?_
  refine x_icmp_eq_t C 767 dL_law_634 (by decide) rfl ?_
  exact kend _
set_option maxRecDepth 20000 in
theorem lc_write {p : Program} {l : Launch} {e : Env} {s : State} {m : MethodId} {below : List Frame} {meth : Method} {c : Code} {G : GT} {z b : Nat} {xs : Nat → Int32} {u : HpT} (C : Cx p s m #[Value.ref b] c G RL cL_law 4 z) (hX : va_X b 3 xs s s.heap) (hbl : b < s.heap.size) (hbz : b < z) (hF : Fresh G z u) (kend : ∀ u2 : HpT, Xw p l e room_1 s m #[Value.ref b] below meth c G z 4 (lw_Z below #[Value.ref b] s) 767 [(3, .int (0 : Int32)), (2, .ref (z + 134)), (1, .ref (z + 0)), (0, .ref b)] [] u2 157 157 5325) : Xw p l e room_1 s m #[Value.ref b] below meth c G z 4 (lw_Z below #[Value.ref b] s) 639 [(3, .int (0 : Int32)), (2, .ref (z + 134)), (1, .ref (z + 0)), (0, .ref b)] [] u 157 157 5325 := by
  obtain ⟨h0, h1, h2, h3, h4, h5, h6, h98, h99, h101, h106, h109, h112, h119, h126, h127, h128, h129, h130, h131, h132, h133, h134, h135, h146, h154, h155, h156⟩ := hF
  obtain ⟨va, eva⟩ : ∃ w : Int32, xs 1 = w := ⟨_, rfl⟩
  have hl_va : -2147483648 ≤ va.toInt := Int32.le_toInt va
  have hh_va : va.toInt ≤ 2147483647 := Int32.toInt_le va
  obtain ⟨vb, evb⟩ : ∃ w : Int32, xs 2 = w := ⟨_, rfl⟩
  have hl_vb : -2147483648 ≤ vb.toInt := Int32.le_toInt vb
  have hh_vb : vb.toInt ≤ 2147483647 := Int32.toInt_le vb
  rcases (by omega : va.toInt < 0 ∨ 0 ≤ va.toInt) with q | q
  · have hh_va : va.toInt ≤ -1 := by omega
    refine x_aload_n C 2 dL_law_639 rfl rfl ?_
    refine x_aload_n C 3 dL_law_640 rfl rfl ?_
    refine x_iload_n C 0 dL_law_641 rfl rfl ?_
    refine x_iconst (v := (1 : Int32)) C dL_law_642 (by decide) ?_
    refine x_iadd C dL_law_643 ?_
    refine x_eqi (w := (1 : Int32)) (by decide) ?_
    refine x_sld (v := va) C 1 hX hbl hbz (vp_in_lit (by decide) (by decide)) (by decide) eva dL_law_644 ?_
    refine x_aload_n C 3 dL_law_645 rfl rfl ?_
    refine x_iload_n C 0 dL_law_646 rfl rfl ?_
    refine x_iconst (v := (2 : Int32)) C dL_law_647 (by decide) ?_
    refine x_iadd C dL_law_648 ?_
    refine x_eqi (w := (2 : Int32)) (by decide) ?_
    refine x_sld (v := vb) C 2 hX hbl hbz (vp_in_lit (by decide) (by decide)) (by decide) evb dL_law_649 ?_
    refine x_callV C cl_X9_write kmL_100 (ci := 8) (b := 0) (As := [.int va, .int vb]) (rest := []) rfl h0 (p_X9_write_0 u va hl_va hh_va vb hl_vb hh_vb h0 h112) rfl rfl (Nat.le_of_ble_eq_true rfl) ⟨Nat.le_of_ble_eq_true rfl, Nat.le_of_ble_eq_true rfl⟩ ⟨Nat.le_of_ble_eq_true rfl, Nat.le_of_ble_eq_true rfl⟩ dL_law_650 ?_
    refine x_norm (st2 := [.int (-1000000001 : Int32)]) (kc2 := 157) (ks2 := 5325) rfl rfl rfl rfl rfl ?_
    refine x_aload_n C 1 dL_law_653 rfl rfl ?_
    refine x_aload_n C 3 dL_law_654 rfl rfl ?_
    refine x_iload_n C 0 dL_law_655 rfl rfl ?_
    refine x_iconst (v := (1 : Int32)) C dL_law_656 (by decide) ?_
    refine x_iadd C dL_law_657 ?_
    refine x_eqi (w := (1 : Int32)) (by decide) ?_
    refine x_sld (v := va) C 1 hX hbl hbz (vp_in_lit (by decide) (by decide)) (by decide) eva dL_law_658 ?_
    refine x_aload_n C 3 dL_law_659 rfl rfl ?_
    refine x_iload_n C 0 dL_law_660 rfl rfl ?_
    refine x_iconst (v := (2 : Int32)) C dL_law_661 (by decide) ?_
    refine x_iadd C dL_law_662 ?_
    refine x_eqi (w := (2 : Int32)) (by decide) ?_
    refine x_sld (v := vb) C 2 hX hbl hbz (vp_in_lit (by decide) (by decide)) (by decide) evb dL_law_663 ?_
    have g134 := h134
    refine x_callV C cl_X10_write kmL_103 (ci := 9) (b := 134) (As := [.int va, .int vb]) (rest := [.int (-1000000001 : Int32)]) rfl g134 (p_X10_write_0 u va hl_va hh_va vb hl_vb hh_vb g134) rfl rfl (Nat.le_of_ble_eq_true rfl) ⟨Nat.le_of_ble_eq_true rfl, Nat.le_of_ble_eq_true rfl⟩ ⟨Nat.le_of_ble_eq_true rfl, Nat.le_of_ble_eq_true rfl⟩ dL_law_664 ?_
    refine x_norm (st2 := [.int (-1000000001 : Int32), .int (-1000000001 : Int32)]) (kc2 := 157) (ks2 := 5325) rfl rfl rfl rfl rfl ?_
    refine x_icmp_eq_t C 767 dL_law_667 (by decide) rfl ?_
    exact kend _
  · have hl_va : 0 ≤ va.toInt := by omega
    refine x_aload_n C 2 dL_law_639 rfl rfl ?_
    refine x_aload_n C 3 dL_law_640 rfl rfl ?_
    refine x_iload_n C 0 dL_law_641 rfl rfl ?_
    refine x_iconst (v := (1 : Int32)) C dL_law_642 (by decide) ?_
    refine x_iadd C dL_law_643 ?_
    refine x_eqi (w := (1 : Int32)) (by decide) ?_
    refine x_sld (v := va) C 1 hX hbl hbz (vp_in_lit (by decide) (by decide)) (by decide) eva dL_law_644 ?_
    refine x_aload_n C 3 dL_law_645 rfl rfl ?_
    refine x_iload_n C 0 dL_law_646 rfl rfl ?_
    refine x_iconst (v := (2 : Int32)) C dL_law_647 (by decide) ?_
    refine x_iadd C dL_law_648 ?_
    refine x_eqi (w := (2 : Int32)) (by decide) ?_
    refine x_sld (v := vb) C 2 hX hbl hbz (vp_in_lit (by decide) (by decide)) (by decide) evb dL_law_649 ?_
    refine x_callV C cl_X9_write kmL_100 (ci := 8) (b := 0) (As := [.int va, .int vb]) (rest := []) rfl h0 (p_X9_write_1 u va hl_va hh_va vb hl_vb hh_vb h0 h112) rfl rfl (Nat.le_of_ble_eq_true rfl) ⟨Nat.le_of_ble_eq_true rfl, Nat.le_of_ble_eq_true rfl⟩ ⟨Nat.le_of_ble_eq_true rfl, Nat.le_of_ble_eq_true rfl⟩ dL_law_650 ?_
    refine x_norm (st2 := [.int (-1000000001 : Int32)]) (kc2 := 157) (ks2 := 5325) rfl rfl rfl rfl rfl ?_
    refine x_aload_n C 1 dL_law_653 rfl rfl ?_
    refine x_aload_n C 3 dL_law_654 rfl rfl ?_
    refine x_iload_n C 0 dL_law_655 rfl rfl ?_
    refine x_iconst (v := (1 : Int32)) C dL_law_656 (by decide) ?_
    refine x_iadd C dL_law_657 ?_
    refine x_eqi (w := (1 : Int32)) (by decide) ?_
    refine x_sld (v := va) C 1 hX hbl hbz (vp_in_lit (by decide) (by decide)) (by decide) eva dL_law_658 ?_
    refine x_aload_n C 3 dL_law_659 rfl rfl ?_
    refine x_iload_n C 0 dL_law_660 rfl rfl ?_
    refine x_iconst (v := (2 : Int32)) C dL_law_661 (by decide) ?_
    refine x_iadd C dL_law_662 ?_
    refine x_eqi (w := (2 : Int32)) (by decide) ?_
    refine x_sld (v := vb) C 2 hX hbl hbz (vp_in_lit (by decide) (by decide)) (by decide) evb dL_law_663 ?_
    have g134 := h134
    refine x_callV C cl_X10_write kmL_103 (ci := 9) (b := 134) (As := [.int va, .int vb]) (rest := [.int (-1000000001 : Int32)]) rfl g134 (p_X10_write_1 u va hl_va hh_va vb hl_vb hh_vb g134) rfl rfl (Nat.le_of_ble_eq_true rfl) ⟨Nat.le_of_ble_eq_true rfl, Nat.le_of_ble_eq_true rfl⟩ ⟨Nat.le_of_ble_eq_true rfl, Nat.le_of_ble_eq_true rfl⟩ dL_law_664 ?_
    refine x_norm (st2 := [.int (-1000000001 : Int32), .int (-1000000001 : Int32)]) (kc2 := 157) (ks2 := 5325) rfl rfl rfl rfl rfl ?_
    refine x_icmp_eq_t C 767 dL_law_667 (by decide) rfl ?_
    exact kend _
set_option maxRecDepth 20000 in
theorem lc_judge {p : Program} {l : Launch} {e : Env} {s : State} {m : MethodId} {below : List Frame} {meth : Method} {c : Code} {G : GT} {z b : Nat} {xs : Nat → Int32} {u : HpT} (C : Cx p s m #[Value.ref b] c G RL cL_law 4 z) (hX : va_X b 3 xs s s.heap) (hbl : b < s.heap.size) (hbz : b < z) (hF : Fresh G z u) (kend : ∀ u2 : HpT, Xw p l e room_1 s m #[Value.ref b] below meth c G z 4 (lw_Z below #[Value.ref b] s) 767 [(3, .int (0 : Int32)), (2, .ref (z + 134)), (1, .ref (z + 0)), (0, .ref b)] [] u2 157 157 5325) : Xw p l e room_1 s m #[Value.ref b] below meth c G z 4 (lw_Z below #[Value.ref b] s) 672 [(3, .int (0 : Int32)), (2, .ref (z + 134)), (1, .ref (z + 0)), (0, .ref b)] [] u 157 157 5325 := by
  obtain ⟨h0, h1, h2, h3, h4, h5, h6, h98, h99, h101, h106, h109, h112, h119, h126, h127, h128, h129, h130, h131, h132, h133, h134, h135, h146, h154, h155, h156⟩ := hF
  refine x_aload_n C 2 dL_law_672 rfl rfl ?_
  refine x_callV C cl_X9_judge kmL_104 (ci := 8) (b := 0) (As := []) (rest := []) rfl h0 (p_X9_judge_0 u h0 h3 h109) rfl rfl (Nat.le_of_ble_eq_true rfl) ⟨Nat.le_of_ble_eq_true rfl, Nat.le_of_ble_eq_true rfl⟩ ⟨Nat.le_of_ble_eq_true rfl, Nat.le_of_ble_eq_true rfl⟩ dL_law_673 ?_
  refine x_norm (st2 := [.int (-1 : Int32)]) (kc2 := 157) (ks2 := 5325) rfl rfl rfl rfl rfl ?_
  refine x_aload_n C 1 dL_law_676 rfl rfl ?_
  have g134 := h134
  refine x_callV C cl_X10_judge kmL_107 (ci := 9) (b := 134) (As := []) (rest := [.int (-1 : Int32)]) rfl g134 (p_X10_judge_0 u g134) rfl rfl (Nat.le_of_ble_eq_true rfl) ⟨Nat.le_of_ble_eq_true rfl, Nat.le_of_ble_eq_true rfl⟩ ⟨Nat.le_of_ble_eq_true rfl, Nat.le_of_ble_eq_true rfl⟩ dL_law_677 ?_
  refine x_norm (st2 := [.int (-1 : Int32), .int (-1 : Int32)]) (kc2 := 157) (ks2 := 5325) rfl rfl rfl rfl rfl ?_
  refine x_icmp_eq_t C 767 dL_law_680 (by decide) rfl ?_
  exact kend _
set_option maxRecDepth 20000 in
theorem lc_tear {p : Program} {l : Launch} {e : Env} {s : State} {m : MethodId} {below : List Frame} {meth : Method} {c : Code} {G : GT} {z b : Nat} {xs : Nat → Int32} {u : HpT} (C : Cx p s m #[Value.ref b] c G RL cL_law 4 z) (hX : va_X b 3 xs s s.heap) (hbl : b < s.heap.size) (hbz : b < z) (hF : Fresh G z u) (kend : ∀ u2 : HpT, Xw p l e room_1 s m #[Value.ref b] below meth c G z 4 (lw_Z below #[Value.ref b] s) 767 [(3, .int (0 : Int32)), (2, .ref (z + 134)), (1, .ref (z + 0)), (0, .ref b)] [] u2 157 157 5325) : Xw p l e room_1 s m #[Value.ref b] below meth c G z 4 (lw_Z below #[Value.ref b] s) 685 [(3, .int (0 : Int32)), (2, .ref (z + 134)), (1, .ref (z + 0)), (0, .ref b)] [] u 157 157 5325 := by
  obtain ⟨h0, h1, h2, h3, h4, h5, h6, h98, h99, h101, h106, h109, h112, h119, h126, h127, h128, h129, h130, h131, h132, h133, h134, h135, h146, h154, h155, h156⟩ := hF
  refine x_aload_n C 2 dL_law_685 rfl rfl ?_
  refine x_callV C cl_X9_tear kmL_108 (ci := 8) (b := 0) (As := []) (rest := []) rfl h0 (p_X9_tear_0 u h0 h106 h109) rfl rfl (Nat.le_of_ble_eq_true rfl) ⟨Nat.le_of_ble_eq_true rfl, Nat.le_of_ble_eq_true rfl⟩ ⟨Nat.le_of_ble_eq_true rfl, Nat.le_of_ble_eq_true rfl⟩ dL_law_686 ?_
  obtain ⟨u1, eu1⟩ : ∃ w : HpT, w = (hup (hup u 106 (.inr (1, [.ref (z + 107), .ref (z + 108), .int (0 : Int32)]))) 109 (.inr (1, [.ref (z + 110), .ref (z + 111), .int (0 : Int32)]))) := ⟨_, rfl⟩
  refine x_norm (st2 := [.int (0 : Int32)]) (kc2 := 157) (ks2 := 5325) rfl rfl rfl rfl eu1.symm ?_
  refine x_aload_n C 1 dL_law_689 rfl rfl ?_
  have g134 := (congrFun eu1 134).trans (hup_n' (by decide) (hup_n' (by decide) (h134)))
  refine x_callV C cl_X10_tear kmL_111 (ci := 9) (b := 134) (As := []) (rest := [.int (0 : Int32)]) rfl g134 (p_X10_tear_0 u1 g134) rfl rfl (Nat.le_of_ble_eq_true rfl) ⟨Nat.le_of_ble_eq_true rfl, Nat.le_of_ble_eq_true rfl⟩ ⟨Nat.le_of_ble_eq_true rfl, Nat.le_of_ble_eq_true rfl⟩ dL_law_690 ?_
  refine x_norm (st2 := [.int (0 : Int32), .int (0 : Int32)]) (kc2 := 157) (ks2 := 5325) rfl rfl rfl rfl rfl ?_
  refine x_icmp_eq_t C 767 dL_law_693 (by decide) rfl ?_
  exact kend _
set_option maxRecDepth 20000 in
theorem lc_seed {p : Program} {l : Launch} {e : Env} {s : State} {m : MethodId} {below : List Frame} {meth : Method} {c : Code} {G : GT} {z b : Nat} {xs : Nat → Int32} {u : HpT} (C : Cx p s m #[Value.ref b] c G RL cL_law 4 z) (hX : va_X b 3 xs s s.heap) (hbl : b < s.heap.size) (hbz : b < z) (hF : Fresh G z u) (kend : ∀ u2 : HpT, Xw p l e room_1 s m #[Value.ref b] below meth c G z 4 (lw_Z below #[Value.ref b] s) 767 [(3, .int (0 : Int32)), (2, .ref (z + 134)), (1, .ref (z + 0)), (0, .ref b)] [] u2 157 157 5325) : Xw p l e room_1 s m #[Value.ref b] below meth c G z 4 (lw_Z below #[Value.ref b] s) 698 [(3, .int (0 : Int32)), (2, .ref (z + 134)), (1, .ref (z + 0)), (0, .ref b)] [] u 157 157 5325 := by
  obtain ⟨h0, h1, h2, h3, h4, h5, h6, h98, h99, h101, h106, h109, h112, h119, h126, h127, h128, h129, h130, h131, h132, h133, h134, h135, h146, h154, h155, h156⟩ := hF
  obtain ⟨va, eva⟩ : ∃ w : Int32, xs 1 = w := ⟨_, rfl⟩
  have hl_va : -2147483648 ≤ va.toInt := Int32.le_toInt va
  have hh_va : va.toInt ≤ 2147483647 := Int32.toInt_le va
  rcases (by omega : va.toInt < 0 ∨ 0 ≤ va.toInt) with q | q
  · have hh_va : va.toInt ≤ -1 := by omega
    refine x_aload_n C 2 dL_law_698 rfl rfl ?_
    refine x_aload_n C 3 dL_law_699 rfl rfl ?_
    refine x_iload_n C 0 dL_law_700 rfl rfl ?_
    refine x_iconst (v := (1 : Int32)) C dL_law_701 (by decide) ?_
    refine x_iadd C dL_law_702 ?_
    refine x_eqi (w := (1 : Int32)) (by decide) ?_
    refine x_sld (v := va) C 1 hX hbl hbz (vp_in_lit (by decide) (by decide)) (by decide) eva dL_law_703 ?_
    refine x_callV C cl_X9_seed kmL_112 (ci := 8) (b := 0) (As := [.int va]) (rest := []) rfl h0 (p_X9_seed_0 u va hl_va hh_va) rfl rfl (Nat.le_of_ble_eq_true rfl) ⟨Nat.le_of_ble_eq_true rfl, Nat.le_of_ble_eq_true rfl⟩ ⟨Nat.le_of_ble_eq_true rfl, Nat.le_of_ble_eq_true rfl⟩ dL_law_704 ?_
    refine x_norm (st2 := [.int (-1000000002 : Int32)]) (kc2 := 157) (ks2 := 5325) rfl rfl rfl rfl rfl ?_
    refine x_aload_n C 1 dL_law_707 rfl rfl ?_
    refine x_aload_n C 3 dL_law_708 rfl rfl ?_
    refine x_iload_n C 0 dL_law_709 rfl rfl ?_
    refine x_iconst (v := (1 : Int32)) C dL_law_710 (by decide) ?_
    refine x_iadd C dL_law_711 ?_
    refine x_eqi (w := (1 : Int32)) (by decide) ?_
    refine x_sld (v := va) C 1 hX hbl hbz (vp_in_lit (by decide) (by decide)) (by decide) eva dL_law_712 ?_
    have g134 := h134
    refine x_callV C cl_X10_seed kmL_115 (ci := 9) (b := 134) (As := [.int va]) (rest := [.int (-1000000002 : Int32)]) rfl g134 (p_X10_seed_0 u va hl_va hh_va) rfl rfl (Nat.le_of_ble_eq_true rfl) ⟨Nat.le_of_ble_eq_true rfl, Nat.le_of_ble_eq_true rfl⟩ ⟨Nat.le_of_ble_eq_true rfl, Nat.le_of_ble_eq_true rfl⟩ dL_law_713 ?_
    refine x_norm (st2 := [.int (-1000000002 : Int32), .int (-1000000002 : Int32)]) (kc2 := 157) (ks2 := 5325) rfl rfl rfl rfl rfl ?_
    refine x_icmp_eq_t C 767 dL_law_716 (by decide) rfl ?_
    exact kend _
  · have hl_va : 0 ≤ va.toInt := by omega
    refine x_aload_n C 2 dL_law_698 rfl rfl ?_
    refine x_aload_n C 3 dL_law_699 rfl rfl ?_
    refine x_iload_n C 0 dL_law_700 rfl rfl ?_
    refine x_iconst (v := (1 : Int32)) C dL_law_701 (by decide) ?_
    refine x_iadd C dL_law_702 ?_
    refine x_eqi (w := (1 : Int32)) (by decide) ?_
    refine x_sld (v := va) C 1 hX hbl hbz (vp_in_lit (by decide) (by decide)) (by decide) eva dL_law_703 ?_
    refine x_callV C cl_X9_seed kmL_112 (ci := 8) (b := 0) (As := [.int va]) (rest := []) rfl h0 (p_X9_seed_1 u va hl_va hh_va h0) rfl rfl (Nat.le_of_ble_eq_true rfl) ⟨Nat.le_of_ble_eq_true rfl, Nat.le_of_ble_eq_true rfl⟩ ⟨Nat.le_of_ble_eq_true rfl, Nat.le_of_ble_eq_true rfl⟩ dL_law_704 ?_
    obtain ⟨u1, eu1⟩ : ∃ w : HpT, w = (hup u 0 (.inr (8, [.ref (z + 1), .ref (z + 3), .ref (z + 6), .ref (z + 98), .ref (z + 99), .ref (z + 101), .ref (z + 106), .ref (z + 109), .ref (z + 112), .ref (z + 119), .int va, .int (-1 : Int32)]))) := ⟨_, rfl⟩
    refine x_norm (st2 := [.int (0 : Int32)]) (kc2 := 157) (ks2 := 5325) rfl rfl rfl rfl eu1.symm ?_
    refine x_aload_n C 1 dL_law_707 rfl rfl ?_
    refine x_aload_n C 3 dL_law_708 rfl rfl ?_
    refine x_iload_n C 0 dL_law_709 rfl rfl ?_
    refine x_iconst (v := (1 : Int32)) C dL_law_710 (by decide) ?_
    refine x_iadd C dL_law_711 ?_
    refine x_eqi (w := (1 : Int32)) (by decide) ?_
    refine x_sld (v := va) C 1 hX hbl hbz (vp_in_lit (by decide) (by decide)) (by decide) eva dL_law_712 ?_
    have g134 := (congrFun eu1 134).trans (hup_n' (by decide) (h134))
    refine x_callV C cl_X10_seed kmL_115 (ci := 9) (b := 134) (As := [.int va]) (rest := [.int (0 : Int32)]) rfl g134 (p_X10_seed_1 u1 va hl_va hh_va g134) rfl rfl (Nat.le_of_ble_eq_true rfl) ⟨Nat.le_of_ble_eq_true rfl, Nat.le_of_ble_eq_true rfl⟩ ⟨Nat.le_of_ble_eq_true rfl, Nat.le_of_ble_eq_true rfl⟩ dL_law_713 ?_
    refine x_norm (st2 := [.int (0 : Int32), .int (0 : Int32)]) (kc2 := 157) (ks2 := 5325) rfl rfl rfl rfl rfl ?_
    refine x_icmp_eq_t C 767 dL_law_716 (by decide) rfl ?_
    exact kend _
set_option maxRecDepth 20000 in
theorem lc_keep {p : Program} {l : Launch} {e : Env} {s : State} {m : MethodId} {below : List Frame} {meth : Method} {c : Code} {G : GT} {z b : Nat} {xs : Nat → Int32} {u : HpT} (C : Cx p s m #[Value.ref b] c G RL cL_law 4 z) (hX : va_X b 3 xs s s.heap) (hbl : b < s.heap.size) (hbz : b < z) (hF : Fresh G z u) (kend : ∀ u2 : HpT, Xw p l e room_1 s m #[Value.ref b] below meth c G z 4 (lw_Z below #[Value.ref b] s) 767 [(3, .int (0 : Int32)), (2, .ref (z + 134)), (1, .ref (z + 0)), (0, .ref b)] [] u2 157 157 5325) : Xw p l e room_1 s m #[Value.ref b] below meth c G z 4 (lw_Z below #[Value.ref b] s) 721 [(3, .int (0 : Int32)), (2, .ref (z + 134)), (1, .ref (z + 0)), (0, .ref b)] [] u 157 157 5325 := by
  obtain ⟨h0, h1, h2, h3, h4, h5, h6, h98, h99, h101, h106, h109, h112, h119, h126, h127, h128, h129, h130, h131, h132, h133, h134, h135, h146, h154, h155, h156⟩ := hF
  obtain ⟨va, eva⟩ : ∃ w : Int32, xs 1 = w := ⟨_, rfl⟩
  have hl_va : -2147483648 ≤ va.toInt := Int32.le_toInt va
  have hh_va : va.toInt ≤ 2147483647 := Int32.toInt_le va
  rcases (by omega : va.toInt < 1 ∨ 1 ≤ va.toInt) with q | q
  · have hh_va : va.toInt ≤ 0 := by omega
    rcases (by omega : va.toInt < 0 ∨ 0 ≤ va.toInt) with q | q
    · have hh_va : va.toInt ≤ -1 := by omega
      refine x_aload_n C 2 dL_law_721 rfl rfl ?_
      refine x_aload_n C 3 dL_law_722 rfl rfl ?_
      refine x_iload_n C 0 dL_law_723 rfl rfl ?_
      refine x_iconst (v := (1 : Int32)) C dL_law_724 (by decide) ?_
      refine x_iadd C dL_law_725 ?_
      refine x_eqi (w := (1 : Int32)) (by decide) ?_
      refine x_sld (v := va) C 1 hX hbl hbz (vp_in_lit (by decide) (by decide)) (by decide) eva dL_law_726 ?_
      refine x_callV C cl_X9_keep kmL_116 (ci := 8) (b := 0) (As := [.int va]) (rest := []) rfl h0 (p_X9_keep_0 u va hl_va hh_va) rfl rfl (Nat.le_of_ble_eq_true rfl) ⟨Nat.le_of_ble_eq_true rfl, Nat.le_of_ble_eq_true rfl⟩ ⟨Nat.le_of_ble_eq_true rfl, Nat.le_of_ble_eq_true rfl⟩ dL_law_727 ?_
      refine x_norm (st2 := [.int (-1000000001 : Int32)]) (kc2 := 157) (ks2 := 5325) rfl rfl rfl rfl rfl ?_
      refine x_aload_n C 1 dL_law_730 rfl rfl ?_
      refine x_aload_n C 3 dL_law_731 rfl rfl ?_
      refine x_iload_n C 0 dL_law_732 rfl rfl ?_
      refine x_iconst (v := (1 : Int32)) C dL_law_733 (by decide) ?_
      refine x_iadd C dL_law_734 ?_
      refine x_eqi (w := (1 : Int32)) (by decide) ?_
      refine x_sld (v := va) C 1 hX hbl hbz (vp_in_lit (by decide) (by decide)) (by decide) eva dL_law_735 ?_
      have g134 := h134
      refine x_callV C cl_X10_keep kmL_119 (ci := 9) (b := 134) (As := [.int va]) (rest := [.int (-1000000001 : Int32)]) rfl g134 (p_X10_keep_0 u va hl_va hh_va) rfl rfl (Nat.le_of_ble_eq_true rfl) ⟨Nat.le_of_ble_eq_true rfl, Nat.le_of_ble_eq_true rfl⟩ ⟨Nat.le_of_ble_eq_true rfl, Nat.le_of_ble_eq_true rfl⟩ dL_law_736 ?_
      refine x_norm (st2 := [.int (-1000000001 : Int32), .int (-1000000001 : Int32)]) (kc2 := 157) (ks2 := 5325) rfl rfl rfl rfl rfl ?_
      refine x_icmp_eq_t C 767 dL_law_739 (by decide) rfl ?_
      exact kend _
    · have hl_va : 0 ≤ va.toInt := by omega
      have eva : xs 1 = (0 : Int32) := eva.trans (by rw [i_eq_iff]; have e9 : (0 : Int32).toInt = 0 := (by decide); omega)
      refine x_aload_n C 2 dL_law_721 rfl rfl ?_
      refine x_aload_n C 3 dL_law_722 rfl rfl ?_
      refine x_iload_n C 0 dL_law_723 rfl rfl ?_
      refine x_iconst (v := (1 : Int32)) C dL_law_724 (by decide) ?_
      refine x_iadd C dL_law_725 ?_
      refine x_eqi (w := (1 : Int32)) (by decide) ?_
      refine x_sld (v := (0 : Int32)) C 1 hX hbl hbz (vp_in_lit (by decide) (by decide)) (by decide) eva dL_law_726 ?_
      refine x_callV C cl_X9_keep kmL_116 (ci := 8) (b := 0) (As := [.int (0 : Int32)]) (rest := []) rfl h0 (p_X9_keep_1 u h0 h3 h4 h5 h6 h98 h126 h127 h128 h129) rfl rfl (Nat.le_of_ble_eq_true rfl) ⟨Nat.le_of_ble_eq_true rfl, Nat.le_of_ble_eq_true rfl⟩ ⟨Nat.le_of_ble_eq_true rfl, Nat.le_of_ble_eq_true rfl⟩ dL_law_727 ?_
      obtain ⟨u1, eu1⟩ : ∃ w : HpT, w = (hup (hup (hup (hup (hup u 127 (.inr (2, [.int (0 : Int32), .int (0 : Int32), .int (0 : Int32), .int (0 : Int32), .int (-1 : Int32), .int (0 : Int32), .int (-1 : Int32), .int (0 : Int32), .int (0 : Int32), .int (0 : Int32), .ref (z + 128), .ref (z + 129)]))) 128 (aI G 6 (upd (upd (upd (upd (upd (upd (fun _ => 0) 0 (0 : Int32)) 1 (0 : Int32)) 2 (0 : Int32)) 3 (0 : Int32)) 4 (0 : Int32)) 5 (0 : Int32)))) 129 (aI G 6 (upd (upd (upd (upd (upd (upd (fun _ => 0) 0 (0 : Int32)) 1 (0 : Int32)) 2 (0 : Int32)) 3 (0 : Int32)) 4 (0 : Int32)) 5 (0 : Int32)))) 126 (.inr (3, [.ref (z + 127), .int (0 : Int32), .int (1 : Int32)]))) 6 (.inr (5, [.ref (z + 7), .int (0 : Int32), .int (0 : Int32)]))) := ⟨_, rfl⟩
      refine x_norm (st2 := [.int (1 : Int32)]) (kc2 := 157) (ks2 := 5325) rfl rfl rfl rfl eu1.symm ?_
      refine x_aload_n C 1 dL_law_730 rfl rfl ?_
      refine x_aload_n C 3 dL_law_731 rfl rfl ?_
      refine x_iload_n C 0 dL_law_732 rfl rfl ?_
      refine x_iconst (v := (1 : Int32)) C dL_law_733 (by decide) ?_
      refine x_iadd C dL_law_734 ?_
      refine x_eqi (w := (1 : Int32)) (by decide) ?_
      refine x_sld (v := (0 : Int32)) C 1 hX hbl hbz (vp_in_lit (by decide) (by decide)) (by decide) eva dL_law_735 ?_
      have g134 := (congrFun eu1 134).trans (hup_n' (by decide) (hup_n' (by decide) (hup_n' (by decide) (hup_n' (by decide) (hup_n' (by decide) (h134))))))
      have g146 := (congrFun eu1 146).trans (hup_n' (by decide) (hup_n' (by decide) (hup_n' (by decide) (hup_n' (by decide) (hup_n' (by decide) (h146))))))
      have g154 := (congrFun eu1 154).trans (hup_n' (by decide) (hup_n' (by decide) (hup_n' (by decide) (hup_n' (by decide) (hup_n' (by decide) (h154))))))
      have g155 := (congrFun eu1 155).trans (hup_n' (by decide) (hup_n' (by decide) (hup_n' (by decide) (hup_n' (by decide) (hup_n' (by decide) (h155))))))
      have g156 := (congrFun eu1 156).trans (hup_n' (by decide) (hup_n' (by decide) (hup_n' (by decide) (hup_n' (by decide) (hup_n' (by decide) (h156))))))
      refine x_callV C cl_X10_keep kmL_119 (ci := 9) (b := 134) (As := [.int (0 : Int32)]) (rest := [.int (1 : Int32)]) rfl g134 (p_X10_keep_1 u1 g134 g146 g154 g155 g156) rfl rfl (Nat.le_of_ble_eq_true rfl) ⟨Nat.le_of_ble_eq_true rfl, Nat.le_of_ble_eq_true rfl⟩ ⟨Nat.le_of_ble_eq_true rfl, Nat.le_of_ble_eq_true rfl⟩ dL_law_736 ?_
      refine x_norm (st2 := [.int (1 : Int32), .int (1 : Int32)]) (kc2 := 157) (ks2 := 5325) rfl rfl rfl rfl rfl ?_
      refine x_icmp_eq_t C 767 dL_law_739 (by decide) rfl ?_
      exact kend _
  · have hl_va : 1 ≤ va.toInt := by omega
    rcases (by omega : va.toInt < 2 ∨ 2 ≤ va.toInt) with q | q
    · have hh_va : va.toInt ≤ 1 := by omega
      have eva : xs 1 = (1 : Int32) := eva.trans (by rw [i_eq_iff]; have e9 : (1 : Int32).toInt = 1 := (by decide); omega)
      refine x_aload_n C 2 dL_law_721 rfl rfl ?_
      refine x_aload_n C 3 dL_law_722 rfl rfl ?_
      refine x_iload_n C 0 dL_law_723 rfl rfl ?_
      refine x_iconst (v := (1 : Int32)) C dL_law_724 (by decide) ?_
      refine x_iadd C dL_law_725 ?_
      refine x_eqi (w := (1 : Int32)) (by decide) ?_
      refine x_sld (v := (1 : Int32)) C 1 hX hbl hbz (vp_in_lit (by decide) (by decide)) (by decide) eva dL_law_726 ?_
      refine x_callV C cl_X9_keep kmL_116 (ci := 8) (b := 0) (As := [.int (1 : Int32)]) (rest := []) rfl h0 (p_X9_keep_2 u h0 h3 h4 h5 h6 h98 h130 h131 h132 h133) rfl rfl (Nat.le_of_ble_eq_true rfl) ⟨Nat.le_of_ble_eq_true rfl, Nat.le_of_ble_eq_true rfl⟩ ⟨Nat.le_of_ble_eq_true rfl, Nat.le_of_ble_eq_true rfl⟩ dL_law_727 ?_
      obtain ⟨u1, eu1⟩ : ∃ w : HpT, w = (hup (hup (hup (hup (hup u 131 (.inr (2, [.int (0 : Int32), .int (0 : Int32), .int (0 : Int32), .int (0 : Int32), .int (-1 : Int32), .int (0 : Int32), .int (-1 : Int32), .int (0 : Int32), .int (0 : Int32), .int (0 : Int32), .ref (z + 132), .ref (z + 133)]))) 132 (aI G 6 (upd (upd (upd (upd (upd (upd (fun _ => 0) 0 (0 : Int32)) 1 (0 : Int32)) 2 (0 : Int32)) 3 (0 : Int32)) 4 (0 : Int32)) 5 (0 : Int32)))) 133 (aI G 6 (upd (upd (upd (upd (upd (upd (fun _ => 0) 0 (0 : Int32)) 1 (0 : Int32)) 2 (0 : Int32)) 3 (0 : Int32)) 4 (0 : Int32)) 5 (0 : Int32)))) 130 (.inr (3, [.ref (z + 131), .int (0 : Int32), .int (1 : Int32)]))) 6 (.inr (5, [.ref (z + 7), .int (0 : Int32), .int (0 : Int32)]))) := ⟨_, rfl⟩
      refine x_norm (st2 := [.int (1 : Int32)]) (kc2 := 157) (ks2 := 5325) rfl rfl rfl rfl eu1.symm ?_
      refine x_aload_n C 1 dL_law_730 rfl rfl ?_
      refine x_aload_n C 3 dL_law_731 rfl rfl ?_
      refine x_iload_n C 0 dL_law_732 rfl rfl ?_
      refine x_iconst (v := (1 : Int32)) C dL_law_733 (by decide) ?_
      refine x_iadd C dL_law_734 ?_
      refine x_eqi (w := (1 : Int32)) (by decide) ?_
      refine x_sld (v := (1 : Int32)) C 1 hX hbl hbz (vp_in_lit (by decide) (by decide)) (by decide) eva dL_law_735 ?_
      have g134 := (congrFun eu1 134).trans (hup_n' (by decide) (hup_n' (by decide) (hup_n' (by decide) (hup_n' (by decide) (hup_n' (by decide) (h134))))))
      have g146 := (congrFun eu1 146).trans (hup_n' (by decide) (hup_n' (by decide) (hup_n' (by decide) (hup_n' (by decide) (hup_n' (by decide) (h146))))))
      have g154 := (congrFun eu1 154).trans (hup_n' (by decide) (hup_n' (by decide) (hup_n' (by decide) (hup_n' (by decide) (hup_n' (by decide) (h154))))))
      have g155 := (congrFun eu1 155).trans (hup_n' (by decide) (hup_n' (by decide) (hup_n' (by decide) (hup_n' (by decide) (hup_n' (by decide) (h155))))))
      have g156 := (congrFun eu1 156).trans (hup_n' (by decide) (hup_n' (by decide) (hup_n' (by decide) (hup_n' (by decide) (hup_n' (by decide) (h156))))))
      refine x_callV C cl_X10_keep kmL_119 (ci := 9) (b := 134) (As := [.int (1 : Int32)]) (rest := [.int (1 : Int32)]) rfl g134 (p_X10_keep_2 u1 g134 g146 g154 g155 g156) rfl rfl (Nat.le_of_ble_eq_true rfl) ⟨Nat.le_of_ble_eq_true rfl, Nat.le_of_ble_eq_true rfl⟩ ⟨Nat.le_of_ble_eq_true rfl, Nat.le_of_ble_eq_true rfl⟩ dL_law_736 ?_
      refine x_norm (st2 := [.int (1 : Int32), .int (1 : Int32)]) (kc2 := 157) (ks2 := 5325) rfl rfl rfl rfl rfl ?_
      refine x_icmp_eq_t C 767 dL_law_739 (by decide) rfl ?_
      exact kend _
    · have hl_va : 2 ≤ va.toInt := by omega
      refine x_aload_n C 2 dL_law_721 rfl rfl ?_
      refine x_aload_n C 3 dL_law_722 rfl rfl ?_
      refine x_iload_n C 0 dL_law_723 rfl rfl ?_
      refine x_iconst (v := (1 : Int32)) C dL_law_724 (by decide) ?_
      refine x_iadd C dL_law_725 ?_
      refine x_eqi (w := (1 : Int32)) (by decide) ?_
      refine x_sld (v := va) C 1 hX hbl hbz (vp_in_lit (by decide) (by decide)) (by decide) eva dL_law_726 ?_
      refine x_callV C cl_X9_keep kmL_116 (ci := 8) (b := 0) (As := [.int va]) (rest := []) rfl h0 (p_X9_keep_3 u va hl_va hh_va h0 h98) rfl rfl (Nat.le_of_ble_eq_true rfl) ⟨Nat.le_of_ble_eq_true rfl, Nat.le_of_ble_eq_true rfl⟩ ⟨Nat.le_of_ble_eq_true rfl, Nat.le_of_ble_eq_true rfl⟩ dL_law_727 ?_
      refine x_norm (st2 := [.int (-1000000001 : Int32)]) (kc2 := 157) (ks2 := 5325) rfl rfl rfl rfl rfl ?_
      refine x_aload_n C 1 dL_law_730 rfl rfl ?_
      refine x_aload_n C 3 dL_law_731 rfl rfl ?_
      refine x_iload_n C 0 dL_law_732 rfl rfl ?_
      refine x_iconst (v := (1 : Int32)) C dL_law_733 (by decide) ?_
      refine x_iadd C dL_law_734 ?_
      refine x_eqi (w := (1 : Int32)) (by decide) ?_
      refine x_sld (v := va) C 1 hX hbl hbz (vp_in_lit (by decide) (by decide)) (by decide) eva dL_law_735 ?_
      have g134 := h134
      refine x_callV C cl_X10_keep kmL_119 (ci := 9) (b := 134) (As := [.int va]) (rest := [.int (-1000000001 : Int32)]) rfl g134 (p_X10_keep_3 u va hl_va hh_va) rfl rfl (Nat.le_of_ble_eq_true rfl) ⟨Nat.le_of_ble_eq_true rfl, Nat.le_of_ble_eq_true rfl⟩ ⟨Nat.le_of_ble_eq_true rfl, Nat.le_of_ble_eq_true rfl⟩ dL_law_736 ?_
      refine x_norm (st2 := [.int (-1000000001 : Int32), .int (-1000000001 : Int32)]) (kc2 := 157) (ks2 := 5325) rfl rfl rfl rfl rfl ?_
      refine x_icmp_eq_t C 767 dL_law_739 (by decide) rfl ?_
      exact kend _
set_option maxRecDepth 20000 in
theorem lc_goBack {p : Program} {l : Launch} {e : Env} {s : State} {m : MethodId} {below : List Frame} {meth : Method} {c : Code} {G : GT} {z b : Nat} {xs : Nat → Int32} {u : HpT} (C : Cx p s m #[Value.ref b] c G RL cL_law 4 z) (hX : va_X b 3 xs s s.heap) (hbl : b < s.heap.size) (hbz : b < z) (hF : Fresh G z u) (kend : ∀ u2 : HpT, Xw p l e room_1 s m #[Value.ref b] below meth c G z 4 (lw_Z below #[Value.ref b] s) 767 [(3, .int (0 : Int32)), (2, .ref (z + 134)), (1, .ref (z + 0)), (0, .ref b)] [] u2 157 157 5325) : Xw p l e room_1 s m #[Value.ref b] below meth c G z 4 (lw_Z below #[Value.ref b] s) 744 [(3, .int (0 : Int32)), (2, .ref (z + 134)), (1, .ref (z + 0)), (0, .ref b)] [] u 157 157 5325 := by
  obtain ⟨h0, h1, h2, h3, h4, h5, h6, h98, h99, h101, h106, h109, h112, h119, h126, h127, h128, h129, h130, h131, h132, h133, h134, h135, h146, h154, h155, h156⟩ := hF
  obtain ⟨va, eva⟩ : ∃ w : Int32, xs 1 = w := ⟨_, rfl⟩
  have hl_va : -2147483648 ≤ va.toInt := Int32.le_toInt va
  have hh_va : va.toInt ≤ 2147483647 := Int32.toInt_le va
  rcases (by omega : va.toInt < 1 ∨ 1 ≤ va.toInt) with q | q
  · have hh_va : va.toInt ≤ 0 := by omega
    rcases (by omega : va.toInt < 0 ∨ 0 ≤ va.toInt) with q | q
    · have hh_va : va.toInt ≤ -1 := by omega
      refine x_aload_n C 2 dL_law_744 rfl rfl ?_
      refine x_aload_n C 3 dL_law_745 rfl rfl ?_
      refine x_iload_n C 0 dL_law_746 rfl rfl ?_
      refine x_iconst (v := (1 : Int32)) C dL_law_747 (by decide) ?_
      refine x_iadd C dL_law_748 ?_
      refine x_eqi (w := (1 : Int32)) (by decide) ?_
      refine x_sld (v := va) C 1 hX hbl hbz (vp_in_lit (by decide) (by decide)) (by decide) eva dL_law_749 ?_
      refine x_callV C cl_X9_goBack kmL_120 (ci := 8) (b := 0) (As := [.int va]) (rest := []) rfl h0 (p_X9_goBack_0 u va hl_va hh_va) rfl rfl (Nat.le_of_ble_eq_true rfl) ⟨Nat.le_of_ble_eq_true rfl, Nat.le_of_ble_eq_true rfl⟩ ⟨Nat.le_of_ble_eq_true rfl, Nat.le_of_ble_eq_true rfl⟩ dL_law_750 ?_
      refine x_norm (st2 := [.int (-1000000001 : Int32)]) (kc2 := 157) (ks2 := 5325) rfl rfl rfl rfl rfl ?_
      refine x_aload_n C 1 dL_law_753 rfl rfl ?_
      refine x_aload_n C 3 dL_law_754 rfl rfl ?_
      refine x_iload_n C 0 dL_law_755 rfl rfl ?_
      refine x_iconst (v := (1 : Int32)) C dL_law_756 (by decide) ?_
      refine x_iadd C dL_law_757 ?_
      refine x_eqi (w := (1 : Int32)) (by decide) ?_
      refine x_sld (v := va) C 1 hX hbl hbz (vp_in_lit (by decide) (by decide)) (by decide) eva dL_law_758 ?_
      have g134 := h134
      refine x_callV C cl_X10_goBack kmL_123 (ci := 9) (b := 134) (As := [.int va]) (rest := [.int (-1000000001 : Int32)]) rfl g134 (p_X10_goBack_0 u va hl_va hh_va) rfl rfl (Nat.le_of_ble_eq_true rfl) ⟨Nat.le_of_ble_eq_true rfl, Nat.le_of_ble_eq_true rfl⟩ ⟨Nat.le_of_ble_eq_true rfl, Nat.le_of_ble_eq_true rfl⟩ dL_law_759 ?_
      refine x_norm (st2 := [.int (-1000000001 : Int32), .int (-1000000001 : Int32)]) (kc2 := 157) (ks2 := 5325) rfl rfl rfl rfl rfl ?_
      refine x_icmp_eq_t C 767 dL_law_762 (by decide) rfl ?_
      exact kend _
    · have hl_va : 0 ≤ va.toInt := by omega
      have eva : xs 1 = (0 : Int32) := eva.trans (by rw [i_eq_iff]; have e9 : (0 : Int32).toInt = 0 := (by decide); omega)
      refine x_aload_n C 2 dL_law_744 rfl rfl ?_
      refine x_aload_n C 3 dL_law_745 rfl rfl ?_
      refine x_iload_n C 0 dL_law_746 rfl rfl ?_
      refine x_iconst (v := (1 : Int32)) C dL_law_747 (by decide) ?_
      refine x_iadd C dL_law_748 ?_
      refine x_eqi (w := (1 : Int32)) (by decide) ?_
      refine x_sld (v := (0 : Int32)) C 1 hX hbl hbz (vp_in_lit (by decide) (by decide)) (by decide) eva dL_law_749 ?_
      refine x_callV C cl_X9_goBack kmL_120 (ci := 8) (b := 0) (As := [.int (0 : Int32)]) (rest := []) rfl h0 (p_X9_goBack_1 u h0 h98 h126) rfl rfl (Nat.le_of_ble_eq_true rfl) ⟨Nat.le_of_ble_eq_true rfl, Nat.le_of_ble_eq_true rfl⟩ ⟨Nat.le_of_ble_eq_true rfl, Nat.le_of_ble_eq_true rfl⟩ dL_law_750 ?_
      refine x_norm (st2 := [.int (-1000000003 : Int32)]) (kc2 := 157) (ks2 := 5325) rfl rfl rfl rfl rfl ?_
      refine x_aload_n C 1 dL_law_753 rfl rfl ?_
      refine x_aload_n C 3 dL_law_754 rfl rfl ?_
      refine x_iload_n C 0 dL_law_755 rfl rfl ?_
      refine x_iconst (v := (1 : Int32)) C dL_law_756 (by decide) ?_
      refine x_iadd C dL_law_757 ?_
      refine x_eqi (w := (1 : Int32)) (by decide) ?_
      refine x_sld (v := (0 : Int32)) C 1 hX hbl hbz (vp_in_lit (by decide) (by decide)) (by decide) eva dL_law_758 ?_
      have g134 := h134
      have g154 := h154
      refine x_callV C cl_X10_goBack kmL_123 (ci := 9) (b := 134) (As := [.int (0 : Int32)]) (rest := [.int (-1000000003 : Int32)]) rfl g134 (p_X10_goBack_1 u g134 g154) rfl rfl (Nat.le_of_ble_eq_true rfl) ⟨Nat.le_of_ble_eq_true rfl, Nat.le_of_ble_eq_true rfl⟩ ⟨Nat.le_of_ble_eq_true rfl, Nat.le_of_ble_eq_true rfl⟩ dL_law_759 ?_
      refine x_norm (st2 := [.int (-1000000003 : Int32), .int (-1000000003 : Int32)]) (kc2 := 157) (ks2 := 5325) rfl rfl rfl rfl rfl ?_
      refine x_icmp_eq_t C 767 dL_law_762 (by decide) rfl ?_
      exact kend _
  · have hl_va : 1 ≤ va.toInt := by omega
    rcases (by omega : va.toInt < 2 ∨ 2 ≤ va.toInt) with q | q
    · have hh_va : va.toInt ≤ 1 := by omega
      have eva : xs 1 = (1 : Int32) := eva.trans (by rw [i_eq_iff]; have e9 : (1 : Int32).toInt = 1 := (by decide); omega)
      refine x_aload_n C 2 dL_law_744 rfl rfl ?_
      refine x_aload_n C 3 dL_law_745 rfl rfl ?_
      refine x_iload_n C 0 dL_law_746 rfl rfl ?_
      refine x_iconst (v := (1 : Int32)) C dL_law_747 (by decide) ?_
      refine x_iadd C dL_law_748 ?_
      refine x_eqi (w := (1 : Int32)) (by decide) ?_
      refine x_sld (v := (1 : Int32)) C 1 hX hbl hbz (vp_in_lit (by decide) (by decide)) (by decide) eva dL_law_749 ?_
      refine x_callV C cl_X9_goBack kmL_120 (ci := 8) (b := 0) (As := [.int (1 : Int32)]) (rest := []) rfl h0 (p_X9_goBack_2 u h0 h98 h130) rfl rfl (Nat.le_of_ble_eq_true rfl) ⟨Nat.le_of_ble_eq_true rfl, Nat.le_of_ble_eq_true rfl⟩ ⟨Nat.le_of_ble_eq_true rfl, Nat.le_of_ble_eq_true rfl⟩ dL_law_750 ?_
      refine x_norm (st2 := [.int (-1000000003 : Int32)]) (kc2 := 157) (ks2 := 5325) rfl rfl rfl rfl rfl ?_
      refine x_aload_n C 1 dL_law_753 rfl rfl ?_
      refine x_aload_n C 3 dL_law_754 rfl rfl ?_
      refine x_iload_n C 0 dL_law_755 rfl rfl ?_
      refine x_iconst (v := (1 : Int32)) C dL_law_756 (by decide) ?_
      refine x_iadd C dL_law_757 ?_
      refine x_eqi (w := (1 : Int32)) (by decide) ?_
      refine x_sld (v := (1 : Int32)) C 1 hX hbl hbz (vp_in_lit (by decide) (by decide)) (by decide) eva dL_law_758 ?_
      have g134 := h134
      have g154 := h154
      refine x_callV C cl_X10_goBack kmL_123 (ci := 9) (b := 134) (As := [.int (1 : Int32)]) (rest := [.int (-1000000003 : Int32)]) rfl g134 (p_X10_goBack_2 u g134 g154) rfl rfl (Nat.le_of_ble_eq_true rfl) ⟨Nat.le_of_ble_eq_true rfl, Nat.le_of_ble_eq_true rfl⟩ ⟨Nat.le_of_ble_eq_true rfl, Nat.le_of_ble_eq_true rfl⟩ dL_law_759 ?_
      refine x_norm (st2 := [.int (-1000000003 : Int32), .int (-1000000003 : Int32)]) (kc2 := 157) (ks2 := 5325) rfl rfl rfl rfl rfl ?_
      refine x_icmp_eq_t C 767 dL_law_762 (by decide) rfl ?_
      exact kend _
    · have hl_va : 2 ≤ va.toInt := by omega
      refine x_aload_n C 2 dL_law_744 rfl rfl ?_
      refine x_aload_n C 3 dL_law_745 rfl rfl ?_
      refine x_iload_n C 0 dL_law_746 rfl rfl ?_
      refine x_iconst (v := (1 : Int32)) C dL_law_747 (by decide) ?_
      refine x_iadd C dL_law_748 ?_
      refine x_eqi (w := (1 : Int32)) (by decide) ?_
      refine x_sld (v := va) C 1 hX hbl hbz (vp_in_lit (by decide) (by decide)) (by decide) eva dL_law_749 ?_
      refine x_callV C cl_X9_goBack kmL_120 (ci := 8) (b := 0) (As := [.int va]) (rest := []) rfl h0 (p_X9_goBack_3 u va hl_va hh_va h0 h98) rfl rfl (Nat.le_of_ble_eq_true rfl) ⟨Nat.le_of_ble_eq_true rfl, Nat.le_of_ble_eq_true rfl⟩ ⟨Nat.le_of_ble_eq_true rfl, Nat.le_of_ble_eq_true rfl⟩ dL_law_750 ?_
      refine x_norm (st2 := [.int (-1000000001 : Int32)]) (kc2 := 157) (ks2 := 5325) rfl rfl rfl rfl rfl ?_
      refine x_aload_n C 1 dL_law_753 rfl rfl ?_
      refine x_aload_n C 3 dL_law_754 rfl rfl ?_
      refine x_iload_n C 0 dL_law_755 rfl rfl ?_
      refine x_iconst (v := (1 : Int32)) C dL_law_756 (by decide) ?_
      refine x_iadd C dL_law_757 ?_
      refine x_eqi (w := (1 : Int32)) (by decide) ?_
      refine x_sld (v := va) C 1 hX hbl hbz (vp_in_lit (by decide) (by decide)) (by decide) eva dL_law_758 ?_
      have g134 := h134
      refine x_callV C cl_X10_goBack kmL_123 (ci := 9) (b := 134) (As := [.int va]) (rest := [.int (-1000000001 : Int32)]) rfl g134 (p_X10_goBack_3 u va hl_va hh_va) rfl rfl (Nat.le_of_ble_eq_true rfl) ⟨Nat.le_of_ble_eq_true rfl, Nat.le_of_ble_eq_true rfl⟩ ⟨Nat.le_of_ble_eq_true rfl, Nat.le_of_ble_eq_true rfl⟩ dL_law_759 ?_
      refine x_norm (st2 := [.int (-1000000001 : Int32), .int (-1000000001 : Int32)]) (kc2 := 157) (ks2 := 5325) rfl rfl rfl rfl rfl ?_
      refine x_icmp_eq_t C 767 dL_law_762 (by decide) rfl ?_
      exact kend _
