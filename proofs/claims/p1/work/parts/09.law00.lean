def Fresh (G : GT) (z : Nat) (u : HpT) : Prop := u 0 = some (.inr (8, [.ref (z + 1), .ref (z + 3), .ref (z + 6), .ref (z + 98), .ref (z + 99), .ref (z + 101), .ref (z + 106), .ref (z + 109), .ref (z + 112), .ref (z + 119), .int (0 : Int32), .int (-1 : Int32)])) ∧ u 1 = some (.inr (6, [.ref (z + 2), .int (0 : Int32), .int (0 : Int32), .int (0 : Int32), .int (-1 : Int32)])) ∧ u 2 = some (aI G 240 (fun _ => 0)) ∧ u 3 = some (.inr (2, [.int (0 : Int32), .int (0 : Int32), .int (0 : Int32), .int (0 : Int32), .int (-1 : Int32), .int (0 : Int32), .int (-1 : Int32), .int (0 : Int32), .int (0 : Int32), .int (0 : Int32), .ref (z + 4), .ref (z + 5)])) ∧ u 4 = some (aI G 6 (fun _ => 0)) ∧ u 5 = some (aI G 6 (fun _ => 0)) ∧ u 6 = some (.inr (5, [.ref (z + 7), .int (0 : Int32), .int (0 : Int32)])) ∧ u 98 = some (aM G 2 (va_up (va_up (fun _ => none) 0 (some (z + 126))) 1 (some (z + 130)))) ∧ u 99 = some (.inr (7, [.ref (z + 100), .int (0 : Int32), .int (-1 : Int32), .int (0 : Int32)])) ∧ u 101 = some (.inr (4, [.ref (z + 102), .ref (z + 103), .ref (z + 104), .ref (z + 105), .int (0 : Int32), .int (0 : Int32), .int (0 : Int32)])) ∧ u 106 = some (.inr (1, [.ref (z + 107), .ref (z + 108), .int (0 : Int32)])) ∧ u 109 = some (.inr (1, [.ref (z + 110), .ref (z + 111), .int (0 : Int32)])) ∧ u 112 = some (.inr (0, [.int (0 : Int32), .int (0 : Int32), .int (0 : Int32), .int (0 : Int32), .ref (z + 113), .ref (z + 114), .ref (z + 115), .ref (z + 116), .ref (z + 117), .ref (z + 118)])) ∧ u 119 = some (.inr (0, [.int (0 : Int32), .int (0 : Int32), .int (0 : Int32), .int (0 : Int32), .ref (z + 120), .ref (z + 121), .ref (z + 122), .ref (z + 123), .ref (z + 124), .ref (z + 125)])) ∧ u 126 = some (.inr (3, [.ref (z + 127), .int (0 : Int32), .int (0 : Int32)])) ∧ u 127 = some (.inr (2, [.int (0 : Int32), .int (0 : Int32), .int (0 : Int32), .int (0 : Int32), .int (-1 : Int32), .int (0 : Int32), .int (-1 : Int32), .int (0 : Int32), .int (0 : Int32), .int (0 : Int32), .ref (z + 128), .ref (z + 129)])) ∧ u 128 = some (aI G 6 (fun _ => 0)) ∧ u 129 = some (aI G 6 (fun _ => 0)) ∧ u 130 = some (.inr (3, [.ref (z + 131), .int (0 : Int32), .int (0 : Int32)])) ∧ u 131 = some (.inr (2, [.int (0 : Int32), .int (0 : Int32), .int (0 : Int32), .int (0 : Int32), .int (-1 : Int32), .int (0 : Int32), .int (-1 : Int32), .int (0 : Int32), .int (0 : Int32), .int (0 : Int32), .ref (z + 132), .ref (z + 133)])) ∧ u 132 = some (aI G 6 (fun _ => 0)) ∧ u 133 = some (aI G 6 (fun _ => 0)) ∧ u 134 = some (.inr (9, [.int (0 : Int32), .ref (z + 135), .int (0 : Int32), .int (0 : Int32), .int (0 : Int32), .int (-1 : Int32), .int (0 : Int32), .int (0 : Int32), .int (0 : Int32), .int (0 : Int32), .ref (z + 136), .ref (z + 137), .ref (z + 138), .ref (z + 139), .ref (z + 140), .int (0 : Int32), .int (0 : Int32), .int (0 : Int32), .int (0 : Int32), .ref (z + 141), .ref (z + 142), .ref (z + 143), .ref (z + 144), .ref (z + 145), .ref (z + 146), .int (0 : Int32), .int (0 : Int32), .ref (z + 147), .long (0 : Int64), .ref (z + 148), .int (0 : Int32), .int (0 : Int32), .int (0 : Int32), .ref (z + 149), .int (0 : Int32), .ref (z + 150), .ref (z + 151), .int (0 : Int32), .ref (z + 152), .ref (z + 153), .ref (z + 154), .ref (z + 155), .ref (z + 156)])) ∧ u 135 = some (aI G 240 (fun _ => 0)) ∧ u 146 = some (aI G 25 (upd (upd (fun _ => 0) 4 (-1 : Int32)) 6 (-1 : Int32))) ∧ u 154 = some (aZ G 2 (fun _ => 0)) ∧ u 155 = some (aI G 50 (fun _ => 0)) ∧ u 156 = some (aL G 2 (fun _ => 0))
set_option maxRecDepth 20000 in
theorem lc_feed {p : Program} {l : Launch} {e : Env} {s : State} {m : MethodId} {below : List Frame} {meth : Method} {c : Code} {G : GT} {z b : Nat} {xs : Nat → Int32} {u : HpT} (C : Cx p s m #[Value.ref b] c G RL cL_law 4 z) (hX : va_X b 3 xs s s.heap) (hbl : b < s.heap.size) (hbz : b < z) (hF : Fresh G z u) (kend : ∀ u2 : HpT, Xw p l e room_1 s m #[Value.ref b] below meth c G z 4 (lw_Z below #[Value.ref b] s) 767 [(3, .int (0 : Int32)), (2, .ref (z + 134)), (1, .ref (z + 0)), (0, .ref b)] [] u2 157 157 5325) : Xw p l e room_1 s m #[Value.ref b] below meth c G z 4 (lw_Z below #[Value.ref b] s) 156 [(3, .int (0 : Int32)), (2, .ref (z + 134)), (1, .ref (z + 0)), (0, .ref b)] [] u 157 157 5325 := by
  obtain ⟨h0, h1, h2, h3, h4, h5, h6, h98, h99, h101, h106, h109, h112, h119, h126, h127, h128, h129, h130, h131, h132, h133, h134, h135, h146, h154, h155, h156⟩ := hF
  obtain ⟨va, eva⟩ : ∃ w : Int32, xs 1 = w := ⟨_, rfl⟩
  have hl_va : -2147483648 ≤ va.toInt := Int32.le_toInt va
  have hh_va : va.toInt ≤ 2147483647 := Int32.toInt_le va
  rcases (by omega : va.toInt < 0 ∨ 0 ≤ va.toInt) with q | q
  · have hh_va : va.toInt ≤ -1 := by omega
    refine x_aload_n C 2 dL_law_156 rfl rfl ?_
    refine x_aload_n C 3 dL_law_157 rfl rfl ?_
    refine x_iload_n C 0 dL_law_158 rfl rfl ?_
    refine x_iconst (v := (1 : Int32)) C dL_law_159 (by decide) ?_
    refine x_iadd C dL_law_160 ?_
    refine x_eqi (w := (1 : Int32)) (by decide) ?_
    refine x_sld (v := va) C 1 hX hbl hbz (vp_in_lit (by decide) (by decide)) (by decide) eva dL_law_161 ?_
    refine x_callV C cl_X9_feed kmL_13 (ci := 8) (b := 0) (As := [.int va]) (rest := []) rfl h0 (p_X9_feed_0 u va hl_va hh_va) rfl rfl (Nat.le_of_ble_eq_true rfl) ⟨Nat.le_of_ble_eq_true rfl, Nat.le_of_ble_eq_true rfl⟩ ⟨Nat.le_of_ble_eq_true rfl, Nat.le_of_ble_eq_true rfl⟩ dL_law_162 ?_
    refine x_norm (st2 := [.int (-1000000002 : Int32)]) (kc2 := 157) (ks2 := 5325) rfl rfl rfl rfl rfl ?_
    refine x_aload_n C 1 dL_law_165 rfl rfl ?_
    refine x_aload_n C 3 dL_law_166 rfl rfl ?_
    refine x_iload_n C 0 dL_law_167 rfl rfl ?_
    refine x_iconst (v := (1 : Int32)) C dL_law_168 (by decide) ?_
    refine x_iadd C dL_law_169 ?_
    refine x_eqi (w := (1 : Int32)) (by decide) ?_
    refine x_sld (v := va) C 1 hX hbl hbz (vp_in_lit (by decide) (by decide)) (by decide) eva dL_law_170 ?_
    have g134 := h134
    refine x_callV C cl_X10_feed kmL_17 (ci := 9) (b := 134) (As := [.int va]) (rest := [.int (-1000000002 : Int32)]) rfl g134 (p_X10_feed_0 u va hl_va hh_va) rfl rfl (Nat.le_of_ble_eq_true rfl) ⟨Nat.le_of_ble_eq_true rfl, Nat.le_of_ble_eq_true rfl⟩ ⟨Nat.le_of_ble_eq_true rfl, Nat.le_of_ble_eq_true rfl⟩ dL_law_171 ?_
    refine x_norm (st2 := [.int (-1000000002 : Int32), .int (-1000000002 : Int32)]) (kc2 := 157) (ks2 := 5325) rfl rfl rfl rfl rfl ?_
    refine x_icmp_eq_t C 767 dL_law_174 (by decide) rfl ?_
    exact kend _
  · have hl_va : 0 ≤ va.toInt := by omega
    rcases (by omega : va.toInt < 256 ∨ 256 ≤ va.toInt) with q | q
    · have hh_va : va.toInt ≤ 255 := by omega
      refine x_aload_n C 2 dL_law_156 rfl rfl ?_
      refine x_aload_n C 3 dL_law_157 rfl rfl ?_
      refine x_iload_n C 0 dL_law_158 rfl rfl ?_
      refine x_iconst (v := (1 : Int32)) C dL_law_159 (by decide) ?_
      refine x_iadd C dL_law_160 ?_
      refine x_eqi (w := (1 : Int32)) (by decide) ?_
      refine x_sld (v := va) C 1 hX hbl hbz (vp_in_lit (by decide) (by decide)) (by decide) eva dL_law_161 ?_
      refine x_callV C cl_X9_feed kmL_13 (ci := 8) (b := 0) (As := [.int va]) (rest := []) rfl h0 (p_X9_feed_1 u va hl_va hh_va h0 h1 h2) rfl rfl (Nat.le_of_ble_eq_true rfl) ⟨Nat.le_of_ble_eq_true rfl, Nat.le_of_ble_eq_true rfl⟩ ⟨Nat.le_of_ble_eq_true rfl, Nat.le_of_ble_eq_true rfl⟩ dL_law_162 ?_
      obtain ⟨u1, eu1⟩ : ∃ w : HpT, w = (hup (hup u 2 (aI G 240 (upd (fun _ => 0) 0 va))) 1 (.inr (6, [.ref (z + 2), .int (1 : Int32), .int (0 : Int32), .int (0 : Int32), .int (-1 : Int32)]))) := ⟨_, rfl⟩
      refine x_norm (st2 := [.int (1 : Int32)]) (kc2 := 157) (ks2 := 5325) rfl rfl rfl rfl eu1.symm ?_
      refine x_aload_n C 1 dL_law_165 rfl rfl ?_
      refine x_aload_n C 3 dL_law_166 rfl rfl ?_
      refine x_iload_n C 0 dL_law_167 rfl rfl ?_
      refine x_iconst (v := (1 : Int32)) C dL_law_168 (by decide) ?_
      refine x_iadd C dL_law_169 ?_
      refine x_eqi (w := (1 : Int32)) (by decide) ?_
      refine x_sld (v := va) C 1 hX hbl hbz (vp_in_lit (by decide) (by decide)) (by decide) eva dL_law_170 ?_
      have g134 := (congrFun eu1 134).trans (hup_n' (by decide) (hup_n' (by decide) (h134)))
      have g135 := (congrFun eu1 135).trans (hup_n' (by decide) (hup_n' (by decide) (h135)))
      refine x_callV C cl_X10_feed kmL_17 (ci := 9) (b := 134) (As := [.int va]) (rest := [.int (1 : Int32)]) rfl g134 (p_X10_feed_1 u1 va hl_va hh_va g134 g135) rfl rfl (Nat.le_of_ble_eq_true rfl) ⟨Nat.le_of_ble_eq_true rfl, Nat.le_of_ble_eq_true rfl⟩ ⟨Nat.le_of_ble_eq_true rfl, Nat.le_of_ble_eq_true rfl⟩ dL_law_171 ?_
      refine x_norm (st2 := [.int (1 : Int32), .int (1 : Int32)]) (kc2 := 157) (ks2 := 5325) rfl rfl rfl rfl rfl ?_
      refine x_icmp_eq_t C 767 dL_law_174 (by decide) rfl ?_
      exact kend _
    · have hl_va : 256 ≤ va.toInt := by omega
      refine x_aload_n C 2 dL_law_156 rfl rfl ?_
      refine x_aload_n C 3 dL_law_157 rfl rfl ?_
      refine x_iload_n C 0 dL_law_158 rfl rfl ?_
      refine x_iconst (v := (1 : Int32)) C dL_law_159 (by decide) ?_
      refine x_iadd C dL_law_160 ?_
      refine x_eqi (w := (1 : Int32)) (by decide) ?_
      refine x_sld (v := va) C 1 hX hbl hbz (vp_in_lit (by decide) (by decide)) (by decide) eva dL_law_161 ?_
      refine x_callV C cl_X9_feed kmL_13 (ci := 8) (b := 0) (As := [.int va]) (rest := []) rfl h0 (p_X9_feed_2 u va hl_va hh_va) rfl rfl (Nat.le_of_ble_eq_true rfl) ⟨Nat.le_of_ble_eq_true rfl, Nat.le_of_ble_eq_true rfl⟩ ⟨Nat.le_of_ble_eq_true rfl, Nat.le_of_ble_eq_true rfl⟩ dL_law_162 ?_
      refine x_norm (st2 := [.int (-1000000002 : Int32)]) (kc2 := 157) (ks2 := 5325) rfl rfl rfl rfl rfl ?_
      refine x_aload_n C 1 dL_law_165 rfl rfl ?_
      refine x_aload_n C 3 dL_law_166 rfl rfl ?_
      refine x_iload_n C 0 dL_law_167 rfl rfl ?_
      refine x_iconst (v := (1 : Int32)) C dL_law_168 (by decide) ?_
      refine x_iadd C dL_law_169 ?_
      refine x_eqi (w := (1 : Int32)) (by decide) ?_
      refine x_sld (v := va) C 1 hX hbl hbz (vp_in_lit (by decide) (by decide)) (by decide) eva dL_law_170 ?_
      have g134 := h134
      refine x_callV C cl_X10_feed kmL_17 (ci := 9) (b := 134) (As := [.int va]) (rest := [.int (-1000000002 : Int32)]) rfl g134 (p_X10_feed_2 u va hl_va hh_va) rfl rfl (Nat.le_of_ble_eq_true rfl) ⟨Nat.le_of_ble_eq_true rfl, Nat.le_of_ble_eq_true rfl⟩ ⟨Nat.le_of_ble_eq_true rfl, Nat.le_of_ble_eq_true rfl⟩ dL_law_171 ?_
      refine x_norm (st2 := [.int (-1000000002 : Int32), .int (-1000000002 : Int32)]) (kc2 := 157) (ks2 := 5325) rfl rfl rfl rfl rfl ?_
      refine x_icmp_eq_t C 767 dL_law_174 (by decide) rfl ?_
      exact kend _
set_option maxRecDepth 20000 in
theorem lc_bridge {p : Program} {l : Launch} {e : Env} {s : State} {m : MethodId} {below : List Frame} {meth : Method} {c : Code} {G : GT} {z b : Nat} {xs : Nat → Int32} {u : HpT} (C : Cx p s m #[Value.ref b] c G RL cL_law 4 z) (hX : va_X b 3 xs s s.heap) (hbl : b < s.heap.size) (hbz : b < z) (hF : Fresh G z u) (kend : ∀ u2 : HpT, Xw p l e room_1 s m #[Value.ref b] below meth c G z 4 (lw_Z below #[Value.ref b] s) 767 [(3, .int (0 : Int32)), (2, .ref (z + 134)), (1, .ref (z + 0)), (0, .ref b)] [] u2 157 157 5325) : Xw p l e room_1 s m #[Value.ref b] below meth c G z 4 (lw_Z below #[Value.ref b] s) 179 [(3, .int (0 : Int32)), (2, .ref (z + 134)), (1, .ref (z + 0)), (0, .ref b)] [] u 157 157 5325 := by
  obtain ⟨h0, h1, h2, h3, h4, h5, h6, h98, h99, h101, h106, h109, h112, h119, h126, h127, h128, h129, h130, h131, h132, h133, h134, h135, h146, h154, h155, h156⟩ := hF
  refine x_aload_n C 2 dL_law_179 rfl rfl ?_
  refine x_callV C cl_X9_bridge kmL_18 (ci := 8) (b := 0) (As := []) (rest := []) rfl h0 (p_X9_bridge_0 u h0 h1 h3 h4 h5 h6 h98 h106 h109 h119 h126 h130) rfl rfl (Nat.le_of_ble_eq_true rfl) ⟨Nat.le_of_ble_eq_true rfl, Nat.le_of_ble_eq_true rfl⟩ ⟨Nat.le_of_ble_eq_true rfl, Nat.le_of_ble_eq_true rfl⟩ dL_law_180 ?_
  obtain ⟨u1, eu1⟩ : ∃ w : HpT, w = (hup (hup (hup (hup (hup (hup (hup (hup (hup (hup (hup u 119 (.inr (0, [.int (0 : Int32), .int (0 : Int32), .int (0 : Int32), .int (0 : Int32), .ref (z + 120), .ref (z + 121), .ref (z + 122), .ref (z + 123), .ref (z + 124), .ref (z + 125)]))) 1 (.inr (6, [.ref (z + 2), .int (0 : Int32), .int (0 : Int32), .int (0 : Int32), .int (-1 : Int32)]))) 0 (.inr (8, [.ref (z + 1), .ref (z + 3), .ref (z + 6), .ref (z + 98), .ref (z + 99), .ref (z + 101), .ref (z + 106), .ref (z + 109), .ref (z + 119), .ref (z + 112), .int (0 : Int32), .int (-1 : Int32)]))) 3 (.inr (2, [.int (0 : Int32), .int (0 : Int32), .int (0 : Int32), .int (0 : Int32), .int (-1 : Int32), .int (0 : Int32), .int (-1 : Int32), .int (0 : Int32), .int (0 : Int32), .int (0 : Int32), .ref (z + 4), .ref (z + 5)]))) 4 (aI G 6 (upd (upd (upd (upd (upd (upd (fun _ => 0) 0 (0 : Int32)) 1 (0 : Int32)) 2 (0 : Int32)) 3 (0 : Int32)) 4 (0 : Int32)) 5 (0 : Int32)))) 5 (aI G 6 (upd (upd (upd (upd (upd (upd (fun _ => 0) 0 (0 : Int32)) 1 (0 : Int32)) 2 (0 : Int32)) 3 (0 : Int32)) 4 (0 : Int32)) 5 (0 : Int32)))) 6 (.inr (5, [.ref (z + 7), .int (0 : Int32), .int (0 : Int32)]))) 106 (.inr (1, [.ref (z + 107), .ref (z + 108), .int (0 : Int32)]))) 109 (.inr (1, [.ref (z + 110), .ref (z + 111), .int (0 : Int32)]))) 126 (.inr (3, [.ref (z + 127), .int (0 : Int32), .int (0 : Int32)]))) 130 (.inr (3, [.ref (z + 131), .int (0 : Int32), .int (0 : Int32)]))) := ⟨_, rfl⟩
  refine x_norm (st2 := [.int (0 : Int32)]) (kc2 := 157) (ks2 := 5325) rfl rfl rfl rfl eu1.symm ?_
  refine x_aload_n C 1 dL_law_183 rfl rfl ?_
  have g134 := (congrFun eu1 134).trans (hup_n' (by decide) (hup_n' (by decide) (hup_n' (by decide) (hup_n' (by decide) (hup_n' (by decide) (hup_n' (by decide) (hup_n' (by decide) (hup_n' (by decide) (hup_n' (by decide) (hup_n' (by decide) (hup_n' (by decide) (h134))))))))))))
  have g146 := (congrFun eu1 146).trans (hup_n' (by decide) (hup_n' (by decide) (hup_n' (by decide) (hup_n' (by decide) (hup_n' (by decide) (hup_n' (by decide) (hup_n' (by decide) (hup_n' (by decide) (hup_n' (by decide) (hup_n' (by decide) (hup_n' (by decide) (h146))))))))))))
  have g154 := (congrFun eu1 154).trans (hup_n' (by decide) (hup_n' (by decide) (hup_n' (by decide) (hup_n' (by decide) (hup_n' (by decide) (hup_n' (by decide) (hup_n' (by decide) (hup_n' (by decide) (hup_n' (by decide) (hup_n' (by decide) (hup_n' (by decide) (h154))))))))))))
  refine x_callV C cl_X10_bridge kmL_22 (ci := 9) (b := 134) (As := []) (rest := [.int (0 : Int32)]) rfl g134 (p_X10_bridge_0 u1 g134 g146 g154) rfl rfl (Nat.le_of_ble_eq_true rfl) ⟨Nat.le_of_ble_eq_true rfl, Nat.le_of_ble_eq_true rfl⟩ ⟨Nat.le_of_ble_eq_true rfl, Nat.le_of_ble_eq_true rfl⟩ dL_law_184 ?_
  refine x_norm (st2 := [.int (0 : Int32), .int (0 : Int32)]) (kc2 := 157) (ks2 := 5325) rfl rfl rfl rfl rfl ?_
  refine x_icmp_eq_t C 767 dL_law_187 (by decide) rfl ?_
  exact kend _
set_option maxRecDepth 20000 in
theorem lc_fault {p : Program} {l : Launch} {e : Env} {s : State} {m : MethodId} {below : List Frame} {meth : Method} {c : Code} {G : GT} {z b : Nat} {xs : Nat → Int32} {u : HpT} (C : Cx p s m #[Value.ref b] c G RL cL_law 4 z) (hX : va_X b 3 xs s s.heap) (hbl : b < s.heap.size) (hbz : b < z) (hF : Fresh G z u) (kend : ∀ u2 : HpT, Xw p l e room_1 s m #[Value.ref b] below meth c G z 4 (lw_Z below #[Value.ref b] s) 767 [(3, .int (0 : Int32)), (2, .ref (z + 134)), (1, .ref (z + 0)), (0, .ref b)] [] u2 157 157 5325) : Xw p l e room_1 s m #[Value.ref b] below meth c G z 4 (lw_Z below #[Value.ref b] s) 192 [(3, .int (0 : Int32)), (2, .ref (z + 134)), (1, .ref (z + 0)), (0, .ref b)] [] u 157 157 5325 := by
  obtain ⟨h0, h1, h2, h3, h4, h5, h6, h98, h99, h101, h106, h109, h112, h119, h126, h127, h128, h129, h130, h131, h132, h133, h134, h135, h146, h154, h155, h156⟩ := hF
  refine x_aload_n C 2 dL_law_192 rfl rfl ?_
  refine x_callV C cl_X9_fault kmL_23 (ci := 8) (b := 0) (As := []) (rest := []) rfl h0 (p_X9_fault_0 u h0) rfl rfl (Nat.le_of_ble_eq_true rfl) ⟨Nat.le_of_ble_eq_true rfl, Nat.le_of_ble_eq_true rfl⟩ ⟨Nat.le_of_ble_eq_true rfl, Nat.le_of_ble_eq_true rfl⟩ dL_law_193 ?_
  refine x_norm (st2 := [.int (-1 : Int32)]) (kc2 := 157) (ks2 := 5325) rfl rfl rfl rfl rfl ?_
  refine x_aload_n C 1 dL_law_196 rfl rfl ?_
  have g134 := h134
  refine x_callV C cl_X10_fault kmL_26 (ci := 9) (b := 134) (As := []) (rest := [.int (-1 : Int32)]) rfl g134 (p_X10_fault_0 u g134) rfl rfl (Nat.le_of_ble_eq_true rfl) ⟨Nat.le_of_ble_eq_true rfl, Nat.le_of_ble_eq_true rfl⟩ ⟨Nat.le_of_ble_eq_true rfl, Nat.le_of_ble_eq_true rfl⟩ dL_law_197 ?_
  refine x_norm (st2 := [.int (-1 : Int32), .int (-1 : Int32)]) (kc2 := 157) (ks2 := 5325) rfl rfl rfl rfl rfl ?_
  refine x_icmp_eq_t C 767 dL_law_200 (by decide) rfl ?_
  exact kend _
set_option maxRecDepth 20000 in
theorem lc_told {p : Program} {l : Launch} {e : Env} {s : State} {m : MethodId} {below : List Frame} {meth : Method} {c : Code} {G : GT} {z b : Nat} {xs : Nat → Int32} {u : HpT} (C : Cx p s m #[Value.ref b] c G RL cL_law 4 z) (hX : va_X b 3 xs s s.heap) (hbl : b < s.heap.size) (hbz : b < z) (hF : Fresh G z u) (kend : ∀ u2 : HpT, Xw p l e room_1 s m #[Value.ref b] below meth c G z 4 (lw_Z below #[Value.ref b] s) 767 [(3, .int (0 : Int32)), (2, .ref (z + 134)), (1, .ref (z + 0)), (0, .ref b)] [] u2 157 157 5325) : Xw p l e room_1 s m #[Value.ref b] below meth c G z 4 (lw_Z below #[Value.ref b] s) 205 [(3, .int (0 : Int32)), (2, .ref (z + 134)), (1, .ref (z + 0)), (0, .ref b)] [] u 157 157 5325 := by
  obtain ⟨h0, h1, h2, h3, h4, h5, h6, h98, h99, h101, h106, h109, h112, h119, h126, h127, h128, h129, h130, h131, h132, h133, h134, h135, h146, h154, h155, h156⟩ := hF
  obtain ⟨va, eva⟩ : ∃ w : Int32, xs 1 = w := ⟨_, rfl⟩
  have hl_va : -2147483648 ≤ va.toInt := Int32.le_toInt va
  have hh_va : va.toInt ≤ 2147483647 := Int32.toInt_le va
  rcases (by omega : va.toInt < 10 ∨ 10 ≤ va.toInt) with q | q
  · have hh_va : va.toInt ≤ 9 := by omega
    rcases (by omega : va.toInt < 4 ∨ 4 ≤ va.toInt) with q | q
    · have hh_va : va.toInt ≤ 3 := by omega
      rcases (by omega : va.toInt < 1 ∨ 1 ≤ va.toInt) with q | q
      · have hh_va : va.toInt ≤ 0 := by omega
        rcases (by omega : va.toInt < 0 ∨ 0 ≤ va.toInt) with q | q
        · have hh_va : va.toInt ≤ -1 := by omega
          refine x_aload_n C 2 dL_law_205 rfl rfl ?_
          refine x_aload_n C 3 dL_law_206 rfl rfl ?_
          refine x_iload_n C 0 dL_law_207 rfl rfl ?_
          refine x_iconst (v := (1 : Int32)) C dL_law_208 (by decide) ?_
          refine x_iadd C dL_law_209 ?_
          refine x_eqi (w := (1 : Int32)) (by decide) ?_
          refine x_sld (v := va) C 1 hX hbl hbz (vp_in_lit (by decide) (by decide)) (by decide) eva dL_law_210 ?_
          refine x_callV C cl_X9_told kmL_27 (ci := 8) (b := 0) (As := [.int va]) (rest := []) rfl h0 (p_X9_told_0 u va hl_va hh_va h0) rfl rfl (Nat.le_of_ble_eq_true rfl) ⟨Nat.le_of_ble_eq_true rfl, Nat.le_of_ble_eq_true rfl⟩ ⟨Nat.le_of_ble_eq_true rfl, Nat.le_of_ble_eq_true rfl⟩ dL_law_211 ?_
          refine x_norm (st2 := [.int (-1000000002 : Int32)]) (kc2 := 157) (ks2 := 5325) rfl rfl rfl rfl rfl ?_
          refine x_aload_n C 1 dL_law_214 rfl rfl ?_
          refine x_aload_n C 3 dL_law_215 rfl rfl ?_
          refine x_iload_n C 0 dL_law_216 rfl rfl ?_
          refine x_iconst (v := (1 : Int32)) C dL_law_217 (by decide) ?_
          refine x_iadd C dL_law_218 ?_
          refine x_eqi (w := (1 : Int32)) (by decide) ?_
          refine x_sld (v := va) C 1 hX hbl hbz (vp_in_lit (by decide) (by decide)) (by decide) eva dL_law_219 ?_
          have g134 := h134
          refine x_callV C cl_X10_told kmL_30 (ci := 9) (b := 134) (As := [.int va]) (rest := [.int (-1000000002 : Int32)]) rfl g134 (p_X10_told_0 u va hl_va hh_va) rfl rfl (Nat.le_of_ble_eq_true rfl) ⟨Nat.le_of_ble_eq_true rfl, Nat.le_of_ble_eq_true rfl⟩ ⟨Nat.le_of_ble_eq_true rfl, Nat.le_of_ble_eq_true rfl⟩ dL_law_220 ?_
          refine x_norm (st2 := [.int (-1000000002 : Int32), .int (-1000000002 : Int32)]) (kc2 := 157) (ks2 := 5325) rfl rfl rfl rfl rfl ?_
          refine x_icmp_eq_t C 767 dL_law_223 (by decide) rfl ?_
          exact kend _
        · have hl_va : 0 ≤ va.toInt := by omega
          have eva : xs 1 = (0 : Int32) := eva.trans (by rw [i_eq_iff]; have e9 : (0 : Int32).toInt = 0 := (by decide); omega)
          refine x_aload_n C 2 dL_law_205 rfl rfl ?_
          refine x_aload_n C 3 dL_law_206 rfl rfl ?_
          refine x_iload_n C 0 dL_law_207 rfl rfl ?_
          refine x_iconst (v := (1 : Int32)) C dL_law_208 (by decide) ?_
          refine x_iadd C dL_law_209 ?_
          refine x_eqi (w := (1 : Int32)) (by decide) ?_
          refine x_sld (v := (0 : Int32)) C 1 hX hbl hbz (vp_in_lit (by decide) (by decide)) (by decide) eva dL_law_210 ?_
          refine x_callV C cl_X9_told kmL_27 (ci := 8) (b := 0) (As := [.int (0 : Int32)]) (rest := []) rfl h0 (p_X9_told_1 u h0 h112) rfl rfl (Nat.le_of_ble_eq_true rfl) ⟨Nat.le_of_ble_eq_true rfl, Nat.le_of_ble_eq_true rfl⟩ ⟨Nat.le_of_ble_eq_true rfl, Nat.le_of_ble_eq_true rfl⟩ dL_law_211 ?_
          refine x_norm (st2 := [.int (0 : Int32)]) (kc2 := 157) (ks2 := 5325) rfl rfl rfl rfl rfl ?_
          refine x_aload_n C 1 dL_law_214 rfl rfl ?_
          refine x_aload_n C 3 dL_law_215 rfl rfl ?_
          refine x_iload_n C 0 dL_law_216 rfl rfl ?_
          refine x_iconst (v := (1 : Int32)) C dL_law_217 (by decide) ?_
          refine x_iadd C dL_law_218 ?_
          refine x_eqi (w := (1 : Int32)) (by decide) ?_
          refine x_sld (v := (0 : Int32)) C 1 hX hbl hbz (vp_in_lit (by decide) (by decide)) (by decide) eva dL_law_219 ?_
          have g134 := h134
          refine x_callV C cl_X10_told kmL_30 (ci := 9) (b := 134) (As := [.int (0 : Int32)]) (rest := [.int (0 : Int32)]) rfl g134 (p_X10_told_1 u g134) rfl rfl (Nat.le_of_ble_eq_true rfl) ⟨Nat.le_of_ble_eq_true rfl, Nat.le_of_ble_eq_true rfl⟩ ⟨Nat.le_of_ble_eq_true rfl, Nat.le_of_ble_eq_true rfl⟩ dL_law_220 ?_
          refine x_norm (st2 := [.int (0 : Int32), .int (0 : Int32)]) (kc2 := 157) (ks2 := 5325) rfl rfl rfl rfl rfl ?_
          refine x_icmp_eq_t C 767 dL_law_223 (by decide) rfl ?_
          exact kend _
      · have hl_va : 1 ≤ va.toInt := by omega
        rcases (by omega : va.toInt < 2 ∨ 2 ≤ va.toInt) with q | q
        · have hh_va : va.toInt ≤ 1 := by omega
          have eva : xs 1 = (1 : Int32) := eva.trans (by rw [i_eq_iff]; have e9 : (1 : Int32).toInt = 1 := (by decide); omega)
          refine x_aload_n C 2 dL_law_205 rfl rfl ?_
          refine x_aload_n C 3 dL_law_206 rfl rfl ?_
          refine x_iload_n C 0 dL_law_207 rfl rfl ?_
          refine x_iconst (v := (1 : Int32)) C dL_law_208 (by decide) ?_
          refine x_iadd C dL_law_209 ?_
          refine x_eqi (w := (1 : Int32)) (by decide) ?_
          refine x_sld (v := (1 : Int32)) C 1 hX hbl hbz (vp_in_lit (by decide) (by decide)) (by decide) eva dL_law_210 ?_
          refine x_callV C cl_X9_told kmL_27 (ci := 8) (b := 0) (As := [.int (1 : Int32)]) (rest := []) rfl h0 (p_X9_told_2 u h0 h112) rfl rfl (Nat.le_of_ble_eq_true rfl) ⟨Nat.le_of_ble_eq_true rfl, Nat.le_of_ble_eq_true rfl⟩ ⟨Nat.le_of_ble_eq_true rfl, Nat.le_of_ble_eq_true rfl⟩ dL_law_211 ?_
          refine x_norm (st2 := [.int (0 : Int32)]) (kc2 := 157) (ks2 := 5325) rfl rfl rfl rfl rfl ?_
          refine x_aload_n C 1 dL_law_214 rfl rfl ?_
          refine x_aload_n C 3 dL_law_215 rfl rfl ?_
          refine x_iload_n C 0 dL_law_216 rfl rfl ?_
          refine x_iconst (v := (1 : Int32)) C dL_law_217 (by decide) ?_
          refine x_iadd C dL_law_218 ?_
          refine x_eqi (w := (1 : Int32)) (by decide) ?_
          refine x_sld (v := (1 : Int32)) C 1 hX hbl hbz (vp_in_lit (by decide) (by decide)) (by decide) eva dL_law_219 ?_
          have g134 := h134
          refine x_callV C cl_X10_told kmL_30 (ci := 9) (b := 134) (As := [.int (1 : Int32)]) (rest := [.int (0 : Int32)]) rfl g134 (p_X10_told_2 u g134) rfl rfl (Nat.le_of_ble_eq_true rfl) ⟨Nat.le_of_ble_eq_true rfl, Nat.le_of_ble_eq_true rfl⟩ ⟨Nat.le_of_ble_eq_true rfl, Nat.le_of_ble_eq_true rfl⟩ dL_law_220 ?_
          refine x_norm (st2 := [.int (0 : Int32), .int (0 : Int32)]) (kc2 := 157) (ks2 := 5325) rfl rfl rfl rfl rfl ?_
          refine x_icmp_eq_t C 767 dL_law_223 (by decide) rfl ?_
          exact kend _
        · have hl_va : 2 ≤ va.toInt := by omega
          rcases (by omega : va.toInt < 3 ∨ 3 ≤ va.toInt) with q | q
          · have hh_va : va.toInt ≤ 2 := by omega
            have eva : xs 1 = (2 : Int32) := eva.trans (by rw [i_eq_iff]; have e9 : (2 : Int32).toInt = 2 := (by decide); omega)
            refine x_aload_n C 2 dL_law_205 rfl rfl ?_
            refine x_aload_n C 3 dL_law_206 rfl rfl ?_
            refine x_iload_n C 0 dL_law_207 rfl rfl ?_
            refine x_iconst (v := (1 : Int32)) C dL_law_208 (by decide) ?_
            refine x_iadd C dL_law_209 ?_
            refine x_eqi (w := (1 : Int32)) (by decide) ?_
            refine x_sld (v := (2 : Int32)) C 1 hX hbl hbz (vp_in_lit (by decide) (by decide)) (by decide) eva dL_law_210 ?_
            refine x_callV C cl_X9_told kmL_27 (ci := 8) (b := 0) (As := [.int (2 : Int32)]) (rest := []) rfl h0 (p_X9_told_3 u h0 h112) rfl rfl (Nat.le_of_ble_eq_true rfl) ⟨Nat.le_of_ble_eq_true rfl, Nat.le_of_ble_eq_true rfl⟩ ⟨Nat.le_of_ble_eq_true rfl, Nat.le_of_ble_eq_true rfl⟩ dL_law_211 ?_
            refine x_norm (st2 := [.int (0 : Int32)]) (kc2 := 157) (ks2 := 5325) rfl rfl rfl rfl rfl ?_
            refine x_aload_n C 1 dL_law_214 rfl rfl ?_
            refine x_aload_n C 3 dL_law_215 rfl rfl ?_
            refine x_iload_n C 0 dL_law_216 rfl rfl ?_
            refine x_iconst (v := (1 : Int32)) C dL_law_217 (by decide) ?_
            refine x_iadd C dL_law_218 ?_
            refine x_eqi (w := (1 : Int32)) (by decide) ?_
            refine x_sld (v := (2 : Int32)) C 1 hX hbl hbz (vp_in_lit (by decide) (by decide)) (by decide) eva dL_law_219 ?_
            have g134 := h134
            refine x_callV C cl_X10_told kmL_30 (ci := 9) (b := 134) (As := [.int (2 : Int32)]) (rest := [.int (0 : Int32)]) rfl g134 (p_X10_told_3 u g134) rfl rfl (Nat.le_of_ble_eq_true rfl) ⟨Nat.le_of_ble_eq_true rfl, Nat.le_of_ble_eq_true rfl⟩ ⟨Nat.le_of_ble_eq_true rfl, Nat.le_of_ble_eq_true rfl⟩ dL_law_220 ?_
            refine x_norm (st2 := [.int (0 : Int32), .int (0 : Int32)]) (kc2 := 157) (ks2 := 5325) rfl rfl rfl rfl rfl ?_
            refine x_icmp_eq_t C 767 dL_law_223 (by decide) rfl ?_
            exact kend _
          · have hl_va : 3 ≤ va.toInt := by omega
            have eva : xs 1 = (3 : Int32) := eva.trans (by rw [i_eq_iff]; have e9 : (3 : Int32).toInt = 3 := (by decide); omega)
            refine x_aload_n C 2 dL_law_205 rfl rfl ?_
            refine x_aload_n C 3 dL_law_206 rfl rfl ?_
            refine x_iload_n C 0 dL_law_207 rfl rfl ?_
            refine x_iconst (v := (1 : Int32)) C dL_law_208 (by decide) ?_
            refine x_iadd C dL_law_209 ?_
            refine x_eqi (w := (1 : Int32)) (by decide) ?_
            refine x_sld (v := (3 : Int32)) C 1 hX hbl hbz (vp_in_lit (by decide) (by decide)) (by decide) eva dL_law_210 ?_
            refine x_callV C cl_X9_told kmL_27 (ci := 8) (b := 0) (As := [.int (3 : Int32)]) (rest := []) rfl h0 (p_X9_told_4 u h0 h112) rfl rfl (Nat.le_of_ble_eq_true rfl) ⟨Nat.le_of_ble_eq_true rfl, Nat.le_of_ble_eq_true rfl⟩ ⟨Nat.le_of_ble_eq_true rfl, Nat.le_of_ble_eq_true rfl⟩ dL_law_211 ?_
            refine x_norm (st2 := [.int (0 : Int32)]) (kc2 := 157) (ks2 := 5325) rfl rfl rfl rfl rfl ?_
            refine x_aload_n C 1 dL_law_214 rfl rfl ?_
            refine x_aload_n C 3 dL_law_215 rfl rfl ?_
            refine x_iload_n C 0 dL_law_216 rfl rfl ?_
            refine x_iconst (v := (1 : Int32)) C dL_law_217 (by decide) ?_
            refine x_iadd C dL_law_218 ?_
            refine x_eqi (w := (1 : Int32)) (by decide) ?_
            refine x_sld (v := (3 : Int32)) C 1 hX hbl hbz (vp_in_lit (by decide) (by decide)) (by decide) eva dL_law_219 ?_
            have g134 := h134
            refine x_callV C cl_X10_told kmL_30 (ci := 9) (b := 134) (As := [.int (3 : Int32)]) (rest := [.int (0 : Int32)]) rfl g134 (p_X10_told_4 u g134) rfl rfl (Nat.le_of_ble_eq_true rfl) ⟨Nat.le_of_ble_eq_true rfl, Nat.le_of_ble_eq_true rfl⟩ ⟨Nat.le_of_ble_eq_true rfl, Nat.le_of_ble_eq_true rfl⟩ dL_law_220 ?_
            refine x_norm (st2 := [.int (0 : Int32), .int (0 : Int32)]) (kc2 := 157) (ks2 := 5325) rfl rfl rfl rfl rfl ?_
            refine x_icmp_eq_t C 767 dL_law_223 (by decide) rfl ?_
            exact kend _
    · have hl_va : 4 ≤ va.toInt := by omega
      rcases (by omega : va.toInt < 7 ∨ 7 ≤ va.toInt) with q | q
      · have hh_va : va.toInt ≤ 6 := by omega
        rcases (by omega : va.toInt < 5 ∨ 5 ≤ va.toInt) with q | q
        · have hh_va : va.toInt ≤ 4 := by omega
          have eva : xs 1 = (4 : Int32) := eva.trans (by rw [i_eq_iff]; have e9 : (4 : Int32).toInt = 4 := (by decide); omega)
          refine x_aload_n C 2 dL_law_205 rfl rfl ?_
          refine x_aload_n C 3 dL_law_206 rfl rfl ?_
          refine x_iload_n C 0 dL_law_207 rfl rfl ?_
          refine x_iconst (v := (1 : Int32)) C dL_law_208 (by decide) ?_
          refine x_iadd C dL_law_209 ?_
          refine x_eqi (w := (1 : Int32)) (by decide) ?_
          refine x_sld (v := (4 : Int32)) C 1 hX hbl hbz (vp_in_lit (by decide) (by decide)) (by decide) eva dL_law_210 ?_
          refine x_callV C cl_X9_told kmL_27 (ci := 8) (b := 0) (As := [.int (4 : Int32)]) (rest := []) rfl h0 (p_X9_told_5 u h0 h1) rfl rfl (Nat.le_of_ble_eq_true rfl) ⟨Nat.le_of_ble_eq_true rfl, Nat.le_of_ble_eq_true rfl⟩ ⟨Nat.le_of_ble_eq_true rfl, Nat.le_of_ble_eq_true rfl⟩ dL_law_211 ?_
          refine x_norm (st2 := [.int (0 : Int32)]) (kc2 := 157) (ks2 := 5325) rfl rfl rfl rfl rfl ?_
          refine x_aload_n C 1 dL_law_214 rfl rfl ?_
          refine x_aload_n C 3 dL_law_215 rfl rfl ?_
          refine x_iload_n C 0 dL_law_216 rfl rfl ?_
          refine x_iconst (v := (1 : Int32)) C dL_law_217 (by decide) ?_
          refine x_iadd C dL_law_218 ?_
          refine x_eqi (w := (1 : Int32)) (by decide) ?_
          refine x_sld (v := (4 : Int32)) C 1 hX hbl hbz (vp_in_lit (by decide) (by decide)) (by decide) eva dL_law_219 ?_
          have g134 := h134
          refine x_callV C cl_X10_told kmL_30 (ci := 9) (b := 134) (As := [.int (4 : Int32)]) (rest := [.int (0 : Int32)]) rfl g134 (p_X10_told_5 u g134) rfl rfl (Nat.le_of_ble_eq_true rfl) ⟨Nat.le_of_ble_eq_true rfl, Nat.le_of_ble_eq_true rfl⟩ ⟨Nat.le_of_ble_eq_true rfl, Nat.le_of_ble_eq_true rfl⟩ dL_law_220 ?_
          refine x_norm (st2 := [.int (0 : Int32), .int (0 : Int32)]) (kc2 := 157) (ks2 := 5325) rfl rfl rfl rfl rfl ?_
          refine x_icmp_eq_t C 767 dL_law_223 (by decide) rfl ?_
          exact kend _
        · have hl_va : 5 ≤ va.toInt := by omega
          rcases (by omega : va.toInt < 6 ∨ 6 ≤ va.toInt) with q | q
          · have hh_va : va.toInt ≤ 5 := by omega
            have eva : xs 1 = (5 : Int32) := eva.trans (by rw [i_eq_iff]; have e9 : (5 : Int32).toInt = 5 := (by decide); omega)
            refine x_aload_n C 2 dL_law_205 rfl rfl ?_
            refine x_aload_n C 3 dL_law_206 rfl rfl ?_
            refine x_iload_n C 0 dL_law_207 rfl rfl ?_
            refine x_iconst (v := (1 : Int32)) C dL_law_208 (by decide) ?_
            refine x_iadd C dL_law_209 ?_
            refine x_eqi (w := (1 : Int32)) (by decide) ?_
            refine x_sld (v := (5 : Int32)) C 1 hX hbl hbz (vp_in_lit (by decide) (by decide)) (by decide) eva dL_law_210 ?_
            refine x_callV C cl_X9_told kmL_27 (ci := 8) (b := 0) (As := [.int (5 : Int32)]) (rest := []) rfl h0 (p_X9_told_6 u h0 h3) rfl rfl (Nat.le_of_ble_eq_true rfl) ⟨Nat.le_of_ble_eq_true rfl, Nat.le_of_ble_eq_true rfl⟩ ⟨Nat.le_of_ble_eq_true rfl, Nat.le_of_ble_eq_true rfl⟩ dL_law_211 ?_
            refine x_norm (st2 := [.int (0 : Int32)]) (kc2 := 157) (ks2 := 5325) rfl rfl rfl rfl rfl ?_
            refine x_aload_n C 1 dL_law_214 rfl rfl ?_
            refine x_aload_n C 3 dL_law_215 rfl rfl ?_
            refine x_iload_n C 0 dL_law_216 rfl rfl ?_
            refine x_iconst (v := (1 : Int32)) C dL_law_217 (by decide) ?_
            refine x_iadd C dL_law_218 ?_
            refine x_eqi (w := (1 : Int32)) (by decide) ?_
            refine x_sld (v := (5 : Int32)) C 1 hX hbl hbz (vp_in_lit (by decide) (by decide)) (by decide) eva dL_law_219 ?_
            have g134 := h134
            have g146 := h146
            refine x_callV C cl_X10_told kmL_30 (ci := 9) (b := 134) (As := [.int (5 : Int32)]) (rest := [.int (0 : Int32)]) rfl g134 (p_X10_told_6 u g134 g146) rfl rfl (Nat.le_of_ble_eq_true rfl) ⟨Nat.le_of_ble_eq_true rfl, Nat.le_of_ble_eq_true rfl⟩ ⟨Nat.le_of_ble_eq_true rfl, Nat.le_of_ble_eq_true rfl⟩ dL_law_220 ?_
            refine x_norm (st2 := [.int (0 : Int32), .int (0 : Int32)]) (kc2 := 157) (ks2 := 5325) rfl rfl rfl rfl rfl ?_
            refine x_icmp_eq_t C 767 dL_law_223 (by decide) rfl ?_
            exact kend _
          · have hl_va : 6 ≤ va.toInt := by omega
            have eva : xs 1 = (6 : Int32) := eva.trans (by rw [i_eq_iff]; have e9 : (6 : Int32).toInt = 6 := (by decide); omega)
            refine x_aload_n C 2 dL_law_205 rfl rfl ?_
            refine x_aload_n C 3 dL_law_206 rfl rfl ?_
            refine x_iload_n C 0 dL_law_207 rfl rfl ?_
            refine x_iconst (v := (1 : Int32)) C dL_law_208 (by decide) ?_
            refine x_iadd C dL_law_209 ?_
            refine x_eqi (w := (1 : Int32)) (by decide) ?_
            refine x_sld (v := (6 : Int32)) C 1 hX hbl hbz (vp_in_lit (by decide) (by decide)) (by decide) eva dL_law_210 ?_
            refine x_callV C cl_X9_told kmL_27 (ci := 8) (b := 0) (As := [.int (6 : Int32)]) (rest := []) rfl h0 (p_X9_told_7 u h0 h3) rfl rfl (Nat.le_of_ble_eq_true rfl) ⟨Nat.le_of_ble_eq_true rfl, Nat.le_of_ble_eq_true rfl⟩ ⟨Nat.le_of_ble_eq_true rfl, Nat.le_of_ble_eq_true rfl⟩ dL_law_211 ?_
            refine x_norm (st2 := [.int (0 : Int32)]) (kc2 := 157) (ks2 := 5325) rfl rfl rfl rfl rfl ?_
            refine x_aload_n C 1 dL_law_214 rfl rfl ?_
            refine x_aload_n C 3 dL_law_215 rfl rfl ?_
            refine x_iload_n C 0 dL_law_216 rfl rfl ?_
            refine x_iconst (v := (1 : Int32)) C dL_law_217 (by decide) ?_
            refine x_iadd C dL_law_218 ?_
            refine x_eqi (w := (1 : Int32)) (by decide) ?_
            refine x_sld (v := (6 : Int32)) C 1 hX hbl hbz (vp_in_lit (by decide) (by decide)) (by decide) eva dL_law_219 ?_
            have g134 := h134
            have g146 := h146
            refine x_callV C cl_X10_told kmL_30 (ci := 9) (b := 134) (As := [.int (6 : Int32)]) (rest := [.int (0 : Int32)]) rfl g134 (p_X10_told_7 u g134 g146) rfl rfl (Nat.le_of_ble_eq_true rfl) ⟨Nat.le_of_ble_eq_true rfl, Nat.le_of_ble_eq_true rfl⟩ ⟨Nat.le_of_ble_eq_true rfl, Nat.le_of_ble_eq_true rfl⟩ dL_law_220 ?_
            refine x_norm (st2 := [.int (0 : Int32), .int (0 : Int32)]) (kc2 := 157) (ks2 := 5325) rfl rfl rfl rfl rfl ?_
            refine x_icmp_eq_t C 767 dL_law_223 (by decide) rfl ?_
            exact kend _
      · have hl_va : 7 ≤ va.toInt := by omega
        rcases (by omega : va.toInt < 8 ∨ 8 ≤ va.toInt) with q | q
        · have hh_va : va.toInt ≤ 7 := by omega
          have eva : xs 1 = (7 : Int32) := eva.trans (by rw [i_eq_iff]; have e9 : (7 : Int32).toInt = 7 := (by decide); omega)
          refine x_aload_n C 2 dL_law_205 rfl rfl ?_
          refine x_aload_n C 3 dL_law_206 rfl rfl ?_
          refine x_iload_n C 0 dL_law_207 rfl rfl ?_
          refine x_iconst (v := (1 : Int32)) C dL_law_208 (by decide) ?_
          refine x_iadd C dL_law_209 ?_
          refine x_eqi (w := (1 : Int32)) (by decide) ?_
          refine x_sld (v := (7 : Int32)) C 1 hX hbl hbz (vp_in_lit (by decide) (by decide)) (by decide) eva dL_law_210 ?_
          refine x_callV C cl_X9_told kmL_27 (ci := 8) (b := 0) (As := [.int (7 : Int32)]) (rest := []) rfl h0 (p_X9_told_8 u h0 h3) rfl rfl (Nat.le_of_ble_eq_true rfl) ⟨Nat.le_of_ble_eq_true rfl, Nat.le_of_ble_eq_true rfl⟩ ⟨Nat.le_of_ble_eq_true rfl, Nat.le_of_ble_eq_true rfl⟩ dL_law_211 ?_
          refine x_norm (st2 := [.int (0 : Int32)]) (kc2 := 157) (ks2 := 5325) rfl rfl rfl rfl rfl ?_
          refine x_aload_n C 1 dL_law_214 rfl rfl ?_
          refine x_aload_n C 3 dL_law_215 rfl rfl ?_
          refine x_iload_n C 0 dL_law_216 rfl rfl ?_
          refine x_iconst (v := (1 : Int32)) C dL_law_217 (by decide) ?_
          refine x_iadd C dL_law_218 ?_
          refine x_eqi (w := (1 : Int32)) (by decide) ?_
          refine x_sld (v := (7 : Int32)) C 1 hX hbl hbz (vp_in_lit (by decide) (by decide)) (by decide) eva dL_law_219 ?_
          have g134 := h134
          have g146 := h146
          refine x_callV C cl_X10_told kmL_30 (ci := 9) (b := 134) (As := [.int (7 : Int32)]) (rest := [.int (0 : Int32)]) rfl g134 (p_X10_told_8 u g134 g146) rfl rfl (Nat.le_of_ble_eq_true rfl) ⟨Nat.le_of_ble_eq_true rfl, Nat.le_of_ble_eq_true rfl⟩ ⟨Nat.le_of_ble_eq_true rfl, Nat.le_of_ble_eq_true rfl⟩ dL_law_220 ?_
          refine x_norm (st2 := [.int (0 : Int32), .int (0 : Int32)]) (kc2 := 157) (ks2 := 5325) rfl rfl rfl rfl rfl ?_
          refine x_icmp_eq_t C 767 dL_law_223 (by decide) rfl ?_
          exact kend _
        · have hl_va : 8 ≤ va.toInt := by omega
          rcases (by omega : va.toInt < 9 ∨ 9 ≤ va.toInt) with q | q
          · have hh_va : va.toInt ≤ 8 := by omega
            have eva : xs 1 = (8 : Int32) := eva.trans (by rw [i_eq_iff]; have e9 : (8 : Int32).toInt = 8 := (by decide); omega)
            refine x_aload_n C 2 dL_law_205 rfl rfl ?_
            refine x_aload_n C 3 dL_law_206 rfl rfl ?_
            refine x_iload_n C 0 dL_law_207 rfl rfl ?_
            refine x_iconst (v := (1 : Int32)) C dL_law_208 (by decide) ?_
            refine x_iadd C dL_law_209 ?_
            refine x_eqi (w := (1 : Int32)) (by decide) ?_
            refine x_sld (v := (8 : Int32)) C 1 hX hbl hbz (vp_in_lit (by decide) (by decide)) (by decide) eva dL_law_210 ?_
            refine x_callV C cl_X9_told kmL_27 (ci := 8) (b := 0) (As := [.int (8 : Int32)]) (rest := []) rfl h0 (p_X9_told_9 u h0 h3) rfl rfl (Nat.le_of_ble_eq_true rfl) ⟨Nat.le_of_ble_eq_true rfl, Nat.le_of_ble_eq_true rfl⟩ ⟨Nat.le_of_ble_eq_true rfl, Nat.le_of_ble_eq_true rfl⟩ dL_law_211 ?_
            refine x_norm (st2 := [.int (0 : Int32)]) (kc2 := 157) (ks2 := 5325) rfl rfl rfl rfl rfl ?_
            refine x_aload_n C 1 dL_law_214 rfl rfl ?_
            refine x_aload_n C 3 dL_law_215 rfl rfl ?_
            refine x_iload_n C 0 dL_law_216 rfl rfl ?_
            refine x_iconst (v := (1 : Int32)) C dL_law_217 (by decide) ?_
            refine x_iadd C dL_law_218 ?_
            refine x_eqi (w := (1 : Int32)) (by decide) ?_
            refine x_sld (v := (8 : Int32)) C 1 hX hbl hbz (vp_in_lit (by decide) (by decide)) (by decide) eva dL_law_219 ?_
            have g134 := h134
            have g146 := h146
            refine x_callV C cl_X10_told kmL_30 (ci := 9) (b := 134) (As := [.int (8 : Int32)]) (rest := [.int (0 : Int32)]) rfl g134 (p_X10_told_9 u g134 g146) rfl rfl (Nat.le_of_ble_eq_true rfl) ⟨Nat.le_of_ble_eq_true rfl, Nat.le_of_ble_eq_true rfl⟩ ⟨Nat.le_of_ble_eq_true rfl, Nat.le_of_ble_eq_true rfl⟩ dL_law_220 ?_
            refine x_norm (st2 := [.int (0 : Int32), .int (0 : Int32)]) (kc2 := 157) (ks2 := 5325) rfl rfl rfl rfl rfl ?_
            refine x_icmp_eq_t C 767 dL_law_223 (by decide) rfl ?_
            exact kend _
          · have hl_va : 9 ≤ va.toInt := by omega
            have eva : xs 1 = (9 : Int32) := eva.trans (by rw [i_eq_iff]; have e9 : (9 : Int32).toInt = 9 := (by decide); omega)
            refine x_aload_n C 2 dL_law_205 rfl rfl ?_
            refine x_aload_n C 3 dL_law_206 rfl rfl ?_
            refine x_iload_n C 0 dL_law_207 rfl rfl ?_
            refine x_iconst (v := (1 : Int32)) C dL_law_208 (by decide) ?_
            refine x_iadd C dL_law_209 ?_
            refine x_eqi (w := (1 : Int32)) (by decide) ?_
            refine x_sld (v := (9 : Int32)) C 1 hX hbl hbz (vp_in_lit (by decide) (by decide)) (by decide) eva dL_law_210 ?_
            refine x_callV C cl_X9_told kmL_27 (ci := 8) (b := 0) (As := [.int (9 : Int32)]) (rest := []) rfl h0 (p_X9_told_10 u h0 h3) rfl rfl (Nat.le_of_ble_eq_true rfl) ⟨Nat.le_of_ble_eq_true rfl, Nat.le_of_ble_eq_true rfl⟩ ⟨Nat.le_of_ble_eq_true rfl, Nat.le_of_ble_eq_true rfl⟩ dL_law_211 ?_
            refine x_norm (st2 := [.int (-1 : Int32)]) (kc2 := 157) (ks2 := 5325) rfl rfl rfl rfl rfl ?_
            refine x_aload_n C 1 dL_law_214 rfl rfl ?_
            refine x_aload_n C 3 dL_law_215 rfl rfl ?_
            refine x_iload_n C 0 dL_law_216 rfl rfl ?_
            refine x_iconst (v := (1 : Int32)) C dL_law_217 (by decide) ?_
            refine x_iadd C dL_law_218 ?_
            refine x_eqi (w := (1 : Int32)) (by decide) ?_
            refine x_sld (v := (9 : Int32)) C 1 hX hbl hbz (vp_in_lit (by decide) (by decide)) (by decide) eva dL_law_219 ?_
            have g134 := h134
            have g146 := h146
            refine x_callV C cl_X10_told kmL_30 (ci := 9) (b := 134) (As := [.int (9 : Int32)]) (rest := [.int (-1 : Int32)]) rfl g134 (p_X10_told_10 u g134 g146) rfl rfl (Nat.le_of_ble_eq_true rfl) ⟨Nat.le_of_ble_eq_true rfl, Nat.le_of_ble_eq_true rfl⟩ ⟨Nat.le_of_ble_eq_true rfl, Nat.le_of_ble_eq_true rfl⟩ dL_law_220 ?_
            refine x_norm (st2 := [.int (-1 : Int32), .int (-1 : Int32)]) (kc2 := 157) (ks2 := 5325) rfl rfl rfl rfl rfl ?_
            refine x_icmp_eq_t C 767 dL_law_223 (by decide) rfl ?_
            exact kend _
  · have hl_va : 10 ≤ va.toInt := by omega
    rcases (by omega : va.toInt < 16 ∨ 16 ≤ va.toInt) with q | q
    · have hh_va : va.toInt ≤ 15 := by omega
      rcases (by omega : va.toInt < 13 ∨ 13 ≤ va.toInt) with q | q
      · have hh_va : va.toInt ≤ 12 := by omega
        rcases (by omega : va.toInt < 11 ∨ 11 ≤ va.toInt) with q | q
        · have hh_va : va.toInt ≤ 10 := by omega
          have eva : xs 1 = (10 : Int32) := eva.trans (by rw [i_eq_iff]; have e9 : (10 : Int32).toInt = 10 := (by decide); omega)
          refine x_aload_n C 2 dL_law_205 rfl rfl ?_
          refine x_aload_n C 3 dL_law_206 rfl rfl ?_
          refine x_iload_n C 0 dL_law_207 rfl rfl ?_
          refine x_iconst (v := (1 : Int32)) C dL_law_208 (by decide) ?_
          refine x_iadd C dL_law_209 ?_
          refine x_eqi (w := (1 : Int32)) (by decide) ?_
          refine x_sld (v := (10 : Int32)) C 1 hX hbl hbz (vp_in_lit (by decide) (by decide)) (by decide) eva dL_law_210 ?_
          refine x_callV C cl_X9_told kmL_27 (ci := 8) (b := 0) (As := [.int (10 : Int32)]) (rest := []) rfl h0 (p_X9_told_11 u h0 h3) rfl rfl (Nat.le_of_ble_eq_true rfl) ⟨Nat.le_of_ble_eq_true rfl, Nat.le_of_ble_eq_true rfl⟩ ⟨Nat.le_of_ble_eq_true rfl, Nat.le_of_ble_eq_true rfl⟩ dL_law_211 ?_
          refine x_norm (st2 := [.int (0 : Int32)]) (kc2 := 157) (ks2 := 5325) rfl rfl rfl rfl rfl ?_
          refine x_aload_n C 1 dL_law_214 rfl rfl ?_
          refine x_aload_n C 3 dL_law_215 rfl rfl ?_
          refine x_iload_n C 0 dL_law_216 rfl rfl ?_
          refine x_iconst (v := (1 : Int32)) C dL_law_217 (by decide) ?_
          refine x_iadd C dL_law_218 ?_
          refine x_eqi (w := (1 : Int32)) (by decide) ?_
          refine x_sld (v := (10 : Int32)) C 1 hX hbl hbz (vp_in_lit (by decide) (by decide)) (by decide) eva dL_law_219 ?_
          have g134 := h134
          have g146 := h146
          refine x_callV C cl_X10_told kmL_30 (ci := 9) (b := 134) (As := [.int (10 : Int32)]) (rest := [.int (0 : Int32)]) rfl g134 (p_X10_told_11 u g134 g146) rfl rfl (Nat.le_of_ble_eq_true rfl) ⟨Nat.le_of_ble_eq_true rfl, Nat.le_of_ble_eq_true rfl⟩ ⟨Nat.le_of_ble_eq_true rfl, Nat.le_of_ble_eq_true rfl⟩ dL_law_220 ?_
          refine x_norm (st2 := [.int (0 : Int32), .int (0 : Int32)]) (kc2 := 157) (ks2 := 5325) rfl rfl rfl rfl rfl ?_
          refine x_icmp_eq_t C 767 dL_law_223 (by decide) rfl ?_
          exact kend _
        · have hl_va : 11 ≤ va.toInt := by omega
          rcases (by omega : va.toInt < 12 ∨ 12 ≤ va.toInt) with q | q
          · have hh_va : va.toInt ≤ 11 := by omega
            have eva : xs 1 = (11 : Int32) := eva.trans (by rw [i_eq_iff]; have e9 : (11 : Int32).toInt = 11 := (by decide); omega)
            refine x_aload_n C 2 dL_law_205 rfl rfl ?_
            refine x_aload_n C 3 dL_law_206 rfl rfl ?_
            refine x_iload_n C 0 dL_law_207 rfl rfl ?_
            refine x_iconst (v := (1 : Int32)) C dL_law_208 (by decide) ?_
            refine x_iadd C dL_law_209 ?_
            refine x_eqi (w := (1 : Int32)) (by decide) ?_
            refine x_sld (v := (11 : Int32)) C 1 hX hbl hbz (vp_in_lit (by decide) (by decide)) (by decide) eva dL_law_210 ?_
            refine x_callV C cl_X9_told kmL_27 (ci := 8) (b := 0) (As := [.int (11 : Int32)]) (rest := []) rfl h0 (p_X9_told_12 u h0 h3) rfl rfl (Nat.le_of_ble_eq_true rfl) ⟨Nat.le_of_ble_eq_true rfl, Nat.le_of_ble_eq_true rfl⟩ ⟨Nat.le_of_ble_eq_true rfl, Nat.le_of_ble_eq_true rfl⟩ dL_law_211 ?_
            refine x_norm (st2 := [.int (-1 : Int32)]) (kc2 := 157) (ks2 := 5325) rfl rfl rfl rfl rfl ?_
            refine x_aload_n C 1 dL_law_214 rfl rfl ?_
            refine x_aload_n C 3 dL_law_215 rfl rfl ?_
            refine x_iload_n C 0 dL_law_216 rfl rfl ?_
            refine x_iconst (v := (1 : Int32)) C dL_law_217 (by decide) ?_
            refine x_iadd C dL_law_218 ?_
            refine x_eqi (w := (1 : Int32)) (by decide) ?_
            refine x_sld (v := (11 : Int32)) C 1 hX hbl hbz (vp_in_lit (by decide) (by decide)) (by decide) eva dL_law_219 ?_
            have g134 := h134
            have g146 := h146
            refine x_callV C cl_X10_told kmL_30 (ci := 9) (b := 134) (As := [.int (11 : Int32)]) (rest := [.int (-1 : Int32)]) rfl g134 (p_X10_told_12 u g134 g146) rfl rfl (Nat.le_of_ble_eq_true rfl) ⟨Nat.le_of_ble_eq_true rfl, Nat.le_of_ble_eq_true rfl⟩ ⟨Nat.le_of_ble_eq_true rfl, Nat.le_of_ble_eq_true rfl⟩ dL_law_220 ?_
            refine x_norm (st2 := [.int (-1 : Int32), .int (-1 : Int32)]) (kc2 := 157) (ks2 := 5325) rfl rfl rfl rfl rfl ?_
            refine x_icmp_eq_t C 767 dL_law_223 (by decide) rfl ?_
            exact kend _
          · have hl_va : 12 ≤ va.toInt := by omega
            have eva : xs 1 = (12 : Int32) := eva.trans (by rw [i_eq_iff]; have e9 : (12 : Int32).toInt = 12 := (by decide); omega)
            refine x_aload_n C 2 dL_law_205 rfl rfl ?_
            refine x_aload_n C 3 dL_law_206 rfl rfl ?_
            refine x_iload_n C 0 dL_law_207 rfl rfl ?_
            refine x_iconst (v := (1 : Int32)) C dL_law_208 (by decide) ?_
            refine x_iadd C dL_law_209 ?_
            refine x_eqi (w := (1 : Int32)) (by decide) ?_
            refine x_sld (v := (12 : Int32)) C 1 hX hbl hbz (vp_in_lit (by decide) (by decide)) (by decide) eva dL_law_210 ?_
            refine x_callV C cl_X9_told kmL_27 (ci := 8) (b := 0) (As := [.int (12 : Int32)]) (rest := []) rfl h0 (p_X9_told_13 u h0 h3) rfl rfl (Nat.le_of_ble_eq_true rfl) ⟨Nat.le_of_ble_eq_true rfl, Nat.le_of_ble_eq_true rfl⟩ ⟨Nat.le_of_ble_eq_true rfl, Nat.le_of_ble_eq_true rfl⟩ dL_law_211 ?_
            refine x_norm (st2 := [.int (0 : Int32)]) (kc2 := 157) (ks2 := 5325) rfl rfl rfl rfl rfl ?_
            refine x_aload_n C 1 dL_law_214 rfl rfl ?_
            refine x_aload_n C 3 dL_law_215 rfl rfl ?_
            refine x_iload_n C 0 dL_law_216 rfl rfl ?_
            refine x_iconst (v := (1 : Int32)) C dL_law_217 (by decide) ?_
            refine x_iadd C dL_law_218 ?_
            refine x_eqi (w := (1 : Int32)) (by decide) ?_
            refine x_sld (v := (12 : Int32)) C 1 hX hbl hbz (vp_in_lit (by decide) (by decide)) (by decide) eva dL_law_219 ?_
            have g134 := h134
            refine x_callV C cl_X10_told kmL_30 (ci := 9) (b := 134) (As := [.int (12 : Int32)]) (rest := [.int (0 : Int32)]) rfl g134 (p_X10_told_13 u g134) rfl rfl (Nat.le_of_ble_eq_true rfl) ⟨Nat.le_of_ble_eq_true rfl, Nat.le_of_ble_eq_true rfl⟩ ⟨Nat.le_of_ble_eq_true rfl, Nat.le_of_ble_eq_true rfl⟩ dL_law_220 ?_
            refine x_norm (st2 := [.int (0 : Int32), .int (0 : Int32)]) (kc2 := 157) (ks2 := 5325) rfl rfl rfl rfl rfl ?_
            refine x_icmp_eq_t C 767 dL_law_223 (by decide) rfl ?_
            exact kend _
      · have hl_va : 13 ≤ va.toInt := by omega
        rcases (by omega : va.toInt < 14 ∨ 14 ≤ va.toInt) with q | q
        · have hh_va : va.toInt ≤ 13 := by omega
          have eva : xs 1 = (13 : Int32) := eva.trans (by rw [i_eq_iff]; have e9 : (13 : Int32).toInt = 13 := (by decide); omega)
          refine x_aload_n C 2 dL_law_205 rfl rfl ?_
          refine x_aload_n C 3 dL_law_206 rfl rfl ?_
          refine x_iload_n C 0 dL_law_207 rfl rfl ?_
          refine x_iconst (v := (1 : Int32)) C dL_law_208 (by decide) ?_
          refine x_iadd C dL_law_209 ?_
          refine x_eqi (w := (1 : Int32)) (by decide) ?_
          refine x_sld (v := (13 : Int32)) C 1 hX hbl hbz (vp_in_lit (by decide) (by decide)) (by decide) eva dL_law_210 ?_
          refine x_callV C cl_X9_told kmL_27 (ci := 8) (b := 0) (As := [.int (13 : Int32)]) (rest := []) rfl h0 (p_X9_told_14 u h0 h3) rfl rfl (Nat.le_of_ble_eq_true rfl) ⟨Nat.le_of_ble_eq_true rfl, Nat.le_of_ble_eq_true rfl⟩ ⟨Nat.le_of_ble_eq_true rfl, Nat.le_of_ble_eq_true rfl⟩ dL_law_211 ?_
          refine x_norm (st2 := [.int (0 : Int32)]) (kc2 := 157) (ks2 := 5325) rfl rfl rfl rfl rfl ?_
          refine x_aload_n C 1 dL_law_214 rfl rfl ?_
          refine x_aload_n C 3 dL_law_215 rfl rfl ?_
          refine x_iload_n C 0 dL_law_216 rfl rfl ?_
          refine x_iconst (v := (1 : Int32)) C dL_law_217 (by decide) ?_
          refine x_iadd C dL_law_218 ?_
          refine x_eqi (w := (1 : Int32)) (by decide) ?_
          refine x_sld (v := (13 : Int32)) C 1 hX hbl hbz (vp_in_lit (by decide) (by decide)) (by decide) eva dL_law_219 ?_
          have g134 := h134
          refine x_callV C cl_X10_told kmL_30 (ci := 9) (b := 134) (As := [.int (13 : Int32)]) (rest := [.int (0 : Int32)]) rfl g134 (p_X10_told_14 u g134) rfl rfl (Nat.le_of_ble_eq_true rfl) ⟨Nat.le_of_ble_eq_true rfl, Nat.le_of_ble_eq_true rfl⟩ ⟨Nat.le_of_ble_eq_true rfl, Nat.le_of_ble_eq_true rfl⟩ dL_law_220 ?_
          refine x_norm (st2 := [.int (0 : Int32), .int (0 : Int32)]) (kc2 := 157) (ks2 := 5325) rfl rfl rfl rfl rfl ?_
          refine x_icmp_eq_t C 767 dL_law_223 (by decide) rfl ?_
          exact kend _
        · have hl_va : 14 ≤ va.toInt := by omega
          rcases (by omega : va.toInt < 15 ∨ 15 ≤ va.toInt) with q | q
          · have hh_va : va.toInt ≤ 14 := by omega
            have eva : xs 1 = (14 : Int32) := eva.trans (by rw [i_eq_iff]; have e9 : (14 : Int32).toInt = 14 := (by decide); omega)
            refine x_aload_n C 2 dL_law_205 rfl rfl ?_
            refine x_aload_n C 3 dL_law_206 rfl rfl ?_
            refine x_iload_n C 0 dL_law_207 rfl rfl ?_
            refine x_iconst (v := (1 : Int32)) C dL_law_208 (by decide) ?_
            refine x_iadd C dL_law_209 ?_
            refine x_eqi (w := (1 : Int32)) (by decide) ?_
            refine x_sld (v := (14 : Int32)) C 1 hX hbl hbz (vp_in_lit (by decide) (by decide)) (by decide) eva dL_law_210 ?_
            refine x_callV C cl_X9_told kmL_27 (ci := 8) (b := 0) (As := [.int (14 : Int32)]) (rest := []) rfl h0 (p_X9_told_15 u h0 h3) rfl rfl (Nat.le_of_ble_eq_true rfl) ⟨Nat.le_of_ble_eq_true rfl, Nat.le_of_ble_eq_true rfl⟩ ⟨Nat.le_of_ble_eq_true rfl, Nat.le_of_ble_eq_true rfl⟩ dL_law_211 ?_
            refine x_norm (st2 := [.int (0 : Int32)]) (kc2 := 157) (ks2 := 5325) rfl rfl rfl rfl rfl ?_
            refine x_aload_n C 1 dL_law_214 rfl rfl ?_
            refine x_aload_n C 3 dL_law_215 rfl rfl ?_
            refine x_iload_n C 0 dL_law_216 rfl rfl ?_
            refine x_iconst (v := (1 : Int32)) C dL_law_217 (by decide) ?_
            refine x_iadd C dL_law_218 ?_
            refine x_eqi (w := (1 : Int32)) (by decide) ?_
            refine x_sld (v := (14 : Int32)) C 1 hX hbl hbz (vp_in_lit (by decide) (by decide)) (by decide) eva dL_law_219 ?_
            have g134 := h134
            refine x_callV C cl_X10_told kmL_30 (ci := 9) (b := 134) (As := [.int (14 : Int32)]) (rest := [.int (0 : Int32)]) rfl g134 (p_X10_told_15 u g134) rfl rfl (Nat.le_of_ble_eq_true rfl) ⟨Nat.le_of_ble_eq_true rfl, Nat.le_of_ble_eq_true rfl⟩ ⟨Nat.le_of_ble_eq_true rfl, Nat.le_of_ble_eq_true rfl⟩ dL_law_220 ?_
            refine x_norm (st2 := [.int (0 : Int32), .int (0 : Int32)]) (kc2 := 157) (ks2 := 5325) rfl rfl rfl rfl rfl ?_
            refine x_icmp_eq_t C 767 dL_law_223 (by decide) rfl ?_
            exact kend _
          · have hl_va : 15 ≤ va.toInt := by omega
            have eva : xs 1 = (15 : Int32) := eva.trans (by rw [i_eq_iff]; have e9 : (15 : Int32).toInt = 15 := (by decide); omega)
            refine x_aload_n C 2 dL_law_205 rfl rfl ?_
            refine x_aload_n C 3 dL_law_206 rfl rfl ?_
            refine x_iload_n C 0 dL_law_207 rfl rfl ?_
            refine x_iconst (v := (1 : Int32)) C dL_law_208 (by decide) ?_
            refine x_iadd C dL_law_209 ?_
            refine x_eqi (w := (1 : Int32)) (by decide) ?_
            refine x_sld (v := (15 : Int32)) C 1 hX hbl hbz (vp_in_lit (by decide) (by decide)) (by decide) eva dL_law_210 ?_
            refine x_callV C cl_X9_told kmL_27 (ci := 8) (b := 0) (As := [.int (15 : Int32)]) (rest := []) rfl h0 (p_X9_told_16 u h0 h112) rfl rfl (Nat.le_of_ble_eq_true rfl) ⟨Nat.le_of_ble_eq_true rfl, Nat.le_of_ble_eq_true rfl⟩ ⟨Nat.le_of_ble_eq_true rfl, Nat.le_of_ble_eq_true rfl⟩ dL_law_211 ?_
            refine x_norm (st2 := [.int (0 : Int32)]) (kc2 := 157) (ks2 := 5325) rfl rfl rfl rfl rfl ?_
            refine x_aload_n C 1 dL_law_214 rfl rfl ?_
            refine x_aload_n C 3 dL_law_215 rfl rfl ?_
            refine x_iload_n C 0 dL_law_216 rfl rfl ?_
            refine x_iconst (v := (1 : Int32)) C dL_law_217 (by decide) ?_
            refine x_iadd C dL_law_218 ?_
            refine x_eqi (w := (1 : Int32)) (by decide) ?_
            refine x_sld (v := (15 : Int32)) C 1 hX hbl hbz (vp_in_lit (by decide) (by decide)) (by decide) eva dL_law_219 ?_
            have g134 := h134
            refine x_callV C cl_X10_told kmL_30 (ci := 9) (b := 134) (As := [.int (15 : Int32)]) (rest := [.int (0 : Int32)]) rfl g134 (p_X10_told_16 u g134) rfl rfl (Nat.le_of_ble_eq_true rfl) ⟨Nat.le_of_ble_eq_true rfl, Nat.le_of_ble_eq_true rfl⟩ ⟨Nat.le_of_ble_eq_true rfl, Nat.le_of_ble_eq_true rfl⟩ dL_law_220 ?_
            refine x_norm (st2 := [.int (0 : Int32), .int (0 : Int32)]) (kc2 := 157) (ks2 := 5325) rfl rfl rfl rfl rfl ?_
            refine x_icmp_eq_t C 767 dL_law_223 (by decide) rfl ?_
            exact kend _
    · have hl_va : 16 ≤ va.toInt := by omega
      rcases (by omega : va.toInt < 19 ∨ 19 ≤ va.toInt) with q | q
      · have hh_va : va.toInt ≤ 18 := by omega
        rcases (by omega : va.toInt < 17 ∨ 17 ≤ va.toInt) with q | q
        · have hh_va : va.toInt ≤ 16 := by omega
          have eva : xs 1 = (16 : Int32) := eva.trans (by rw [i_eq_iff]; have e9 : (16 : Int32).toInt = 16 := (by decide); omega)
          refine x_aload_n C 2 dL_law_205 rfl rfl ?_
          refine x_aload_n C 3 dL_law_206 rfl rfl ?_
          refine x_iload_n C 0 dL_law_207 rfl rfl ?_
          refine x_iconst (v := (1 : Int32)) C dL_law_208 (by decide) ?_
          refine x_iadd C dL_law_209 ?_
          refine x_eqi (w := (1 : Int32)) (by decide) ?_
          refine x_sld (v := (16 : Int32)) C 1 hX hbl hbz (vp_in_lit (by decide) (by decide)) (by decide) eva dL_law_210 ?_
          refine x_callV C cl_X9_told kmL_27 (ci := 8) (b := 0) (As := [.int (16 : Int32)]) (rest := []) rfl h0 (p_X9_told_17 u h0 h3 h112) rfl rfl (Nat.le_of_ble_eq_true rfl) ⟨Nat.le_of_ble_eq_true rfl, Nat.le_of_ble_eq_true rfl⟩ ⟨Nat.le_of_ble_eq_true rfl, Nat.le_of_ble_eq_true rfl⟩ dL_law_211 ?_
          refine x_norm (st2 := [.int (-1 : Int32)]) (kc2 := 157) (ks2 := 5325) rfl rfl rfl rfl rfl ?_
          refine x_aload_n C 1 dL_law_214 rfl rfl ?_
          refine x_aload_n C 3 dL_law_215 rfl rfl ?_
          refine x_iload_n C 0 dL_law_216 rfl rfl ?_
          refine x_iconst (v := (1 : Int32)) C dL_law_217 (by decide) ?_
          refine x_iadd C dL_law_218 ?_
          refine x_eqi (w := (1 : Int32)) (by decide) ?_
          refine x_sld (v := (16 : Int32)) C 1 hX hbl hbz (vp_in_lit (by decide) (by decide)) (by decide) eva dL_law_219 ?_
          have g134 := h134
          refine x_callV C cl_X10_told kmL_30 (ci := 9) (b := 134) (As := [.int (16 : Int32)]) (rest := [.int (-1 : Int32)]) rfl g134 (p_X10_told_17 u g134) rfl rfl (Nat.le_of_ble_eq_true rfl) ⟨Nat.le_of_ble_eq_true rfl, Nat.le_of_ble_eq_true rfl⟩ ⟨Nat.le_of_ble_eq_true rfl, Nat.le_of_ble_eq_true rfl⟩ dL_law_220 ?_
          refine x_norm (st2 := [.int (-1 : Int32), .int (-1 : Int32)]) (kc2 := 157) (ks2 := 5325) rfl rfl rfl rfl rfl ?_
          refine x_icmp_eq_t C 767 dL_law_223 (by decide) rfl ?_
          exact kend _
        · have hl_va : 17 ≤ va.toInt := by omega
          rcases (by omega : va.toInt < 18 ∨ 18 ≤ va.toInt) with q | q
          · have hh_va : va.toInt ≤ 17 := by omega
            have eva : xs 1 = (17 : Int32) := eva.trans (by rw [i_eq_iff]; have e9 : (17 : Int32).toInt = 17 := (by decide); omega)
            refine x_aload_n C 2 dL_law_205 rfl rfl ?_
            refine x_aload_n C 3 dL_law_206 rfl rfl ?_
            refine x_iload_n C 0 dL_law_207 rfl rfl ?_
            refine x_iconst (v := (1 : Int32)) C dL_law_208 (by decide) ?_
            refine x_iadd C dL_law_209 ?_
            refine x_eqi (w := (1 : Int32)) (by decide) ?_
            refine x_sld (v := (17 : Int32)) C 1 hX hbl hbz (vp_in_lit (by decide) (by decide)) (by decide) eva dL_law_210 ?_
            refine x_callV C cl_X9_told kmL_27 (ci := 8) (b := 0) (As := [.int (17 : Int32)]) (rest := []) rfl h0 (p_X9_told_18 u h0 h3 h99 h112) rfl rfl (Nat.le_of_ble_eq_true rfl) ⟨Nat.le_of_ble_eq_true rfl, Nat.le_of_ble_eq_true rfl⟩ ⟨Nat.le_of_ble_eq_true rfl, Nat.le_of_ble_eq_true rfl⟩ dL_law_211 ?_
            refine x_norm (st2 := [.int (-1 : Int32)]) (kc2 := 157) (ks2 := 5325) rfl rfl rfl rfl rfl ?_
            refine x_aload_n C 1 dL_law_214 rfl rfl ?_
            refine x_aload_n C 3 dL_law_215 rfl rfl ?_
            refine x_iload_n C 0 dL_law_216 rfl rfl ?_
            refine x_iconst (v := (1 : Int32)) C dL_law_217 (by decide) ?_
            refine x_iadd C dL_law_218 ?_
            refine x_eqi (w := (1 : Int32)) (by decide) ?_
            refine x_sld (v := (17 : Int32)) C 1 hX hbl hbz (vp_in_lit (by decide) (by decide)) (by decide) eva dL_law_219 ?_
            have g134 := h134
            refine x_callV C cl_X10_told kmL_30 (ci := 9) (b := 134) (As := [.int (17 : Int32)]) (rest := [.int (-1 : Int32)]) rfl g134 (p_X10_told_18 u g134) rfl rfl (Nat.le_of_ble_eq_true rfl) ⟨Nat.le_of_ble_eq_true rfl, Nat.le_of_ble_eq_true rfl⟩ ⟨Nat.le_of_ble_eq_true rfl, Nat.le_of_ble_eq_true rfl⟩ dL_law_220 ?_
            refine x_norm (st2 := [.int (-1 : Int32), .int (-1 : Int32)]) (kc2 := 157) (ks2 := 5325) rfl rfl rfl rfl rfl ?_
            refine x_icmp_eq_t C 767 dL_law_223 (by decide) rfl ?_
            exact kend _
          · have hl_va : 18 ≤ va.toInt := by omega
            have eva : xs 1 = (18 : Int32) := eva.trans (by rw [i_eq_iff]; have e9 : (18 : Int32).toInt = 18 := (by decide); omega)
            refine x_aload_n C 2 dL_law_205 rfl rfl ?_
            refine x_aload_n C 3 dL_law_206 rfl rfl ?_
            refine x_iload_n C 0 dL_law_207 rfl rfl ?_
            refine x_iconst (v := (1 : Int32)) C dL_law_208 (by decide) ?_
            refine x_iadd C dL_law_209 ?_
            refine x_eqi (w := (1 : Int32)) (by decide) ?_
            refine x_sld (v := (18 : Int32)) C 1 hX hbl hbz (vp_in_lit (by decide) (by decide)) (by decide) eva dL_law_210 ?_
            refine x_callV C cl_X9_told kmL_27 (ci := 8) (b := 0) (As := [.int (18 : Int32)]) (rest := []) rfl h0 (p_X9_told_19 u h0 h106) rfl rfl (Nat.le_of_ble_eq_true rfl) ⟨Nat.le_of_ble_eq_true rfl, Nat.le_of_ble_eq_true rfl⟩ ⟨Nat.le_of_ble_eq_true rfl, Nat.le_of_ble_eq_true rfl⟩ dL_law_211 ?_
            refine x_norm (st2 := [.int (0 : Int32)]) (kc2 := 157) (ks2 := 5325) rfl rfl rfl rfl rfl ?_
            refine x_aload_n C 1 dL_law_214 rfl rfl ?_
            refine x_aload_n C 3 dL_law_215 rfl rfl ?_
            refine x_iload_n C 0 dL_law_216 rfl rfl ?_
            refine x_iconst (v := (1 : Int32)) C dL_law_217 (by decide) ?_
            refine x_iadd C dL_law_218 ?_
            refine x_eqi (w := (1 : Int32)) (by decide) ?_
            refine x_sld (v := (18 : Int32)) C 1 hX hbl hbz (vp_in_lit (by decide) (by decide)) (by decide) eva dL_law_219 ?_
            have g134 := h134
            refine x_callV C cl_X10_told kmL_30 (ci := 9) (b := 134) (As := [.int (18 : Int32)]) (rest := [.int (0 : Int32)]) rfl g134 (p_X10_told_19 u g134) rfl rfl (Nat.le_of_ble_eq_true rfl) ⟨Nat.le_of_ble_eq_true rfl, Nat.le_of_ble_eq_true rfl⟩ ⟨Nat.le_of_ble_eq_true rfl, Nat.le_of_ble_eq_true rfl⟩ dL_law_220 ?_
            refine x_norm (st2 := [.int (0 : Int32), .int (0 : Int32)]) (kc2 := 157) (ks2 := 5325) rfl rfl rfl rfl rfl ?_
            refine x_icmp_eq_t C 767 dL_law_223 (by decide) rfl ?_
            exact kend _
      · have hl_va : 19 ≤ va.toInt := by omega
        rcases (by omega : va.toInt < 20 ∨ 20 ≤ va.toInt) with q | q
        · have hh_va : va.toInt ≤ 19 := by omega
          have eva : xs 1 = (19 : Int32) := eva.trans (by rw [i_eq_iff]; have e9 : (19 : Int32).toInt = 19 := (by decide); omega)
          refine x_aload_n C 2 dL_law_205 rfl rfl ?_
          refine x_aload_n C 3 dL_law_206 rfl rfl ?_
          refine x_iload_n C 0 dL_law_207 rfl rfl ?_
          refine x_iconst (v := (1 : Int32)) C dL_law_208 (by decide) ?_
          refine x_iadd C dL_law_209 ?_
          refine x_eqi (w := (1 : Int32)) (by decide) ?_
          refine x_sld (v := (19 : Int32)) C 1 hX hbl hbz (vp_in_lit (by decide) (by decide)) (by decide) eva dL_law_210 ?_
          refine x_callV C cl_X9_told kmL_27 (ci := 8) (b := 0) (As := [.int (19 : Int32)]) (rest := []) rfl h0 (p_X9_told_20 u h0 h109) rfl rfl (Nat.le_of_ble_eq_true rfl) ⟨Nat.le_of_ble_eq_true rfl, Nat.le_of_ble_eq_true rfl⟩ ⟨Nat.le_of_ble_eq_true rfl, Nat.le_of_ble_eq_true rfl⟩ dL_law_211 ?_
          refine x_norm (st2 := [.int (0 : Int32)]) (kc2 := 157) (ks2 := 5325) rfl rfl rfl rfl rfl ?_
          refine x_aload_n C 1 dL_law_214 rfl rfl ?_
          refine x_aload_n C 3 dL_law_215 rfl rfl ?_
          refine x_iload_n C 0 dL_law_216 rfl rfl ?_
          refine x_iconst (v := (1 : Int32)) C dL_law_217 (by decide) ?_
          refine x_iadd C dL_law_218 ?_
          refine x_eqi (w := (1 : Int32)) (by decide) ?_
          refine x_sld (v := (19 : Int32)) C 1 hX hbl hbz (vp_in_lit (by decide) (by decide)) (by decide) eva dL_law_219 ?_
          have g134 := h134
          refine x_callV C cl_X10_told kmL_30 (ci := 9) (b := 134) (As := [.int (19 : Int32)]) (rest := [.int (0 : Int32)]) rfl g134 (p_X10_told_20 u g134) rfl rfl (Nat.le_of_ble_eq_true rfl) ⟨Nat.le_of_ble_eq_true rfl, Nat.le_of_ble_eq_true rfl⟩ ⟨Nat.le_of_ble_eq_true rfl, Nat.le_of_ble_eq_true rfl⟩ dL_law_220 ?_
          refine x_norm (st2 := [.int (0 : Int32), .int (0 : Int32)]) (kc2 := 157) (ks2 := 5325) rfl rfl rfl rfl rfl ?_
          refine x_icmp_eq_t C 767 dL_law_223 (by decide) rfl ?_
          exact kend _
        · have hl_va : 20 ≤ va.toInt := by omega
          rcases (by omega : va.toInt < 21 ∨ 21 ≤ va.toInt) with q | q
          · have hh_va : va.toInt ≤ 20 := by omega
            have eva : xs 1 = (20 : Int32) := eva.trans (by rw [i_eq_iff]; have e9 : (20 : Int32).toInt = 20 := (by decide); omega)
            refine x_aload_n C 2 dL_law_205 rfl rfl ?_
            refine x_aload_n C 3 dL_law_206 rfl rfl ?_
            refine x_iload_n C 0 dL_law_207 rfl rfl ?_
            refine x_iconst (v := (1 : Int32)) C dL_law_208 (by decide) ?_
            refine x_iadd C dL_law_209 ?_
            refine x_eqi (w := (1 : Int32)) (by decide) ?_
            refine x_sld (v := (20 : Int32)) C 1 hX hbl hbz (vp_in_lit (by decide) (by decide)) (by decide) eva dL_law_210 ?_
            refine x_callV C cl_X9_told kmL_27 (ci := 8) (b := 0) (As := [.int (20 : Int32)]) (rest := []) rfl h0 (p_X9_told_21 u h0 h6) rfl rfl (Nat.le_of_ble_eq_true rfl) ⟨Nat.le_of_ble_eq_true rfl, Nat.le_of_ble_eq_true rfl⟩ ⟨Nat.le_of_ble_eq_true rfl, Nat.le_of_ble_eq_true rfl⟩ dL_law_211 ?_
            refine x_norm (st2 := [.int (0 : Int32)]) (kc2 := 157) (ks2 := 5325) rfl rfl rfl rfl rfl ?_
            refine x_aload_n C 1 dL_law_214 rfl rfl ?_
            refine x_aload_n C 3 dL_law_215 rfl rfl ?_
            refine x_iload_n C 0 dL_law_216 rfl rfl ?_
            refine x_iconst (v := (1 : Int32)) C dL_law_217 (by decide) ?_
            refine x_iadd C dL_law_218 ?_
            refine x_eqi (w := (1 : Int32)) (by decide) ?_
            refine x_sld (v := (20 : Int32)) C 1 hX hbl hbz (vp_in_lit (by decide) (by decide)) (by decide) eva dL_law_219 ?_
            have g134 := h134
            refine x_callV C cl_X10_told kmL_30 (ci := 9) (b := 134) (As := [.int (20 : Int32)]) (rest := [.int (0 : Int32)]) rfl g134 (p_X10_told_21 u g134) rfl rfl (Nat.le_of_ble_eq_true rfl) ⟨Nat.le_of_ble_eq_true rfl, Nat.le_of_ble_eq_true rfl⟩ ⟨Nat.le_of_ble_eq_true rfl, Nat.le_of_ble_eq_true rfl⟩ dL_law_220 ?_
            refine x_norm (st2 := [.int (0 : Int32), .int (0 : Int32)]) (kc2 := 157) (ks2 := 5325) rfl rfl rfl rfl rfl ?_
            refine x_icmp_eq_t C 767 dL_law_223 (by decide) rfl ?_
            exact kend _
          · have hl_va : 21 ≤ va.toInt := by omega
            refine x_aload_n C 2 dL_law_205 rfl rfl ?_
            refine x_aload_n C 3 dL_law_206 rfl rfl ?_
            refine x_iload_n C 0 dL_law_207 rfl rfl ?_
            refine x_iconst (v := (1 : Int32)) C dL_law_208 (by decide) ?_
            refine x_iadd C dL_law_209 ?_
            refine x_eqi (w := (1 : Int32)) (by decide) ?_
            refine x_sld (v := va) C 1 hX hbl hbz (vp_in_lit (by decide) (by decide)) (by decide) eva dL_law_210 ?_
            refine x_callV C cl_X9_told kmL_27 (ci := 8) (b := 0) (As := [.int va]) (rest := []) rfl h0 (p_X9_told_22 u va hl_va hh_va h0) rfl rfl (Nat.le_of_ble_eq_true rfl) ⟨Nat.le_of_ble_eq_true rfl, Nat.le_of_ble_eq_true rfl⟩ ⟨Nat.le_of_ble_eq_true rfl, Nat.le_of_ble_eq_true rfl⟩ dL_law_211 ?_
            refine x_norm (st2 := [.int (-1000000002 : Int32)]) (kc2 := 157) (ks2 := 5325) rfl rfl rfl rfl rfl ?_
            refine x_aload_n C 1 dL_law_214 rfl rfl ?_
            refine x_aload_n C 3 dL_law_215 rfl rfl ?_
            refine x_iload_n C 0 dL_law_216 rfl rfl ?_
            refine x_iconst (v := (1 : Int32)) C dL_law_217 (by decide) ?_
            refine x_iadd C dL_law_218 ?_
            refine x_eqi (w := (1 : Int32)) (by decide) ?_
            refine x_sld (v := va) C 1 hX hbl hbz (vp_in_lit (by decide) (by decide)) (by decide) eva dL_law_219 ?_
            have g134 := h134
            refine x_callV C cl_X10_told kmL_30 (ci := 9) (b := 134) (As := [.int va]) (rest := [.int (-1000000002 : Int32)]) rfl g134 (p_X10_told_22 u va hl_va hh_va) rfl rfl (Nat.le_of_ble_eq_true rfl) ⟨Nat.le_of_ble_eq_true rfl, Nat.le_of_ble_eq_true rfl⟩ ⟨Nat.le_of_ble_eq_true rfl, Nat.le_of_ble_eq_true rfl⟩ dL_law_220 ?_
            refine x_norm (st2 := [.int (-1000000002 : Int32), .int (-1000000002 : Int32)]) (kc2 := 157) (ks2 := 5325) rfl rfl rfl rfl rfl ?_
            refine x_icmp_eq_t C 767 dL_law_223 (by decide) rfl ?_
            exact kend _
set_option maxRecDepth 20000 in
theorem lc_matter {p : Program} {l : Launch} {e : Env} {s : State} {m : MethodId} {below : List Frame} {meth : Method} {c : Code} {G : GT} {z b : Nat} {xs : Nat → Int32} {u : HpT} (C : Cx p s m #[Value.ref b] c G RL cL_law 4 z) (hX : va_X b 3 xs s s.heap) (hbl : b < s.heap.size) (hbz : b < z) (hF : Fresh G z u) (kend : ∀ u2 : HpT, Xw p l e room_1 s m #[Value.ref b] below meth c G z 4 (lw_Z below #[Value.ref b] s) 767 [(3, .int (0 : Int32)), (2, .ref (z + 134)), (1, .ref (z + 0)), (0, .ref b)] [] u2 157 157 5325) : Xw p l e room_1 s m #[Value.ref b] below meth c G z 4 (lw_Z below #[Value.ref b] s) 228 [(3, .int (0 : Int32)), (2, .ref (z + 134)), (1, .ref (z + 0)), (0, .ref b)] [] u 157 157 5325 := by
  obtain ⟨h0, h1, h2, h3, h4, h5, h6, h98, h99, h101, h106, h109, h112, h119, h126, h127, h128, h129, h130, h131, h132, h133, h134, h135, h146, h154, h155, h156⟩ := hF
  obtain ⟨va, eva⟩ : ∃ w : Int32, xs 1 = w := ⟨_, rfl⟩
  have hl_va : -2147483648 ≤ va.toInt := Int32.le_toInt va
  have hh_va : va.toInt ≤ 2147483647 := Int32.toInt_le va
  obtain ⟨vb, evb⟩ : ∃ w : Int32, xs 2 = w := ⟨_, rfl⟩
  have hl_vb : -2147483648 ≤ vb.toInt := Int32.le_toInt vb
  have hh_vb : vb.toInt ≤ 2147483647 := Int32.toInt_le vb
  rcases (by omega : va.toInt < 0 ∨ 0 ≤ va.toInt) with q | q
  · have hh_va : va.toInt ≤ -1 := by omega
    refine x_aload_n C 2 dL_law_228 rfl rfl ?_
    refine x_aload_n C 3 dL_law_229 rfl rfl ?_
    refine x_iload_n C 0 dL_law_230 rfl rfl ?_
    refine x_iconst (v := (1 : Int32)) C dL_law_231 (by decide) ?_
    refine x_iadd C dL_law_232 ?_
    refine x_eqi (w := (1 : Int32)) (by decide) ?_
    refine x_sld (v := va) C 1 hX hbl hbz (vp_in_lit (by decide) (by decide)) (by decide) eva dL_law_233 ?_
    refine x_aload_n C 3 dL_law_234 rfl rfl ?_
    refine x_iload_n C 0 dL_law_235 rfl rfl ?_
    refine x_iconst (v := (2 : Int32)) C dL_law_236 (by decide) ?_
    refine x_iadd C dL_law_237 ?_
    refine x_eqi (w := (2 : Int32)) (by decide) ?_
    refine x_sld (v := vb) C 2 hX hbl hbz (vp_in_lit (by decide) (by decide)) (by decide) evb dL_law_238 ?_
    refine x_callV C cl_X9_matter kmL_31 (ci := 8) (b := 0) (As := [.int va, .int vb]) (rest := []) rfl h0 (p_X9_matter_0 u va hl_va hh_va vb hl_vb hh_vb h0 h112) rfl rfl (Nat.le_of_ble_eq_true rfl) ⟨Nat.le_of_ble_eq_true rfl, Nat.le_of_ble_eq_true rfl⟩ ⟨Nat.le_of_ble_eq_true rfl, Nat.le_of_ble_eq_true rfl⟩ dL_law_239 ?_
    refine x_norm (st2 := [.int (-1000000001 : Int32)]) (kc2 := 157) (ks2 := 5325) rfl rfl rfl rfl rfl ?_
    refine x_aload_n C 1 dL_law_242 rfl rfl ?_
    refine x_aload_n C 3 dL_law_243 rfl rfl ?_
    refine x_iload_n C 0 dL_law_244 rfl rfl ?_
    refine x_iconst (v := (1 : Int32)) C dL_law_245 (by decide) ?_
    refine x_iadd C dL_law_246 ?_
    refine x_eqi (w := (1 : Int32)) (by decide) ?_
    refine x_sld (v := va) C 1 hX hbl hbz (vp_in_lit (by decide) (by decide)) (by decide) eva dL_law_247 ?_
    refine x_aload_n C 3 dL_law_248 rfl rfl ?_
    refine x_iload_n C 0 dL_law_249 rfl rfl ?_
    refine x_iconst (v := (2 : Int32)) C dL_law_250 (by decide) ?_
    refine x_iadd C dL_law_251 ?_
    refine x_eqi (w := (2 : Int32)) (by decide) ?_
    refine x_sld (v := vb) C 2 hX hbl hbz (vp_in_lit (by decide) (by decide)) (by decide) evb dL_law_252 ?_
    have g134 := h134
    refine x_callV C cl_X10_matter kmL_35 (ci := 9) (b := 134) (As := [.int va, .int vb]) (rest := [.int (-1000000001 : Int32)]) rfl g134 (p_X10_matter_0 u va hl_va hh_va vb hl_vb hh_vb g134) rfl rfl (Nat.le_of_ble_eq_true rfl) ⟨Nat.le_of_ble_eq_true rfl, Nat.le_of_ble_eq_true rfl⟩ ⟨Nat.le_of_ble_eq_true rfl, Nat.le_of_ble_eq_true rfl⟩ dL_law_253 ?_
    refine x_norm (st2 := [.int (-1000000001 : Int32), .int (-1000000001 : Int32)]) (kc2 := 157) (ks2 := 5325) rfl rfl rfl rfl rfl ?_
    refine x_icmp_eq_t C 767 dL_law_256 (by decide) rfl ?_
    exact kend _
  · have hl_va : 0 ≤ va.toInt := by omega
    refine x_aload_n C 2 dL_law_228 rfl rfl ?_
    refine x_aload_n C 3 dL_law_229 rfl rfl ?_
    refine x_iload_n C 0 dL_law_230 rfl rfl ?_
    refine x_iconst (v := (1 : Int32)) C dL_law_231 (by decide) ?_
    refine x_iadd C dL_law_232 ?_
    refine x_eqi (w := (1 : Int32)) (by decide) ?_
    refine x_sld (v := va) C 1 hX hbl hbz (vp_in_lit (by decide) (by decide)) (by decide) eva dL_law_233 ?_
    refine x_aload_n C 3 dL_law_234 rfl rfl ?_
    refine x_iload_n C 0 dL_law_235 rfl rfl ?_
    refine x_iconst (v := (2 : Int32)) C dL_law_236 (by decide) ?_
    refine x_iadd C dL_law_237 ?_
    refine x_eqi (w := (2 : Int32)) (by decide) ?_
    refine x_sld (v := vb) C 2 hX hbl hbz (vp_in_lit (by decide) (by decide)) (by decide) evb dL_law_238 ?_
    refine x_callV C cl_X9_matter kmL_31 (ci := 8) (b := 0) (As := [.int va, .int vb]) (rest := []) rfl h0 (p_X9_matter_1 u va hl_va hh_va vb hl_vb hh_vb h0 h112) rfl rfl (Nat.le_of_ble_eq_true rfl) ⟨Nat.le_of_ble_eq_true rfl, Nat.le_of_ble_eq_true rfl⟩ ⟨Nat.le_of_ble_eq_true rfl, Nat.le_of_ble_eq_true rfl⟩ dL_law_239 ?_
    refine x_norm (st2 := [.int (-1000000001 : Int32)]) (kc2 := 157) (ks2 := 5325) rfl rfl rfl rfl rfl ?_
    refine x_aload_n C 1 dL_law_242 rfl rfl ?_
    refine x_aload_n C 3 dL_law_243 rfl rfl ?_
    refine x_iload_n C 0 dL_law_244 rfl rfl ?_
    refine x_iconst (v := (1 : Int32)) C dL_law_245 (by decide) ?_
    refine x_iadd C dL_law_246 ?_
    refine x_eqi (w := (1 : Int32)) (by decide) ?_
    refine x_sld (v := va) C 1 hX hbl hbz (vp_in_lit (by decide) (by decide)) (by decide) eva dL_law_247 ?_
    refine x_aload_n C 3 dL_law_248 rfl rfl ?_
    refine x_iload_n C 0 dL_law_249 rfl rfl ?_
    refine x_iconst (v := (2 : Int32)) C dL_law_250 (by decide) ?_
    refine x_iadd C dL_law_251 ?_
    refine x_eqi (w := (2 : Int32)) (by decide) ?_
    refine x_sld (v := vb) C 2 hX hbl hbz (vp_in_lit (by decide) (by decide)) (by decide) evb dL_law_252 ?_
    have g134 := h134
    refine x_callV C cl_X10_matter kmL_35 (ci := 9) (b := 134) (As := [.int va, .int vb]) (rest := [.int (-1000000001 : Int32)]) rfl g134 (p_X10_matter_1 u va hl_va hh_va vb hl_vb hh_vb g134) rfl rfl (Nat.le_of_ble_eq_true rfl) ⟨Nat.le_of_ble_eq_true rfl, Nat.le_of_ble_eq_true rfl⟩ ⟨Nat.le_of_ble_eq_true rfl, Nat.le_of_ble_eq_true rfl⟩ dL_law_253 ?_
    refine x_norm (st2 := [.int (-1000000001 : Int32), .int (-1000000001 : Int32)]) (kc2 := 157) (ks2 := 5325) rfl rfl rfl rfl rfl ?_
    refine x_icmp_eq_t C 767 dL_law_256 (by decide) rfl ?_
    exact kend _
set_option maxRecDepth 20000 in
theorem lc_traveller {p : Program} {l : Launch} {e : Env} {s : State} {m : MethodId} {below : List Frame} {meth : Method} {c : Code} {G : GT} {z b : Nat} {xs : Nat → Int32} {u : HpT} (C : Cx p s m #[Value.ref b] c G RL cL_law 4 z) (hX : va_X b 3 xs s s.heap) (hbl : b < s.heap.size) (hbz : b < z) (hF : Fresh G z u) (kend : ∀ u2 : HpT, Xw p l e room_1 s m #[Value.ref b] below meth c G z 4 (lw_Z below #[Value.ref b] s) 767 [(3, .int (0 : Int32)), (2, .ref (z + 134)), (1, .ref (z + 0)), (0, .ref b)] [] u2 157 157 5325) : Xw p l e room_1 s m #[Value.ref b] below meth c G z 4 (lw_Z below #[Value.ref b] s) 261 [(3, .int (0 : Int32)), (2, .ref (z + 134)), (1, .ref (z + 0)), (0, .ref b)] [] u 157 157 5325 := by
  obtain ⟨h0, h1, h2, h3, h4, h5, h6, h98, h99, h101, h106, h109, h112, h119, h126, h127, h128, h129, h130, h131, h132, h133, h134, h135, h146, h154, h155, h156⟩ := hF
  obtain ⟨va, eva⟩ : ∃ w : Int32, xs 1 = w := ⟨_, rfl⟩
  have hl_va : -2147483648 ≤ va.toInt := Int32.le_toInt va
  have hh_va : va.toInt ≤ 2147483647 := Int32.toInt_le va
  obtain ⟨vb, evb⟩ : ∃ w : Int32, xs 2 = w := ⟨_, rfl⟩
  have hl_vb : -2147483648 ≤ vb.toInt := Int32.le_toInt vb
  have hh_vb : vb.toInt ≤ 2147483647 := Int32.toInt_le vb
  rcases (by omega : va.toInt < 0 ∨ 0 ≤ va.toInt) with q | q
  · have hh_va : va.toInt ≤ -1 := by omega
    refine x_aload_n C 2 dL_law_261 rfl rfl ?_
    refine x_aload_n C 3 dL_law_262 rfl rfl ?_
    refine x_iload_n C 0 dL_law_263 rfl rfl ?_
    refine x_iconst (v := (1 : Int32)) C dL_law_264 (by decide) ?_
    refine x_iadd C dL_law_265 ?_
    refine x_eqi (w := (1 : Int32)) (by decide) ?_
    refine x_sld (v := va) C 1 hX hbl hbz (vp_in_lit (by decide) (by decide)) (by decide) eva dL_law_266 ?_
    refine x_aload_n C 3 dL_law_267 rfl rfl ?_
    refine x_iload_n C 0 dL_law_268 rfl rfl ?_
    refine x_iconst (v := (2 : Int32)) C dL_law_269 (by decide) ?_
    refine x_iadd C dL_law_270 ?_
    refine x_eqi (w := (2 : Int32)) (by decide) ?_
    refine x_sld (v := vb) C 2 hX hbl hbz (vp_in_lit (by decide) (by decide)) (by decide) evb dL_law_271 ?_
    refine x_callV C cl_X9_traveller kmL_36 (ci := 8) (b := 0) (As := [.int va, .int vb]) (rest := []) rfl h0 (p_X9_traveller_0 u va hl_va hh_va vb hl_vb hh_vb h0 h112) rfl rfl (Nat.le_of_ble_eq_true rfl) ⟨Nat.le_of_ble_eq_true rfl, Nat.le_of_ble_eq_true rfl⟩ ⟨Nat.le_of_ble_eq_true rfl, Nat.le_of_ble_eq_true rfl⟩ dL_law_272 ?_
    refine x_norm (st2 := [.int (-1000000001 : Int32)]) (kc2 := 157) (ks2 := 5325) rfl rfl rfl rfl rfl ?_
    refine x_aload_n C 1 dL_law_275 rfl rfl ?_
    refine x_aload_n C 3 dL_law_276 rfl rfl ?_
    refine x_iload_n C 0 dL_law_277 rfl rfl ?_
    refine x_iconst (v := (1 : Int32)) C dL_law_278 (by decide) ?_
    refine x_iadd C dL_law_279 ?_
    refine x_eqi (w := (1 : Int32)) (by decide) ?_
    refine x_sld (v := va) C 1 hX hbl hbz (vp_in_lit (by decide) (by decide)) (by decide) eva dL_law_280 ?_
    refine x_aload_n C 3 dL_law_281 rfl rfl ?_
    refine x_iload_n C 0 dL_law_282 rfl rfl ?_
    refine x_iconst (v := (2 : Int32)) C dL_law_283 (by decide) ?_
    refine x_iadd C dL_law_284 ?_
    refine x_eqi (w := (2 : Int32)) (by decide) ?_
    refine x_sld (v := vb) C 2 hX hbl hbz (vp_in_lit (by decide) (by decide)) (by decide) evb dL_law_285 ?_
    have g134 := h134
    refine x_callV C cl_X10_traveller kmL_39 (ci := 9) (b := 134) (As := [.int va, .int vb]) (rest := [.int (-1000000001 : Int32)]) rfl g134 (p_X10_traveller_0 u va hl_va hh_va vb hl_vb hh_vb g134) rfl rfl (Nat.le_of_ble_eq_true rfl) ⟨Nat.le_of_ble_eq_true rfl, Nat.le_of_ble_eq_true rfl⟩ ⟨Nat.le_of_ble_eq_true rfl, Nat.le_of_ble_eq_true rfl⟩ dL_law_286 ?_
    refine x_norm (st2 := [.int (-1000000001 : Int32), .int (-1000000001 : Int32)]) (kc2 := 157) (ks2 := 5325) rfl rfl rfl rfl rfl ?_
    refine x_icmp_eq_t C 767 dL_law_289 (by decide) rfl ?_
    exact kend _
  · have hl_va : 0 ≤ va.toInt := by omega
    refine x_aload_n C 2 dL_law_261 rfl rfl ?_
    refine x_aload_n C 3 dL_law_262 rfl rfl ?_
    refine x_iload_n C 0 dL_law_263 rfl rfl ?_
    refine x_iconst (v := (1 : Int32)) C dL_law_264 (by decide) ?_
    refine x_iadd C dL_law_265 ?_
    refine x_eqi (w := (1 : Int32)) (by decide) ?_
    refine x_sld (v := va) C 1 hX hbl hbz (vp_in_lit (by decide) (by decide)) (by decide) eva dL_law_266 ?_
    refine x_aload_n C 3 dL_law_267 rfl rfl ?_
    refine x_iload_n C 0 dL_law_268 rfl rfl ?_
    refine x_iconst (v := (2 : Int32)) C dL_law_269 (by decide) ?_
    refine x_iadd C dL_law_270 ?_
    refine x_eqi (w := (2 : Int32)) (by decide) ?_
    refine x_sld (v := vb) C 2 hX hbl hbz (vp_in_lit (by decide) (by decide)) (by decide) evb dL_law_271 ?_
    refine x_callV C cl_X9_traveller kmL_36 (ci := 8) (b := 0) (As := [.int va, .int vb]) (rest := []) rfl h0 (p_X9_traveller_1 u va hl_va hh_va vb hl_vb hh_vb h0 h112) rfl rfl (Nat.le_of_ble_eq_true rfl) ⟨Nat.le_of_ble_eq_true rfl, Nat.le_of_ble_eq_true rfl⟩ ⟨Nat.le_of_ble_eq_true rfl, Nat.le_of_ble_eq_true rfl⟩ dL_law_272 ?_
    refine x_norm (st2 := [.int (-1000000001 : Int32)]) (kc2 := 157) (ks2 := 5325) rfl rfl rfl rfl rfl ?_
    refine x_aload_n C 1 dL_law_275 rfl rfl ?_
    refine x_aload_n C 3 dL_law_276 rfl rfl ?_
    refine x_iload_n C 0 dL_law_277 rfl rfl ?_
    refine x_iconst (v := (1 : Int32)) C dL_law_278 (by decide) ?_
    refine x_iadd C dL_law_279 ?_
    refine x_eqi (w := (1 : Int32)) (by decide) ?_
    refine x_sld (v := va) C 1 hX hbl hbz (vp_in_lit (by decide) (by decide)) (by decide) eva dL_law_280 ?_
    refine x_aload_n C 3 dL_law_281 rfl rfl ?_
    refine x_iload_n C 0 dL_law_282 rfl rfl ?_
    refine x_iconst (v := (2 : Int32)) C dL_law_283 (by decide) ?_
    refine x_iadd C dL_law_284 ?_
    refine x_eqi (w := (2 : Int32)) (by decide) ?_
    refine x_sld (v := vb) C 2 hX hbl hbz (vp_in_lit (by decide) (by decide)) (by decide) evb dL_law_285 ?_
    have g134 := h134
    refine x_callV C cl_X10_traveller kmL_39 (ci := 9) (b := 134) (As := [.int va, .int vb]) (rest := [.int (-1000000001 : Int32)]) rfl g134 (p_X10_traveller_1 u va hl_va hh_va vb hl_vb hh_vb g134) rfl rfl (Nat.le_of_ble_eq_true rfl) ⟨Nat.le_of_ble_eq_true rfl, Nat.le_of_ble_eq_true rfl⟩ ⟨Nat.le_of_ble_eq_true rfl, Nat.le_of_ble_eq_true rfl⟩ dL_law_286 ?_
    refine x_norm (st2 := [.int (-1000000001 : Int32), .int (-1000000001 : Int32)]) (kc2 := 157) (ks2 := 5325) rfl rfl rfl rfl rfl ?_
    refine x_icmp_eq_t C 767 dL_law_289 (by decide) rfl ?_
    exact kend _
set_option maxRecDepth 20000 in
theorem lc_seat {p : Program} {l : Launch} {e : Env} {s : State} {m : MethodId} {below : List Frame} {meth : Method} {c : Code} {G : GT} {z b : Nat} {xs : Nat → Int32} {u : HpT} (C : Cx p s m #[Value.ref b] c G RL cL_law 4 z) (hX : va_X b 3 xs s s.heap) (hbl : b < s.heap.size) (hbz : b < z) (hF : Fresh G z u) (kend : ∀ u2 : HpT, Xw p l e room_1 s m #[Value.ref b] below meth c G z 4 (lw_Z below #[Value.ref b] s) 767 [(3, .int (0 : Int32)), (2, .ref (z + 134)), (1, .ref (z + 0)), (0, .ref b)] [] u2 157 157 5325) : Xw p l e room_1 s m #[Value.ref b] below meth c G z 4 (lw_Z below #[Value.ref b] s) 294 [(3, .int (0 : Int32)), (2, .ref (z + 134)), (1, .ref (z + 0)), (0, .ref b)] [] u 157 157 5325 := by
  obtain ⟨h0, h1, h2, h3, h4, h5, h6, h98, h99, h101, h106, h109, h112, h119, h126, h127, h128, h129, h130, h131, h132, h133, h134, h135, h146, h154, h155, h156⟩ := hF
  obtain ⟨va, eva⟩ : ∃ w : Int32, xs 1 = w := ⟨_, rfl⟩
  have hl_va : -2147483648 ≤ va.toInt := Int32.le_toInt va
  have hh_va : va.toInt ≤ 2147483647 := Int32.toInt_le va
  rcases (by omega : va.toInt < 0 ∨ 0 ≤ va.toInt) with q | q
  · have hh_va : va.toInt ≤ -1 := by omega
    refine x_aload_n C 2 dL_law_294 rfl rfl ?_
    refine x_aload_n C 3 dL_law_295 rfl rfl ?_
    refine x_iload_n C 0 dL_law_296 rfl rfl ?_
    refine x_iconst (v := (1 : Int32)) C dL_law_297 (by decide) ?_
    refine x_iadd C dL_law_298 ?_
    refine x_eqi (w := (1 : Int32)) (by decide) ?_
    refine x_sld (v := va) C 1 hX hbl hbz (vp_in_lit (by decide) (by decide)) (by decide) eva dL_law_299 ?_
    refine x_callV C cl_X9_seat kmL_40 (ci := 8) (b := 0) (As := [.int va]) (rest := []) rfl h0 (p_X9_seat_0 u va hl_va hh_va h0 h112) rfl rfl (Nat.le_of_ble_eq_true rfl) ⟨Nat.le_of_ble_eq_true rfl, Nat.le_of_ble_eq_true rfl⟩ ⟨Nat.le_of_ble_eq_true rfl, Nat.le_of_ble_eq_true rfl⟩ dL_law_300 ?_
    refine x_norm (st2 := [.int (-1000000001 : Int32)]) (kc2 := 157) (ks2 := 5325) rfl rfl rfl rfl rfl ?_
    refine x_aload_n C 1 dL_law_303 rfl rfl ?_
    refine x_aload_n C 3 dL_law_304 rfl rfl ?_
    refine x_iload_n C 0 dL_law_305 rfl rfl ?_
    refine x_iconst (v := (1 : Int32)) C dL_law_306 (by decide) ?_
    refine x_iadd C dL_law_307 ?_
    refine x_eqi (w := (1 : Int32)) (by decide) ?_
    refine x_sld (v := va) C 1 hX hbl hbz (vp_in_lit (by decide) (by decide)) (by decide) eva dL_law_308 ?_
    have g134 := h134
    refine x_callV C cl_X10_seat kmL_43 (ci := 9) (b := 134) (As := [.int va]) (rest := [.int (-1000000001 : Int32)]) rfl g134 (p_X10_seat_0 u va hl_va hh_va g134) rfl rfl (Nat.le_of_ble_eq_true rfl) ⟨Nat.le_of_ble_eq_true rfl, Nat.le_of_ble_eq_true rfl⟩ ⟨Nat.le_of_ble_eq_true rfl, Nat.le_of_ble_eq_true rfl⟩ dL_law_309 ?_
    refine x_norm (st2 := [.int (-1000000001 : Int32), .int (-1000000001 : Int32)]) (kc2 := 157) (ks2 := 5325) rfl rfl rfl rfl rfl ?_
    refine x_icmp_eq_t C 767 dL_law_312 (by decide) rfl ?_
    exact kend _
  · have hl_va : 0 ≤ va.toInt := by omega
    refine x_aload_n C 2 dL_law_294 rfl rfl ?_
    refine x_aload_n C 3 dL_law_295 rfl rfl ?_
    refine x_iload_n C 0 dL_law_296 rfl rfl ?_
    refine x_iconst (v := (1 : Int32)) C dL_law_297 (by decide) ?_
    refine x_iadd C dL_law_298 ?_
    refine x_eqi (w := (1 : Int32)) (by decide) ?_
    refine x_sld (v := va) C 1 hX hbl hbz (vp_in_lit (by decide) (by decide)) (by decide) eva dL_law_299 ?_
    refine x_callV C cl_X9_seat kmL_40 (ci := 8) (b := 0) (As := [.int va]) (rest := []) rfl h0 (p_X9_seat_1 u va hl_va hh_va h0 h112) rfl rfl (Nat.le_of_ble_eq_true rfl) ⟨Nat.le_of_ble_eq_true rfl, Nat.le_of_ble_eq_true rfl⟩ ⟨Nat.le_of_ble_eq_true rfl, Nat.le_of_ble_eq_true rfl⟩ dL_law_300 ?_
    refine x_norm (st2 := [.int (-1000000001 : Int32)]) (kc2 := 157) (ks2 := 5325) rfl rfl rfl rfl rfl ?_
    refine x_aload_n C 1 dL_law_303 rfl rfl ?_
    refine x_aload_n C 3 dL_law_304 rfl rfl ?_
    refine x_iload_n C 0 dL_law_305 rfl rfl ?_
    refine x_iconst (v := (1 : Int32)) C dL_law_306 (by decide) ?_
    refine x_iadd C dL_law_307 ?_
    refine x_eqi (w := (1 : Int32)) (by decide) ?_
    refine x_sld (v := va) C 1 hX hbl hbz (vp_in_lit (by decide) (by decide)) (by decide) eva dL_law_308 ?_
    have g134 := h134
    refine x_callV C cl_X10_seat kmL_43 (ci := 9) (b := 134) (As := [.int va]) (rest := [.int (-1000000001 : Int32)]) rfl g134 (p_X10_seat_1 u va hl_va hh_va g134) rfl rfl (Nat.le_of_ble_eq_true rfl) ⟨Nat.le_of_ble_eq_true rfl, Nat.le_of_ble_eq_true rfl⟩ ⟨Nat.le_of_ble_eq_true rfl, Nat.le_of_ble_eq_true rfl⟩ dL_law_309 ?_
    refine x_norm (st2 := [.int (-1000000001 : Int32), .int (-1000000001 : Int32)]) (kc2 := 157) (ks2 := 5325) rfl rfl rfl rfl rfl ?_
    refine x_icmp_eq_t C 767 dL_law_312 (by decide) rfl ?_
    exact kend _
set_option maxRecDepth 20000 in
theorem lc_tell {p : Program} {l : Launch} {e : Env} {s : State} {m : MethodId} {below : List Frame} {meth : Method} {c : Code} {G : GT} {z b : Nat} {xs : Nat → Int32} {u : HpT} (C : Cx p s m #[Value.ref b] c G RL cL_law 4 z) (hX : va_X b 3 xs s s.heap) (hbl : b < s.heap.size) (hbz : b < z) (hF : Fresh G z u) (kend : ∀ u2 : HpT, Xw p l e room_1 s m #[Value.ref b] below meth c G z 4 (lw_Z below #[Value.ref b] s) 767 [(3, .int (0 : Int32)), (2, .ref (z + 134)), (1, .ref (z + 0)), (0, .ref b)] [] u2 157 157 5325) : Xw p l e room_1 s m #[Value.ref b] below meth c G z 4 (lw_Z below #[Value.ref b] s) 317 [(3, .int (0 : Int32)), (2, .ref (z + 134)), (1, .ref (z + 0)), (0, .ref b)] [] u 157 157 5325 := by
  obtain ⟨h0, h1, h2, h3, h4, h5, h6, h98, h99, h101, h106, h109, h112, h119, h126, h127, h128, h129, h130, h131, h132, h133, h134, h135, h146, h154, h155, h156⟩ := hF
  obtain ⟨va, eva⟩ : ∃ w : Int32, xs 1 = w := ⟨_, rfl⟩
  have hl_va : -2147483648 ≤ va.toInt := Int32.le_toInt va
  have hh_va : va.toInt ≤ 2147483647 := Int32.toInt_le va
  rcases (by omega : va.toInt < 0 ∨ 0 ≤ va.toInt) with q | q
  · have hh_va : va.toInt ≤ -1 := by omega
    refine x_aload_n C 2 dL_law_317 rfl rfl ?_
    refine x_aload_n C 3 dL_law_318 rfl rfl ?_
    refine x_iload_n C 0 dL_law_319 rfl rfl ?_
    refine x_iconst (v := (1 : Int32)) C dL_law_320 (by decide) ?_
    refine x_iadd C dL_law_321 ?_
    refine x_eqi (w := (1 : Int32)) (by decide) ?_
    refine x_sld (v := va) C 1 hX hbl hbz (vp_in_lit (by decide) (by decide)) (by decide) eva dL_law_322 ?_
    refine x_callV C cl_X9_tell kmL_44 (ci := 8) (b := 0) (As := [.int va]) (rest := []) rfl h0 (p_X9_tell_0 u va hl_va hh_va h0 h112) rfl rfl (Nat.le_of_ble_eq_true rfl) ⟨Nat.le_of_ble_eq_true rfl, Nat.le_of_ble_eq_true rfl⟩ ⟨Nat.le_of_ble_eq_true rfl, Nat.le_of_ble_eq_true rfl⟩ dL_law_323 ?_
    refine x_norm (st2 := [.int (-1000000001 : Int32)]) (kc2 := 157) (ks2 := 5325) rfl rfl rfl rfl rfl ?_
    refine x_aload_n C 1 dL_law_326 rfl rfl ?_
    refine x_aload_n C 3 dL_law_327 rfl rfl ?_
    refine x_iload_n C 0 dL_law_328 rfl rfl ?_
    refine x_iconst (v := (1 : Int32)) C dL_law_329 (by decide) ?_
    refine x_iadd C dL_law_330 ?_
    refine x_eqi (w := (1 : Int32)) (by decide) ?_
    refine x_sld (v := va) C 1 hX hbl hbz (vp_in_lit (by decide) (by decide)) (by decide) eva dL_law_331 ?_
    have g134 := h134
    refine x_callV C cl_X10_tell kmL_47 (ci := 9) (b := 134) (As := [.int va]) (rest := [.int (-1000000001 : Int32)]) rfl g134 (p_X10_tell_0 u va hl_va hh_va g134) rfl rfl (Nat.le_of_ble_eq_true rfl) ⟨Nat.le_of_ble_eq_true rfl, Nat.le_of_ble_eq_true rfl⟩ ⟨Nat.le_of_ble_eq_true rfl, Nat.le_of_ble_eq_true rfl⟩ dL_law_332 ?_
    refine x_norm (st2 := [.int (-1000000001 : Int32), .int (-1000000001 : Int32)]) (kc2 := 157) (ks2 := 5325) rfl rfl rfl rfl rfl ?_
    refine x_icmp_eq_t C 767 dL_law_335 (by decide) rfl ?_
    exact kend _
  · have hl_va : 0 ≤ va.toInt := by omega
    refine x_aload_n C 2 dL_law_317 rfl rfl ?_
    refine x_aload_n C 3 dL_law_318 rfl rfl ?_
    refine x_iload_n C 0 dL_law_319 rfl rfl ?_
    refine x_iconst (v := (1 : Int32)) C dL_law_320 (by decide) ?_
    refine x_iadd C dL_law_321 ?_
    refine x_eqi (w := (1 : Int32)) (by decide) ?_
    refine x_sld (v := va) C 1 hX hbl hbz (vp_in_lit (by decide) (by decide)) (by decide) eva dL_law_322 ?_
    refine x_callV C cl_X9_tell kmL_44 (ci := 8) (b := 0) (As := [.int va]) (rest := []) rfl h0 (p_X9_tell_1 u va hl_va hh_va h0 h112) rfl rfl (Nat.le_of_ble_eq_true rfl) ⟨Nat.le_of_ble_eq_true rfl, Nat.le_of_ble_eq_true rfl⟩ ⟨Nat.le_of_ble_eq_true rfl, Nat.le_of_ble_eq_true rfl⟩ dL_law_323 ?_
    refine x_norm (st2 := [.int (-1000000001 : Int32)]) (kc2 := 157) (ks2 := 5325) rfl rfl rfl rfl rfl ?_
    refine x_aload_n C 1 dL_law_326 rfl rfl ?_
    refine x_aload_n C 3 dL_law_327 rfl rfl ?_
    refine x_iload_n C 0 dL_law_328 rfl rfl ?_
    refine x_iconst (v := (1 : Int32)) C dL_law_329 (by decide) ?_
    refine x_iadd C dL_law_330 ?_
    refine x_eqi (w := (1 : Int32)) (by decide) ?_
    refine x_sld (v := va) C 1 hX hbl hbz (vp_in_lit (by decide) (by decide)) (by decide) eva dL_law_331 ?_
    have g134 := h134
    refine x_callV C cl_X10_tell kmL_47 (ci := 9) (b := 134) (As := [.int va]) (rest := [.int (-1000000001 : Int32)]) rfl g134 (p_X10_tell_1 u va hl_va hh_va g134) rfl rfl (Nat.le_of_ble_eq_true rfl) ⟨Nat.le_of_ble_eq_true rfl, Nat.le_of_ble_eq_true rfl⟩ ⟨Nat.le_of_ble_eq_true rfl, Nat.le_of_ble_eq_true rfl⟩ dL_law_332 ?_
    refine x_norm (st2 := [.int (-1000000001 : Int32), .int (-1000000001 : Int32)]) (kc2 := 157) (ks2 := 5325) rfl rfl rfl rfl rfl ?_
    refine x_icmp_eq_t C 767 dL_law_335 (by decide) rfl ?_
    exact kend _
set_option maxRecDepth 20000 in
theorem lc_rise {p : Program} {l : Launch} {e : Env} {s : State} {m : MethodId} {below : List Frame} {meth : Method} {c : Code} {G : GT} {z b : Nat} {xs : Nat → Int32} {u : HpT} (C : Cx p s m #[Value.ref b] c G RL cL_law 4 z) (hX : va_X b 3 xs s s.heap) (hbl : b < s.heap.size) (hbz : b < z) (hF : Fresh G z u) (kend : ∀ u2 : HpT, Xw p l e room_1 s m #[Value.ref b] below meth c G z 4 (lw_Z below #[Value.ref b] s) 767 [(3, .int (0 : Int32)), (2, .ref (z + 134)), (1, .ref (z + 0)), (0, .ref b)] [] u2 157 157 5325) : Xw p l e room_1 s m #[Value.ref b] below meth c G z 4 (lw_Z below #[Value.ref b] s) 340 [(3, .int (0 : Int32)), (2, .ref (z + 134)), (1, .ref (z + 0)), (0, .ref b)] [] u 157 157 5325 := by
  obtain ⟨h0, h1, h2, h3, h4, h5, h6, h98, h99, h101, h106, h109, h112, h119, h126, h127, h128, h129, h130, h131, h132, h133, h134, h135, h146, h154, h155, h156⟩ := hF
  refine x_aload_n C 2 dL_law_340 rfl rfl ?_
  refine x_callV C cl_X9_rise kmL_48 (ci := 8) (b := 0) (As := []) (rest := []) rfl h0 (p_X9_rise_0 u h0 h3) rfl rfl (Nat.le_of_ble_eq_true rfl) ⟨Nat.le_of_ble_eq_true rfl, Nat.le_of_ble_eq_true rfl⟩ ⟨Nat.le_of_ble_eq_true rfl, Nat.le_of_ble_eq_true rfl⟩ dL_law_341 ?_
  refine x_norm (st2 := [.int (-1000000003 : Int32)]) (kc2 := 157) (ks2 := 5325) rfl rfl rfl rfl rfl ?_
  refine x_aload_n C 1 dL_law_344 rfl rfl ?_
  have g134 := h134
  have g146 := h146
  refine x_callV C cl_X10_rise kmL_51 (ci := 9) (b := 134) (As := []) (rest := [.int (-1000000003 : Int32)]) rfl g134 (p_X10_rise_0 u g134 g146) rfl rfl (Nat.le_of_ble_eq_true rfl) ⟨Nat.le_of_ble_eq_true rfl, Nat.le_of_ble_eq_true rfl⟩ ⟨Nat.le_of_ble_eq_true rfl, Nat.le_of_ble_eq_true rfl⟩ dL_law_345 ?_
  refine x_norm (st2 := [.int (-1000000003 : Int32), .int (-1000000003 : Int32)]) (kc2 := 157) (ks2 := 5325) rfl rfl rfl rfl rfl ?_
  refine x_icmp_eq_t C 767 dL_law_348 (by decide) rfl ?_
  exact kend _
set_option maxRecDepth 20000 in
theorem lc_learn {p : Program} {l : Launch} {e : Env} {s : State} {m : MethodId} {below : List Frame} {meth : Method} {c : Code} {G : GT} {z b : Nat} {xs : Nat → Int32} {u : HpT} (C : Cx p s m #[Value.ref b] c G RL cL_law 4 z) (hX : va_X b 3 xs s s.heap) (hbl : b < s.heap.size) (hbz : b < z) (hF : Fresh G z u) (kend : ∀ u2 : HpT, Xw p l e room_1 s m #[Value.ref b] below meth c G z 4 (lw_Z below #[Value.ref b] s) 767 [(3, .int (0 : Int32)), (2, .ref (z + 134)), (1, .ref (z + 0)), (0, .ref b)] [] u2 157 157 5325) : Xw p l e room_1 s m #[Value.ref b] below meth c G z 4 (lw_Z below #[Value.ref b] s) 353 [(3, .int (0 : Int32)), (2, .ref (z + 134)), (1, .ref (z + 0)), (0, .ref b)] [] u 157 157 5325 := by
  obtain ⟨h0, h1, h2, h3, h4, h5, h6, h98, h99, h101, h106, h109, h112, h119, h126, h127, h128, h129, h130, h131, h132, h133, h134, h135, h146, h154, h155, h156⟩ := hF
  obtain ⟨va, eva⟩ : ∃ w : Int32, xs 1 = w := ⟨_, rfl⟩
  have hl_va : -2147483648 ≤ va.toInt := Int32.le_toInt va
  have hh_va : va.toInt ≤ 2147483647 := Int32.toInt_le va
  rcases (by omega : va.toInt < 0 ∨ 0 ≤ va.toInt) with q | q
  · have hh_va : va.toInt ≤ -1 := by omega
    refine x_aload_n C 2 dL_law_353 rfl rfl ?_
    refine x_aload_n C 3 dL_law_354 rfl rfl ?_
    refine x_iload_n C 0 dL_law_355 rfl rfl ?_
    refine x_iconst (v := (1 : Int32)) C dL_law_356 (by decide) ?_
    refine x_iadd C dL_law_357 ?_
    refine x_eqi (w := (1 : Int32)) (by decide) ?_
    refine x_sld (v := va) C 1 hX hbl hbz (vp_in_lit (by decide) (by decide)) (by decide) eva dL_law_358 ?_
    refine x_callV C cl_X9_learn kmL_52 (ci := 8) (b := 0) (As := [.int va]) (rest := []) rfl h0 (p_X9_learn_0 u va hl_va hh_va h0 h112) rfl rfl (Nat.le_of_ble_eq_true rfl) ⟨Nat.le_of_ble_eq_true rfl, Nat.le_of_ble_eq_true rfl⟩ ⟨Nat.le_of_ble_eq_true rfl, Nat.le_of_ble_eq_true rfl⟩ dL_law_359 ?_
    refine x_norm (st2 := [.int (-1000000001 : Int32)]) (kc2 := 157) (ks2 := 5325) rfl rfl rfl rfl rfl ?_
    refine x_aload_n C 1 dL_law_362 rfl rfl ?_
    refine x_aload_n C 3 dL_law_363 rfl rfl ?_
    refine x_iload_n C 0 dL_law_364 rfl rfl ?_
    refine x_iconst (v := (1 : Int32)) C dL_law_365 (by decide) ?_
    refine x_iadd C dL_law_366 ?_
    refine x_eqi (w := (1 : Int32)) (by decide) ?_
    refine x_sld (v := va) C 1 hX hbl hbz (vp_in_lit (by decide) (by decide)) (by decide) eva dL_law_367 ?_
    have g134 := h134
    refine x_callV C cl_X10_learn kmL_55 (ci := 9) (b := 134) (As := [.int va]) (rest := [.int (-1000000001 : Int32)]) rfl g134 (p_X10_learn_0 u va hl_va hh_va g134) rfl rfl (Nat.le_of_ble_eq_true rfl) ⟨Nat.le_of_ble_eq_true rfl, Nat.le_of_ble_eq_true rfl⟩ ⟨Nat.le_of_ble_eq_true rfl, Nat.le_of_ble_eq_true rfl⟩ dL_law_368 ?_
    refine x_norm (st2 := [.int (-1000000001 : Int32), .int (-1000000001 : Int32)]) (kc2 := 157) (ks2 := 5325) rfl rfl rfl rfl rfl ?_
    refine x_icmp_eq_t C 767 dL_law_371 (by decide) rfl ?_
    exact kend _
  · have hl_va : 0 ≤ va.toInt := by omega
    refine x_aload_n C 2 dL_law_353 rfl rfl ?_
    refine x_aload_n C 3 dL_law_354 rfl rfl ?_
    refine x_iload_n C 0 dL_law_355 rfl rfl ?_
    refine x_iconst (v := (1 : Int32)) C dL_law_356 (by decide) ?_
    refine x_iadd C dL_law_357 ?_
    refine x_eqi (w := (1 : Int32)) (by decide) ?_
    refine x_sld (v := va) C 1 hX hbl hbz (vp_in_lit (by decide) (by decide)) (by decide) eva dL_law_358 ?_
    refine x_callV C cl_X9_learn kmL_52 (ci := 8) (b := 0) (As := [.int va]) (rest := []) rfl h0 (p_X9_learn_1 u va hl_va hh_va h0 h112) rfl rfl (Nat.le_of_ble_eq_true rfl) ⟨Nat.le_of_ble_eq_true rfl, Nat.le_of_ble_eq_true rfl⟩ ⟨Nat.le_of_ble_eq_true rfl, Nat.le_of_ble_eq_true rfl⟩ dL_law_359 ?_
    refine x_norm (st2 := [.int (-1000000001 : Int32)]) (kc2 := 157) (ks2 := 5325) rfl rfl rfl rfl rfl ?_
    refine x_aload_n C 1 dL_law_362 rfl rfl ?_
    refine x_aload_n C 3 dL_law_363 rfl rfl ?_
    refine x_iload_n C 0 dL_law_364 rfl rfl ?_
    refine x_iconst (v := (1 : Int32)) C dL_law_365 (by decide) ?_
    refine x_iadd C dL_law_366 ?_
    refine x_eqi (w := (1 : Int32)) (by decide) ?_
    refine x_sld (v := va) C 1 hX hbl hbz (vp_in_lit (by decide) (by decide)) (by decide) eva dL_law_367 ?_
    have g134 := h134
    refine x_callV C cl_X10_learn kmL_55 (ci := 9) (b := 134) (As := [.int va]) (rest := [.int (-1000000001 : Int32)]) rfl g134 (p_X10_learn_1 u va hl_va hh_va g134) rfl rfl (Nat.le_of_ble_eq_true rfl) ⟨Nat.le_of_ble_eq_true rfl, Nat.le_of_ble_eq_true rfl⟩ ⟨Nat.le_of_ble_eq_true rfl, Nat.le_of_ble_eq_true rfl⟩ dL_law_368 ?_
    refine x_norm (st2 := [.int (-1000000001 : Int32), .int (-1000000001 : Int32)]) (kc2 := 157) (ks2 := 5325) rfl rfl rfl rfl rfl ?_
    refine x_icmp_eq_t C 767 dL_law_371 (by decide) rfl ?_
    exact kend _
set_option maxRecDepth 20000 in
theorem lc_minute {p : Program} {l : Launch} {e : Env} {s : State} {m : MethodId} {below : List Frame} {meth : Method} {c : Code} {G : GT} {z b : Nat} {xs : Nat → Int32} {u : HpT} (C : Cx p s m #[Value.ref b] c G RL cL_law 4 z) (hX : va_X b 3 xs s s.heap) (hbl : b < s.heap.size) (hbz : b < z) (hF : Fresh G z u) (kend : ∀ u2 : HpT, Xw p l e room_1 s m #[Value.ref b] below meth c G z 4 (lw_Z below #[Value.ref b] s) 767 [(3, .int (0 : Int32)), (2, .ref (z + 134)), (1, .ref (z + 0)), (0, .ref b)] [] u2 157 157 5325) : Xw p l e room_1 s m #[Value.ref b] below meth c G z 4 (lw_Z below #[Value.ref b] s) 376 [(3, .int (0 : Int32)), (2, .ref (z + 134)), (1, .ref (z + 0)), (0, .ref b)] [] u 157 157 5325 := by
  obtain ⟨h0, h1, h2, h3, h4, h5, h6, h98, h99, h101, h106, h109, h112, h119, h126, h127, h128, h129, h130, h131, h132, h133, h134, h135, h146, h154, h155, h156⟩ := hF
  obtain ⟨va, eva⟩ : ∃ w : Int32, xs 1 = w := ⟨_, rfl⟩
  have hl_va : -2147483648 ≤ va.toInt := Int32.le_toInt va
  have hh_va : va.toInt ≤ 2147483647 := Int32.toInt_le va
  rcases (by omega : va.toInt < 1 ∨ 1 ≤ va.toInt) with q | q
  · have hh_va : va.toInt ≤ 0 := by omega
    refine x_aload_n C 2 dL_law_376 rfl rfl ?_
    refine x_aload_n C 3 dL_law_377 rfl rfl ?_
    refine x_iload_n C 0 dL_law_378 rfl rfl ?_
    refine x_iconst (v := (1 : Int32)) C dL_law_379 (by decide) ?_
    refine x_iadd C dL_law_380 ?_
    refine x_eqi (w := (1 : Int32)) (by decide) ?_
    refine x_sld (v := va) C 1 hX hbl hbz (vp_in_lit (by decide) (by decide)) (by decide) eva dL_law_381 ?_
    refine x_callV C cl_X9_minute kmL_56 (ci := 8) (b := 0) (As := [.int va]) (rest := []) rfl h0 (p_X9_minute_0 u va hl_va hh_va) rfl rfl (Nat.le_of_ble_eq_true rfl) ⟨Nat.le_of_ble_eq_true rfl, Nat.le_of_ble_eq_true rfl⟩ ⟨Nat.le_of_ble_eq_true rfl, Nat.le_of_ble_eq_true rfl⟩ dL_law_382 ?_
    refine x_norm (st2 := [.int (-1000000002 : Int32)]) (kc2 := 157) (ks2 := 5325) rfl rfl rfl rfl rfl ?_
    refine x_aload_n C 1 dL_law_385 rfl rfl ?_
    refine x_aload_n C 3 dL_law_386 rfl rfl ?_
    refine x_iload_n C 0 dL_law_387 rfl rfl ?_
    refine x_iconst (v := (1 : Int32)) C dL_law_388 (by decide) ?_
    refine x_iadd C dL_law_389 ?_
    refine x_eqi (w := (1 : Int32)) (by decide) ?_
    refine x_sld (v := va) C 1 hX hbl hbz (vp_in_lit (by decide) (by decide)) (by decide) eva dL_law_390 ?_
    have g134 := h134
    refine x_callV C cl_X10_minute kmL_59 (ci := 9) (b := 134) (As := [.int va]) (rest := [.int (-1000000002 : Int32)]) rfl g134 (p_X10_minute_0 u va hl_va hh_va) rfl rfl (Nat.le_of_ble_eq_true rfl) ⟨Nat.le_of_ble_eq_true rfl, Nat.le_of_ble_eq_true rfl⟩ ⟨Nat.le_of_ble_eq_true rfl, Nat.le_of_ble_eq_true rfl⟩ dL_law_391 ?_
    refine x_norm (st2 := [.int (-1000000002 : Int32), .int (-1000000002 : Int32)]) (kc2 := 157) (ks2 := 5325) rfl rfl rfl rfl rfl ?_
    refine x_icmp_eq_t C 767 dL_law_394 (by decide) rfl ?_
    exact kend _
  · have hl_va : 1 ≤ va.toInt := by omega
    rcases (by omega : va.toInt < 61 ∨ 61 ≤ va.toInt) with q | q
    · have hh_va : va.toInt ≤ 60 := by omega
      refine x_aload_n C 2 dL_law_376 rfl rfl ?_
      refine x_aload_n C 3 dL_law_377 rfl rfl ?_
      refine x_iload_n C 0 dL_law_378 rfl rfl ?_
      refine x_iconst (v := (1 : Int32)) C dL_law_379 (by decide) ?_
      refine x_iadd C dL_law_380 ?_
      refine x_eqi (w := (1 : Int32)) (by decide) ?_
      refine x_sld (v := va) C 1 hX hbl hbz (vp_in_lit (by decide) (by decide)) (by decide) eva dL_law_381 ?_
      refine x_callV C cl_X9_minute kmL_56 (ci := 8) (b := 0) (As := [.int va]) (rest := []) rfl h0 (p_X9_minute_1 u va hl_va hh_va h0 h112) rfl rfl (Nat.le_of_ble_eq_true rfl) ⟨Nat.le_of_ble_eq_true rfl, Nat.le_of_ble_eq_true rfl⟩ ⟨Nat.le_of_ble_eq_true rfl, Nat.le_of_ble_eq_true rfl⟩ dL_law_382 ?_
      refine x_norm (st2 := [.int (-1000000003 : Int32)]) (kc2 := 157) (ks2 := 5325) rfl rfl rfl rfl rfl ?_
      refine x_aload_n C 1 dL_law_385 rfl rfl ?_
      refine x_aload_n C 3 dL_law_386 rfl rfl ?_
      refine x_iload_n C 0 dL_law_387 rfl rfl ?_
      refine x_iconst (v := (1 : Int32)) C dL_law_388 (by decide) ?_
      refine x_iadd C dL_law_389 ?_
      refine x_eqi (w := (1 : Int32)) (by decide) ?_
      refine x_sld (v := va) C 1 hX hbl hbz (vp_in_lit (by decide) (by decide)) (by decide) eva dL_law_390 ?_
      have g134 := h134
      refine x_callV C cl_X10_minute kmL_59 (ci := 9) (b := 134) (As := [.int va]) (rest := [.int (-1000000003 : Int32)]) rfl g134 (p_X10_minute_1 u va hl_va hh_va g134) rfl rfl (Nat.le_of_ble_eq_true rfl) ⟨Nat.le_of_ble_eq_true rfl, Nat.le_of_ble_eq_true rfl⟩ ⟨Nat.le_of_ble_eq_true rfl, Nat.le_of_ble_eq_true rfl⟩ dL_law_391 ?_
      refine x_norm (st2 := [.int (-1000000003 : Int32), .int (-1000000003 : Int32)]) (kc2 := 157) (ks2 := 5325) rfl rfl rfl rfl rfl ?_
      refine x_icmp_eq_t C 767 dL_law_394 (by decide) rfl ?_
      exact kend _
    · have hl_va : 61 ≤ va.toInt := by omega
      refine x_aload_n C 2 dL_law_376 rfl rfl ?_
      refine x_aload_n C 3 dL_law_377 rfl rfl ?_
      refine x_iload_n C 0 dL_law_378 rfl rfl ?_
      refine x_iconst (v := (1 : Int32)) C dL_law_379 (by decide) ?_
      refine x_iadd C dL_law_380 ?_
      refine x_eqi (w := (1 : Int32)) (by decide) ?_
      refine x_sld (v := va) C 1 hX hbl hbz (vp_in_lit (by decide) (by decide)) (by decide) eva dL_law_381 ?_
      refine x_callV C cl_X9_minute kmL_56 (ci := 8) (b := 0) (As := [.int va]) (rest := []) rfl h0 (p_X9_minute_2 u va hl_va hh_va) rfl rfl (Nat.le_of_ble_eq_true rfl) ⟨Nat.le_of_ble_eq_true rfl, Nat.le_of_ble_eq_true rfl⟩ ⟨Nat.le_of_ble_eq_true rfl, Nat.le_of_ble_eq_true rfl⟩ dL_law_382 ?_
      refine x_norm (st2 := [.int (-1000000002 : Int32)]) (kc2 := 157) (ks2 := 5325) rfl rfl rfl rfl rfl ?_
      refine x_aload_n C 1 dL_law_385 rfl rfl ?_
      refine x_aload_n C 3 dL_law_386 rfl rfl ?_
      refine x_iload_n C 0 dL_law_387 rfl rfl ?_
      refine x_iconst (v := (1 : Int32)) C dL_law_388 (by decide) ?_
      refine x_iadd C dL_law_389 ?_
      refine x_eqi (w := (1 : Int32)) (by decide) ?_
      refine x_sld (v := va) C 1 hX hbl hbz (vp_in_lit (by decide) (by decide)) (by decide) eva dL_law_390 ?_
      have g134 := h134
      refine x_callV C cl_X10_minute kmL_59 (ci := 9) (b := 134) (As := [.int va]) (rest := [.int (-1000000002 : Int32)]) rfl g134 (p_X10_minute_2 u va hl_va hh_va) rfl rfl (Nat.le_of_ble_eq_true rfl) ⟨Nat.le_of_ble_eq_true rfl, Nat.le_of_ble_eq_true rfl⟩ ⟨Nat.le_of_ble_eq_true rfl, Nat.le_of_ble_eq_true rfl⟩ dL_law_391 ?_
      refine x_norm (st2 := [.int (-1000000002 : Int32), .int (-1000000002 : Int32)]) (kc2 := 157) (ks2 := 5325) rfl rfl rfl rfl rfl ?_
      refine x_icmp_eq_t C 767 dL_law_394 (by decide) rfl ?_
      exact kend _
set_option maxRecDepth 20000 in
theorem lc_anew {p : Program} {l : Launch} {e : Env} {s : State} {m : MethodId} {below : List Frame} {meth : Method} {c : Code} {G : GT} {z b : Nat} {xs : Nat → Int32} {u : HpT} (C : Cx p s m #[Value.ref b] c G RL cL_law 4 z) (hX : va_X b 3 xs s s.heap) (hbl : b < s.heap.size) (hbz : b < z) (hF : Fresh G z u) (kend : ∀ u2 : HpT, Xw p l e room_1 s m #[Value.ref b] below meth c G z 4 (lw_Z below #[Value.ref b] s) 767 [(3, .int (0 : Int32)), (2, .ref (z + 134)), (1, .ref (z + 0)), (0, .ref b)] [] u2 157 157 5325) : Xw p l e room_1 s m #[Value.ref b] below meth c G z 4 (lw_Z below #[Value.ref b] s) 399 [(3, .int (0 : Int32)), (2, .ref (z + 134)), (1, .ref (z + 0)), (0, .ref b)] [] u 157 157 5325 := by
  obtain ⟨h0, h1, h2, h3, h4, h5, h6, h98, h99, h101, h106, h109, h112, h119, h126, h127, h128, h129, h130, h131, h132, h133, h134, h135, h146, h154, h155, h156⟩ := hF
  refine x_aload_n C 2 dL_law_399 rfl rfl ?_
  refine x_callV C cl_X9_anew kmL_60 (ci := 8) (b := 0) (As := []) (rest := []) rfl h0 (p_X9_anew_0 u h0 h112) rfl rfl (Nat.le_of_ble_eq_true rfl) ⟨Nat.le_of_ble_eq_true rfl, Nat.le_of_ble_eq_true rfl⟩ ⟨Nat.le_of_ble_eq_true rfl, Nat.le_of_ble_eq_true rfl⟩ dL_law_400 ?_
  refine x_norm (st2 := [.int (-1000000003 : Int32)]) (kc2 := 157) (ks2 := 5325) rfl rfl rfl rfl rfl ?_
  refine x_aload_n C 1 dL_law_403 rfl rfl ?_
  have g134 := h134
  refine x_callV C cl_X10_anew kmL_63 (ci := 9) (b := 134) (As := []) (rest := [.int (-1000000003 : Int32)]) rfl g134 (p_X10_anew_0 u g134) rfl rfl (Nat.le_of_ble_eq_true rfl) ⟨Nat.le_of_ble_eq_true rfl, Nat.le_of_ble_eq_true rfl⟩ ⟨Nat.le_of_ble_eq_true rfl, Nat.le_of_ble_eq_true rfl⟩ dL_law_404 ?_
  refine x_norm (st2 := [.int (-1000000003 : Int32), .int (-1000000003 : Int32)]) (kc2 := 157) (ks2 := 5325) rfl rfl rfl rfl rfl ?_
  refine x_icmp_eq_t C 767 dL_law_407 (by decide) rfl ?_
  exact kend _
set_option maxRecDepth 20000 in
theorem lc_drift {p : Program} {l : Launch} {e : Env} {s : State} {m : MethodId} {below : List Frame} {meth : Method} {c : Code} {G : GT} {z b : Nat} {xs : Nat → Int32} {u : HpT} (C : Cx p s m #[Value.ref b] c G RL cL_law 4 z) (hX : va_X b 3 xs s s.heap) (hbl : b < s.heap.size) (hbz : b < z) (hF : Fresh G z u) (kend : ∀ u2 : HpT, Xw p l e room_1 s m #[Value.ref b] below meth c G z 4 (lw_Z below #[Value.ref b] s) 767 [(3, .int (0 : Int32)), (2, .ref (z + 134)), (1, .ref (z + 0)), (0, .ref b)] [] u2 157 157 5325) : Xw p l e room_1 s m #[Value.ref b] below meth c G z 4 (lw_Z below #[Value.ref b] s) 412 [(3, .int (0 : Int32)), (2, .ref (z + 134)), (1, .ref (z + 0)), (0, .ref b)] [] u 157 157 5325 := by
  obtain ⟨h0, h1, h2, h3, h4, h5, h6, h98, h99, h101, h106, h109, h112, h119, h126, h127, h128, h129, h130, h131, h132, h133, h134, h135, h146, h154, h155, h156⟩ := hF
  obtain ⟨va, eva⟩ : ∃ w : Int32, xs 1 = w := ⟨_, rfl⟩
  have hl_va : -2147483648 ≤ va.toInt := Int32.le_toInt va
  have hh_va : va.toInt ≤ 2147483647 := Int32.toInt_le va
  rcases (by omega : va.toInt < 1 ∨ 1 ≤ va.toInt) with q | q
  · have hh_va : va.toInt ≤ 0 := by omega
    refine x_aload_n C 2 dL_law_412 rfl rfl ?_
    refine x_aload_n C 3 dL_law_413 rfl rfl ?_
    refine x_iload_n C 0 dL_law_414 rfl rfl ?_
    refine x_iconst (v := (1 : Int32)) C dL_law_415 (by decide) ?_
    refine x_iadd C dL_law_416 ?_
    refine x_eqi (w := (1 : Int32)) (by decide) ?_
    refine x_sld (v := va) C 1 hX hbl hbz (vp_in_lit (by decide) (by decide)) (by decide) eva dL_law_417 ?_
    refine x_callV C cl_X9_drift kmL_64 (ci := 8) (b := 0) (As := [.int va]) (rest := []) rfl h0 (p_X9_drift_0 u va hl_va hh_va) rfl rfl (Nat.le_of_ble_eq_true rfl) ⟨Nat.le_of_ble_eq_true rfl, Nat.le_of_ble_eq_true rfl⟩ ⟨Nat.le_of_ble_eq_true rfl, Nat.le_of_ble_eq_true rfl⟩ dL_law_418 ?_
    refine x_norm (st2 := [.int (-1000000002 : Int32)]) (kc2 := 157) (ks2 := 5325) rfl rfl rfl rfl rfl ?_
    refine x_aload_n C 1 dL_law_421 rfl rfl ?_
    refine x_aload_n C 3 dL_law_422 rfl rfl ?_
    refine x_iload_n C 0 dL_law_423 rfl rfl ?_
    refine x_iconst (v := (1 : Int32)) C dL_law_424 (by decide) ?_
    refine x_iadd C dL_law_425 ?_
    refine x_eqi (w := (1 : Int32)) (by decide) ?_
    refine x_sld (v := va) C 1 hX hbl hbz (vp_in_lit (by decide) (by decide)) (by decide) eva dL_law_426 ?_
    have g134 := h134
    refine x_callV C cl_X10_drift kmL_67 (ci := 9) (b := 134) (As := [.int va]) (rest := [.int (-1000000002 : Int32)]) rfl g134 (p_X10_drift_0 u va hl_va hh_va) rfl rfl (Nat.le_of_ble_eq_true rfl) ⟨Nat.le_of_ble_eq_true rfl, Nat.le_of_ble_eq_true rfl⟩ ⟨Nat.le_of_ble_eq_true rfl, Nat.le_of_ble_eq_true rfl⟩ dL_law_427 ?_
    refine x_norm (st2 := [.int (-1000000002 : Int32), .int (-1000000002 : Int32)]) (kc2 := 157) (ks2 := 5325) rfl rfl rfl rfl rfl ?_
    refine x_icmp_eq_t C 767 dL_law_430 (by decide) rfl ?_
    exact kend _
  · have hl_va : 1 ≤ va.toInt := by omega
    rcases (by omega : va.toInt < 31 ∨ 31 ≤ va.toInt) with q | q
    · have hh_va : va.toInt ≤ 30 := by omega
      refine x_aload_n C 2 dL_law_412 rfl rfl ?_
      refine x_aload_n C 3 dL_law_413 rfl rfl ?_
      refine x_iload_n C 0 dL_law_414 rfl rfl ?_
      refine x_iconst (v := (1 : Int32)) C dL_law_415 (by decide) ?_
      refine x_iadd C dL_law_416 ?_
      refine x_eqi (w := (1 : Int32)) (by decide) ?_
      refine x_sld (v := va) C 1 hX hbl hbz (vp_in_lit (by decide) (by decide)) (by decide) eva dL_law_417 ?_
      refine x_callV C cl_X9_drift kmL_64 (ci := 8) (b := 0) (As := [.int va]) (rest := []) rfl h0 (p_X9_drift_1 u va hl_va hh_va h0 h112) rfl rfl (Nat.le_of_ble_eq_true rfl) ⟨Nat.le_of_ble_eq_true rfl, Nat.le_of_ble_eq_true rfl⟩ ⟨Nat.le_of_ble_eq_true rfl, Nat.le_of_ble_eq_true rfl⟩ dL_law_418 ?_
      refine x_norm (st2 := [.int (-1000000003 : Int32)]) (kc2 := 157) (ks2 := 5325) rfl rfl rfl rfl rfl ?_
      refine x_aload_n C 1 dL_law_421 rfl rfl ?_
      refine x_aload_n C 3 dL_law_422 rfl rfl ?_
      refine x_iload_n C 0 dL_law_423 rfl rfl ?_
      refine x_iconst (v := (1 : Int32)) C dL_law_424 (by decide) ?_
      refine x_iadd C dL_law_425 ?_
      refine x_eqi (w := (1 : Int32)) (by decide) ?_
      refine x_sld (v := va) C 1 hX hbl hbz (vp_in_lit (by decide) (by decide)) (by decide) eva dL_law_426 ?_
      have g134 := h134
      refine x_callV C cl_X10_drift kmL_67 (ci := 9) (b := 134) (As := [.int va]) (rest := [.int (-1000000003 : Int32)]) rfl g134 (p_X10_drift_1 u va hl_va hh_va g134) rfl rfl (Nat.le_of_ble_eq_true rfl) ⟨Nat.le_of_ble_eq_true rfl, Nat.le_of_ble_eq_true rfl⟩ ⟨Nat.le_of_ble_eq_true rfl, Nat.le_of_ble_eq_true rfl⟩ dL_law_427 ?_
      refine x_norm (st2 := [.int (-1000000003 : Int32), .int (-1000000003 : Int32)]) (kc2 := 157) (ks2 := 5325) rfl rfl rfl rfl rfl ?_
      refine x_icmp_eq_t C 767 dL_law_430 (by decide) rfl ?_
      exact kend _
    · have hl_va : 31 ≤ va.toInt := by omega
      refine x_aload_n C 2 dL_law_412 rfl rfl ?_
      refine x_aload_n C 3 dL_law_413 rfl rfl ?_
      refine x_iload_n C 0 dL_law_414 rfl rfl ?_
      refine x_iconst (v := (1 : Int32)) C dL_law_415 (by decide) ?_
      refine x_iadd C dL_law_416 ?_
      refine x_eqi (w := (1 : Int32)) (by decide) ?_
      refine x_sld (v := va) C 1 hX hbl hbz (vp_in_lit (by decide) (by decide)) (by decide) eva dL_law_417 ?_
      refine x_callV C cl_X9_drift kmL_64 (ci := 8) (b := 0) (As := [.int va]) (rest := []) rfl h0 (p_X9_drift_2 u va hl_va hh_va) rfl rfl (Nat.le_of_ble_eq_true rfl) ⟨Nat.le_of_ble_eq_true rfl, Nat.le_of_ble_eq_true rfl⟩ ⟨Nat.le_of_ble_eq_true rfl, Nat.le_of_ble_eq_true rfl⟩ dL_law_418 ?_
      refine x_norm (st2 := [.int (-1000000002 : Int32)]) (kc2 := 157) (ks2 := 5325) rfl rfl rfl rfl rfl ?_
      refine x_aload_n C 1 dL_law_421 rfl rfl ?_
      refine x_aload_n C 3 dL_law_422 rfl rfl ?_
      refine x_iload_n C 0 dL_law_423 rfl rfl ?_
      refine x_iconst (v := (1 : Int32)) C dL_law_424 (by decide) ?_
      refine x_iadd C dL_law_425 ?_
      refine x_eqi (w := (1 : Int32)) (by decide) ?_
      refine x_sld (v := va) C 1 hX hbl hbz (vp_in_lit (by decide) (by decide)) (by decide) eva dL_law_426 ?_
      have g134 := h134
      refine x_callV C cl_X10_drift kmL_67 (ci := 9) (b := 134) (As := [.int va]) (rest := [.int (-1000000002 : Int32)]) rfl g134 (p_X10_drift_2 u va hl_va hh_va) rfl rfl (Nat.le_of_ble_eq_true rfl) ⟨Nat.le_of_ble_eq_true rfl, Nat.le_of_ble_eq_true rfl⟩ ⟨Nat.le_of_ble_eq_true rfl, Nat.le_of_ble_eq_true rfl⟩ dL_law_427 ?_
      refine x_norm (st2 := [.int (-1000000002 : Int32), .int (-1000000002 : Int32)]) (kc2 := 157) (ks2 := 5325) rfl rfl rfl rfl rfl ?_
      refine x_icmp_eq_t C 767 dL_law_430 (by decide) rfl ?_
      exact kend _
set_option maxRecDepth 20000 in
theorem lc_undo {p : Program} {l : Launch} {e : Env} {s : State} {m : MethodId} {below : List Frame} {meth : Method} {c : Code} {G : GT} {z b : Nat} {xs : Nat → Int32} {u : HpT} (C : Cx p s m #[Value.ref b] c G RL cL_law 4 z) (hX : va_X b 3 xs s s.heap) (hbl : b < s.heap.size) (hbz : b < z) (hF : Fresh G z u) (kend : ∀ u2 : HpT, Xw p l e room_1 s m #[Value.ref b] below meth c G z 4 (lw_Z below #[Value.ref b] s) 767 [(3, .int (0 : Int32)), (2, .ref (z + 134)), (1, .ref (z + 0)), (0, .ref b)] [] u2 157 157 5325) : Xw p l e room_1 s m #[Value.ref b] below meth c G z 4 (lw_Z below #[Value.ref b] s) 435 [(3, .int (0 : Int32)), (2, .ref (z + 134)), (1, .ref (z + 0)), (0, .ref b)] [] u 157 157 5325 := by
  obtain ⟨h0, h1, h2, h3, h4, h5, h6, h98, h99, h101, h106, h109, h112, h119, h126, h127, h128, h129, h130, h131, h132, h133, h134, h135, h146, h154, h155, h156⟩ := hF
  obtain ⟨va, eva⟩ : ∃ w : Int32, xs 1 = w := ⟨_, rfl⟩
  have hl_va : -2147483648 ≤ va.toInt := Int32.le_toInt va
  have hh_va : va.toInt ≤ 2147483647 := Int32.toInt_le va
  rcases (by omega : va.toInt < 1 ∨ 1 ≤ va.toInt) with q | q
  · have hh_va : va.toInt ≤ 0 := by omega
    refine x_aload_n C 2 dL_law_435 rfl rfl ?_
    refine x_aload_n C 3 dL_law_436 rfl rfl ?_
    refine x_iload_n C 0 dL_law_437 rfl rfl ?_
    refine x_iconst (v := (1 : Int32)) C dL_law_438 (by decide) ?_
    refine x_iadd C dL_law_439 ?_
    refine x_eqi (w := (1 : Int32)) (by decide) ?_
    refine x_sld (v := va) C 1 hX hbl hbz (vp_in_lit (by decide) (by decide)) (by decide) eva dL_law_440 ?_
    refine x_callV C cl_X9_undo kmL_68 (ci := 8) (b := 0) (As := [.int va]) (rest := []) rfl h0 (p_X9_undo_0 u va hl_va hh_va) rfl rfl (Nat.le_of_ble_eq_true rfl) ⟨Nat.le_of_ble_eq_true rfl, Nat.le_of_ble_eq_true rfl⟩ ⟨Nat.le_of_ble_eq_true rfl, Nat.le_of_ble_eq_true rfl⟩ dL_law_441 ?_
    refine x_norm (st2 := [.int (-1000000002 : Int32)]) (kc2 := 157) (ks2 := 5325) rfl rfl rfl rfl rfl ?_
    refine x_aload_n C 1 dL_law_444 rfl rfl ?_
    refine x_aload_n C 3 dL_law_445 rfl rfl ?_
    refine x_iload_n C 0 dL_law_446 rfl rfl ?_
    refine x_iconst (v := (1 : Int32)) C dL_law_447 (by decide) ?_
    refine x_iadd C dL_law_448 ?_
    refine x_eqi (w := (1 : Int32)) (by decide) ?_
    refine x_sld (v := va) C 1 hX hbl hbz (vp_in_lit (by decide) (by decide)) (by decide) eva dL_law_449 ?_
    have g134 := h134
    refine x_callV C cl_X10_undo kmL_71 (ci := 9) (b := 134) (As := [.int va]) (rest := [.int (-1000000002 : Int32)]) rfl g134 (p_X10_undo_0 u va hl_va hh_va) rfl rfl (Nat.le_of_ble_eq_true rfl) ⟨Nat.le_of_ble_eq_true rfl, Nat.le_of_ble_eq_true rfl⟩ ⟨Nat.le_of_ble_eq_true rfl, Nat.le_of_ble_eq_true rfl⟩ dL_law_450 ?_
    refine x_norm (st2 := [.int (-1000000002 : Int32), .int (-1000000002 : Int32)]) (kc2 := 157) (ks2 := 5325) rfl rfl rfl rfl rfl ?_
    refine x_icmp_eq_t C 767 dL_law_453 (by decide) rfl ?_
    exact kend _
  · have hl_va : 1 ≤ va.toInt := by omega
    rcases (by omega : va.toInt < 31 ∨ 31 ≤ va.toInt) with q | q
    · have hh_va : va.toInt ≤ 30 := by omega
      refine x_aload_n C 2 dL_law_435 rfl rfl ?_
      refine x_aload_n C 3 dL_law_436 rfl rfl ?_
      refine x_iload_n C 0 dL_law_437 rfl rfl ?_
      refine x_iconst (v := (1 : Int32)) C dL_law_438 (by decide) ?_
      refine x_iadd C dL_law_439 ?_
      refine x_eqi (w := (1 : Int32)) (by decide) ?_
      refine x_sld (v := va) C 1 hX hbl hbz (vp_in_lit (by decide) (by decide)) (by decide) eva dL_law_440 ?_
      refine x_callV C cl_X9_undo kmL_68 (ci := 8) (b := 0) (As := [.int va]) (rest := []) rfl h0 (p_X9_undo_1 u va hl_va hh_va h0 h6) rfl rfl (Nat.le_of_ble_eq_true rfl) ⟨Nat.le_of_ble_eq_true rfl, Nat.le_of_ble_eq_true rfl⟩ ⟨Nat.le_of_ble_eq_true rfl, Nat.le_of_ble_eq_true rfl⟩ dL_law_441 ?_
      refine x_norm (st2 := [.int (-1000000003 : Int32)]) (kc2 := 157) (ks2 := 5325) rfl rfl rfl rfl rfl ?_
      refine x_aload_n C 1 dL_law_444 rfl rfl ?_
      refine x_aload_n C 3 dL_law_445 rfl rfl ?_
      refine x_iload_n C 0 dL_law_446 rfl rfl ?_
      refine x_iconst (v := (1 : Int32)) C dL_law_447 (by decide) ?_
      refine x_iadd C dL_law_448 ?_
      refine x_eqi (w := (1 : Int32)) (by decide) ?_
      refine x_sld (v := va) C 1 hX hbl hbz (vp_in_lit (by decide) (by decide)) (by decide) eva dL_law_449 ?_
      have g134 := h134
      refine x_callV C cl_X10_undo kmL_71 (ci := 9) (b := 134) (As := [.int va]) (rest := [.int (-1000000003 : Int32)]) rfl g134 (p_X10_undo_1 u va hl_va hh_va g134) rfl rfl (Nat.le_of_ble_eq_true rfl) ⟨Nat.le_of_ble_eq_true rfl, Nat.le_of_ble_eq_true rfl⟩ ⟨Nat.le_of_ble_eq_true rfl, Nat.le_of_ble_eq_true rfl⟩ dL_law_450 ?_
      refine x_norm (st2 := [.int (-1000000003 : Int32), .int (-1000000003 : Int32)]) (kc2 := 157) (ks2 := 5325) rfl rfl rfl rfl rfl ?_
      refine x_icmp_eq_t C 767 dL_law_453 (by decide) rfl ?_
      exact kend _
    · have hl_va : 31 ≤ va.toInt := by omega
      refine x_aload_n C 2 dL_law_435 rfl rfl ?_
      refine x_aload_n C 3 dL_law_436 rfl rfl ?_
      refine x_iload_n C 0 dL_law_437 rfl rfl ?_
      refine x_iconst (v := (1 : Int32)) C dL_law_438 (by decide) ?_
      refine x_iadd C dL_law_439 ?_
      refine x_eqi (w := (1 : Int32)) (by decide) ?_
      refine x_sld (v := va) C 1 hX hbl hbz (vp_in_lit (by decide) (by decide)) (by decide) eva dL_law_440 ?_
      refine x_callV C cl_X9_undo kmL_68 (ci := 8) (b := 0) (As := [.int va]) (rest := []) rfl h0 (p_X9_undo_2 u va hl_va hh_va) rfl rfl (Nat.le_of_ble_eq_true rfl) ⟨Nat.le_of_ble_eq_true rfl, Nat.le_of_ble_eq_true rfl⟩ ⟨Nat.le_of_ble_eq_true rfl, Nat.le_of_ble_eq_true rfl⟩ dL_law_441 ?_
      refine x_norm (st2 := [.int (-1000000002 : Int32)]) (kc2 := 157) (ks2 := 5325) rfl rfl rfl rfl rfl ?_
      refine x_aload_n C 1 dL_law_444 rfl rfl ?_
      refine x_aload_n C 3 dL_law_445 rfl rfl ?_
      refine x_iload_n C 0 dL_law_446 rfl rfl ?_
      refine x_iconst (v := (1 : Int32)) C dL_law_447 (by decide) ?_
      refine x_iadd C dL_law_448 ?_
      refine x_eqi (w := (1 : Int32)) (by decide) ?_
      refine x_sld (v := va) C 1 hX hbl hbz (vp_in_lit (by decide) (by decide)) (by decide) eva dL_law_449 ?_
      have g134 := h134
      refine x_callV C cl_X10_undo kmL_71 (ci := 9) (b := 134) (As := [.int va]) (rest := [.int (-1000000002 : Int32)]) rfl g134 (p_X10_undo_2 u va hl_va hh_va) rfl rfl (Nat.le_of_ble_eq_true rfl) ⟨Nat.le_of_ble_eq_true rfl, Nat.le_of_ble_eq_true rfl⟩ ⟨Nat.le_of_ble_eq_true rfl, Nat.le_of_ble_eq_true rfl⟩ dL_law_450 ?_
      refine x_norm (st2 := [.int (-1000000002 : Int32), .int (-1000000002 : Int32)]) (kc2 := 157) (ks2 := 5325) rfl rfl rfl rfl rfl ?_
      refine x_icmp_eq_t C 767 dL_law_453 (by decide) rfl ?_
      exact kend _
set_option maxRecDepth 20000 in
theorem lc_stay {p : Program} {l : Launch} {e : Env} {s : State} {m : MethodId} {below : List Frame} {meth : Method} {c : Code} {G : GT} {z b : Nat} {xs : Nat → Int32} {u : HpT} (C : Cx p s m #[Value.ref b] c G RL cL_law 4 z) (hX : va_X b 3 xs s s.heap) (hbl : b < s.heap.size) (hbz : b < z) (hF : Fresh G z u) (kend : ∀ u2 : HpT, Xw p l e room_1 s m #[Value.ref b] below meth c G z 4 (lw_Z below #[Value.ref b] s) 767 [(3, .int (0 : Int32)), (2, .ref (z + 134)), (1, .ref (z + 0)), (0, .ref b)] [] u2 157 157 5325) : Xw p l e room_1 s m #[Value.ref b] below meth c G z 4 (lw_Z below #[Value.ref b] s) 458 [(3, .int (0 : Int32)), (2, .ref (z + 134)), (1, .ref (z + 0)), (0, .ref b)] [] u 157 157 5325 := by
  obtain ⟨h0, h1, h2, h3, h4, h5, h6, h98, h99, h101, h106, h109, h112, h119, h126, h127, h128, h129, h130, h131, h132, h133, h134, h135, h146, h154, h155, h156⟩ := hF
  obtain ⟨va, eva⟩ : ∃ w : Int32, xs 1 = w := ⟨_, rfl⟩
  have hl_va : -2147483648 ≤ va.toInt := Int32.le_toInt va
  have hh_va : va.toInt ≤ 2147483647 := Int32.toInt_le va
  obtain ⟨vb, evb⟩ : ∃ w : Int32, xs 2 = w := ⟨_, rfl⟩
  have hl_vb : -2147483648 ≤ vb.toInt := Int32.le_toInt vb
  have hh_vb : vb.toInt ≤ 2147483647 := Int32.toInt_le vb
  rcases (by omega : va.toInt < 0 ∨ 0 ≤ va.toInt) with q | q
  · have hh_va : va.toInt ≤ -1 := by omega
    refine x_aload_n C 2 dL_law_458 rfl rfl ?_
    refine x_aload_n C 3 dL_law_459 rfl rfl ?_
    refine x_iload_n C 0 dL_law_460 rfl rfl ?_
    refine x_iconst (v := (1 : Int32)) C dL_law_461 (by decide) ?_
    refine x_iadd C dL_law_462 ?_
    refine x_eqi (w := (1 : Int32)) (by decide) ?_
    refine x_sld (v := va) C 1 hX hbl hbz (vp_in_lit (by decide) (by decide)) (by decide) eva dL_law_463 ?_
    refine x_aload_n C 3 dL_law_464 rfl rfl ?_
    refine x_iload_n C 0 dL_law_465 rfl rfl ?_
    refine x_iconst (v := (2 : Int32)) C dL_law_466 (by decide) ?_
    refine x_iadd C dL_law_467 ?_
    refine x_eqi (w := (2 : Int32)) (by decide) ?_
    refine x_sld (v := vb) C 2 hX hbl hbz (vp_in_lit (by decide) (by decide)) (by decide) evb dL_law_468 ?_
    refine x_callV C cl_X9_stay kmL_72 (ci := 8) (b := 0) (As := [.int va, .int vb]) (rest := []) rfl h0 (p_X9_stay_0 u va hl_va hh_va vb hl_vb hh_vb h0 h112) rfl rfl (Nat.le_of_ble_eq_true rfl) ⟨Nat.le_of_ble_eq_true rfl, Nat.le_of_ble_eq_true rfl⟩ ⟨Nat.le_of_ble_eq_true rfl, Nat.le_of_ble_eq_true rfl⟩ dL_law_469 ?_
    refine x_norm (st2 := [.int (-1000000001 : Int32)]) (kc2 := 157) (ks2 := 5325) rfl rfl rfl rfl rfl ?_
    refine x_aload_n C 1 dL_law_472 rfl rfl ?_
    refine x_aload_n C 3 dL_law_473 rfl rfl ?_
    refine x_iload_n C 0 dL_law_474 rfl rfl ?_
    refine x_iconst (v := (1 : Int32)) C dL_law_475 (by decide) ?_
    refine x_iadd C dL_law_476 ?_
    refine x_eqi (w := (1 : Int32)) (by decide) ?_
    refine x_sld (v := va) C 1 hX hbl hbz (vp_in_lit (by decide) (by decide)) (by decide) eva dL_law_477 ?_
    refine x_aload_n C 3 dL_law_478 rfl rfl ?_
    refine x_iload_n C 0 dL_law_479 rfl rfl ?_
    refine x_iconst (v := (2 : Int32)) C dL_law_480 (by decide) ?_
    refine x_iadd C dL_law_481 ?_
    refine x_eqi (w := (2 : Int32)) (by decide) ?_
    refine x_sld (v := vb) C 2 hX hbl hbz (vp_in_lit (by decide) (by decide)) (by decide) evb dL_law_482 ?_
    have g134 := h134
    refine x_callV C cl_X10_stay kmL_75 (ci := 9) (b := 134) (As := [.int va, .int vb]) (rest := [.int (-1000000001 : Int32)]) rfl g134 (p_X10_stay_0 u va hl_va hh_va vb hl_vb hh_vb g134) rfl rfl (Nat.le_of_ble_eq_true rfl) ⟨Nat.le_of_ble_eq_true rfl, Nat.le_of_ble_eq_true rfl⟩ ⟨Nat.le_of_ble_eq_true rfl, Nat.le_of_ble_eq_true rfl⟩ dL_law_483 ?_
    refine x_norm (st2 := [.int (-1000000001 : Int32), .int (-1000000001 : Int32)]) (kc2 := 157) (ks2 := 5325) rfl rfl rfl rfl rfl ?_
    refine x_icmp_eq_t C 767 dL_law_486 (by decide) rfl ?_
    exact kend _
  · have hl_va : 0 ≤ va.toInt := by omega
    refine x_aload_n C 2 dL_law_458 rfl rfl ?_
    refine x_aload_n C 3 dL_law_459 rfl rfl ?_
    refine x_iload_n C 0 dL_law_460 rfl rfl ?_
    refine x_iconst (v := (1 : Int32)) C dL_law_461 (by decide) ?_
    refine x_iadd C dL_law_462 ?_
    refine x_eqi (w := (1 : Int32)) (by decide) ?_
    refine x_sld (v := va) C 1 hX hbl hbz (vp_in_lit (by decide) (by decide)) (by decide) eva dL_law_463 ?_
    refine x_aload_n C 3 dL_law_464 rfl rfl ?_
    refine x_iload_n C 0 dL_law_465 rfl rfl ?_
    refine x_iconst (v := (2 : Int32)) C dL_law_466 (by decide) ?_
    refine x_iadd C dL_law_467 ?_
    refine x_eqi (w := (2 : Int32)) (by decide) ?_
    refine x_sld (v := vb) C 2 hX hbl hbz (vp_in_lit (by decide) (by decide)) (by decide) evb dL_law_468 ?_
    refine x_callV C cl_X9_stay kmL_72 (ci := 8) (b := 0) (As := [.int va, .int vb]) (rest := []) rfl h0 (p_X9_stay_1 u va hl_va hh_va vb hl_vb hh_vb h0 h112) rfl rfl (Nat.le_of_ble_eq_true rfl) ⟨Nat.le_of_ble_eq_true rfl, Nat.le_of_ble_eq_true rfl⟩ ⟨Nat.le_of_ble_eq_true rfl, Nat.le_of_ble_eq_true rfl⟩ dL_law_469 ?_
    refine x_norm (st2 := [.int (-1000000001 : Int32)]) (kc2 := 157) (ks2 := 5325) rfl rfl rfl rfl rfl ?_
    refine x_aload_n C 1 dL_law_472 rfl rfl ?_
    refine x_aload_n C 3 dL_law_473 rfl rfl ?_
    refine x_iload_n C 0 dL_law_474 rfl rfl ?_
    refine x_iconst (v := (1 : Int32)) C dL_law_475 (by decide) ?_
    refine x_iadd C dL_law_476 ?_
    refine x_eqi (w := (1 : Int32)) (by decide) ?_
    refine x_sld (v := va) C 1 hX hbl hbz (vp_in_lit (by decide) (by decide)) (by decide) eva dL_law_477 ?_
    refine x_aload_n C 3 dL_law_478 rfl rfl ?_
    refine x_iload_n C 0 dL_law_479 rfl rfl ?_
    refine x_iconst (v := (2 : Int32)) C dL_law_480 (by decide) ?_
    refine x_iadd C dL_law_481 ?_
    refine x_eqi (w := (2 : Int32)) (by decide) ?_
    refine x_sld (v := vb) C 2 hX hbl hbz (vp_in_lit (by decide) (by decide)) (by decide) evb dL_law_482 ?_
    have g134 := h134
    refine x_callV C cl_X10_stay kmL_75 (ci := 9) (b := 134) (As := [.int va, .int vb]) (rest := [.int (-1000000001 : Int32)]) rfl g134 (p_X10_stay_1 u va hl_va hh_va vb hl_vb hh_vb g134) rfl rfl (Nat.le_of_ble_eq_true rfl) ⟨Nat.le_of_ble_eq_true rfl, Nat.le_of_ble_eq_true rfl⟩ ⟨Nat.le_of_ble_eq_true rfl, Nat.le_of_ble_eq_true rfl⟩ dL_law_483 ?_
    refine x_norm (st2 := [.int (-1000000001 : Int32), .int (-1000000001 : Int32)]) (kc2 := 157) (ks2 := 5325) rfl rfl rfl rfl rfl ?_
    refine x_icmp_eq_t C 767 dL_law_486 (by decide) rfl ?_
    exact kend _
set_option maxRecDepth 20000 in
theorem lc_talk {p : Program} {l : Launch} {e : Env} {s : State} {m : MethodId} {below : List Frame} {meth : Method} {c : Code} {G : GT} {z b : Nat} {xs : Nat → Int32} {u : HpT} (C : Cx p s m #[Value.ref b] c G RL cL_law 4 z) (hX : va_X b 3 xs s s.heap) (hbl : b < s.heap.size) (hbz : b < z) (hF : Fresh G z u) (kend : ∀ u2 : HpT, Xw p l e room_1 s m #[Value.ref b] below meth c G z 4 (lw_Z below #[Value.ref b] s) 767 [(3, .int (0 : Int32)), (2, .ref (z + 134)), (1, .ref (z + 0)), (0, .ref b)] [] u2 157 157 5325) : Xw p l e room_1 s m #[Value.ref b] below meth c G z 4 (lw_Z below #[Value.ref b] s) 491 [(3, .int (0 : Int32)), (2, .ref (z + 134)), (1, .ref (z + 0)), (0, .ref b)] [] u 157 157 5325 := by
  obtain ⟨h0, h1, h2, h3, h4, h5, h6, h98, h99, h101, h106, h109, h112, h119, h126, h127, h128, h129, h130, h131, h132, h133, h134, h135, h146, h154, h155, h156⟩ := hF
  obtain ⟨va, eva⟩ : ∃ w : Int32, xs 1 = w := ⟨_, rfl⟩
  have hl_va : -2147483648 ≤ va.toInt := Int32.le_toInt va
  have hh_va : va.toInt ≤ 2147483647 := Int32.toInt_le va
  obtain ⟨vb, evb⟩ : ∃ w : Int32, xs 2 = w := ⟨_, rfl⟩
  have hl_vb : -2147483648 ≤ vb.toInt := Int32.le_toInt vb
  have hh_vb : vb.toInt ≤ 2147483647 := Int32.toInt_le vb
  rcases (by omega : va.toInt < 0 ∨ 0 ≤ va.toInt) with q | q
  · have hh_va : va.toInt ≤ -1 := by omega
    refine x_aload_n C 2 dL_law_491 rfl rfl ?_
    refine x_aload_n C 3 dL_law_492 rfl rfl ?_
    refine x_iload_n C 0 dL_law_493 rfl rfl ?_
    refine x_iconst (v := (1 : Int32)) C dL_law_494 (by decide) ?_
    refine x_iadd C dL_law_495 ?_
    refine x_eqi (w := (1 : Int32)) (by decide) ?_
    refine x_sld (v := va) C 1 hX hbl hbz (vp_in_lit (by decide) (by decide)) (by decide) eva dL_law_496 ?_
    refine x_aload_n C 3 dL_law_497 rfl rfl ?_
    refine x_iload_n C 0 dL_law_498 rfl rfl ?_
    refine x_iconst (v := (2 : Int32)) C dL_law_499 (by decide) ?_
    refine x_iadd C dL_law_500 ?_
    refine x_eqi (w := (2 : Int32)) (by decide) ?_
    refine x_sld (v := vb) C 2 hX hbl hbz (vp_in_lit (by decide) (by decide)) (by decide) evb dL_law_501 ?_
    refine x_callV C cl_X9_talk kmL_76 (ci := 8) (b := 0) (As := [.int va, .int vb]) (rest := []) rfl h0 (p_X9_talk_0 u va hl_va hh_va vb hl_vb hh_vb h0 h112) rfl rfl (Nat.le_of_ble_eq_true rfl) ⟨Nat.le_of_ble_eq_true rfl, Nat.le_of_ble_eq_true rfl⟩ ⟨Nat.le_of_ble_eq_true rfl, Nat.le_of_ble_eq_true rfl⟩ dL_law_502 ?_
    refine x_norm (st2 := [.int (-1000000001 : Int32)]) (kc2 := 157) (ks2 := 5325) rfl rfl rfl rfl rfl ?_
    refine x_aload_n C 1 dL_law_505 rfl rfl ?_
    refine x_aload_n C 3 dL_law_506 rfl rfl ?_
    refine x_iload_n C 0 dL_law_507 rfl rfl ?_
    refine x_iconst (v := (1 : Int32)) C dL_law_508 (by decide) ?_
    refine x_iadd C dL_law_509 ?_
    refine x_eqi (w := (1 : Int32)) (by decide) ?_
    refine x_sld (v := va) C 1 hX hbl hbz (vp_in_lit (by decide) (by decide)) (by decide) eva dL_law_510 ?_
    refine x_aload_n C 3 dL_law_511 rfl rfl ?_
    refine x_iload_n C 0 dL_law_512 rfl rfl ?_
    refine x_iconst (v := (2 : Int32)) C dL_law_513 (by decide) ?_
    refine x_iadd C dL_law_514 ?_
    refine x_eqi (w := (2 : Int32)) (by decide) ?_
    refine x_sld (v := vb) C 2 hX hbl hbz (vp_in_lit (by decide) (by decide)) (by decide) evb dL_law_515 ?_
    have g134 := h134
    refine x_callV C cl_X10_talk kmL_79 (ci := 9) (b := 134) (As := [.int va, .int vb]) (rest := [.int (-1000000001 : Int32)]) rfl g134 (p_X10_talk_0 u va hl_va hh_va vb hl_vb hh_vb g134) rfl rfl (Nat.le_of_ble_eq_true rfl) ⟨Nat.le_of_ble_eq_true rfl, Nat.le_of_ble_eq_true rfl⟩ ⟨Nat.le_of_ble_eq_true rfl, Nat.le_of_ble_eq_true rfl⟩ dL_law_516 ?_
    refine x_norm (st2 := [.int (-1000000001 : Int32), .int (-1000000001 : Int32)]) (kc2 := 157) (ks2 := 5325) rfl rfl rfl rfl rfl ?_
    refine x_icmp_eq_t C 767 dL_law_519 (by decide) rfl ?_
    exact kend _
  · have hl_va : 0 ≤ va.toInt := by omega
    refine x_aload_n C 2 dL_law_491 rfl rfl ?_
    refine x_aload_n C 3 dL_law_492 rfl rfl ?_
    refine x_iload_n C 0 dL_law_493 rfl rfl ?_
    refine x_iconst (v := (1 : Int32)) C dL_law_494 (by decide) ?_
    refine x_iadd C dL_law_495 ?_
    refine x_eqi (w := (1 : Int32)) (by decide) ?_
    refine x_sld (v := va) C 1 hX hbl hbz (vp_in_lit (by decide) (by decide)) (by decide) eva dL_law_496 ?_
    refine x_aload_n C 3 dL_law_497 rfl rfl ?_
    refine x_iload_n C 0 dL_law_498 rfl rfl ?_
    refine x_iconst (v := (2 : Int32)) C dL_law_499 (by decide) ?_
    refine x_iadd C dL_law_500 ?_
    refine x_eqi (w := (2 : Int32)) (by decide) ?_
    refine x_sld (v := vb) C 2 hX hbl hbz (vp_in_lit (by decide) (by decide)) (by decide) evb dL_law_501 ?_
    refine x_callV C cl_X9_talk kmL_76 (ci := 8) (b := 0) (As := [.int va, .int vb]) (rest := []) rfl h0 (p_X9_talk_1 u va hl_va hh_va vb hl_vb hh_vb h0 h112) rfl rfl (Nat.le_of_ble_eq_true rfl) ⟨Nat.le_of_ble_eq_true rfl, Nat.le_of_ble_eq_true rfl⟩ ⟨Nat.le_of_ble_eq_true rfl, Nat.le_of_ble_eq_true rfl⟩ dL_law_502 ?_
    refine x_norm (st2 := [.int (-1000000001 : Int32)]) (kc2 := 157) (ks2 := 5325) rfl rfl rfl rfl rfl ?_
    refine x_aload_n C 1 dL_law_505 rfl rfl ?_
    refine x_aload_n C 3 dL_law_506 rfl rfl ?_
    refine x_iload_n C 0 dL_law_507 rfl rfl ?_
    refine x_iconst (v := (1 : Int32)) C dL_law_508 (by decide) ?_
    refine x_iadd C dL_law_509 ?_
    refine x_eqi (w := (1 : Int32)) (by decide) ?_
    refine x_sld (v := va) C 1 hX hbl hbz (vp_in_lit (by decide) (by decide)) (by decide) eva dL_law_510 ?_
    refine x_aload_n C 3 dL_law_511 rfl rfl ?_
    refine x_iload_n C 0 dL_law_512 rfl rfl ?_
    refine x_iconst (v := (2 : Int32)) C dL_law_513 (by decide) ?_
    refine x_iadd C dL_law_514 ?_
    refine x_eqi (w := (2 : Int32)) (by decide) ?_
    refine x_sld (v := vb) C 2 hX hbl hbz (vp_in_lit (by decide) (by decide)) (by decide) evb dL_law_515 ?_
    have g134 := h134
    refine x_callV C cl_X10_talk kmL_79 (ci := 9) (b := 134) (As := [.int va, .int vb]) (rest := [.int (-1000000001 : Int32)]) rfl g134 (p_X10_talk_1 u va hl_va hh_va vb hl_vb hh_vb g134) rfl rfl (Nat.le_of_ble_eq_true rfl) ⟨Nat.le_of_ble_eq_true rfl, Nat.le_of_ble_eq_true rfl⟩ ⟨Nat.le_of_ble_eq_true rfl, Nat.le_of_ble_eq_true rfl⟩ dL_law_516 ?_
    refine x_norm (st2 := [.int (-1000000001 : Int32), .int (-1000000001 : Int32)]) (kc2 := 157) (ks2 := 5325) rfl rfl rfl rfl rfl ?_
    refine x_icmp_eq_t C 767 dL_law_519 (by decide) rfl ?_
    exact kend _
