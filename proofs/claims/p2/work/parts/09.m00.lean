def raOf (u : HpT) : Int32 := match u 134 with
  | some (.inr (_, _ :: _ :: .int x :: _)) => x
  | _ => 0
theorem raOf_eq {u : HpT} {a b : Value} {x : Int32} {l : List Value} (h : u 134 = some (.inr (9, a :: b :: .int x :: l))) : raOf u = x := by
  unfold raOf
  rw [h]
def seOf (u : HpT) : Int32 := match u 146 with
  | some (.inl (_, _, .inl f)) => f 4
  | _ => 0
theorem seOf_eq {G : GT} {u : HpT} {f : Nat → Int32} (h : u 146 = some (aI G 25 f)) : seOf u = f 4 := by
  unfold seOf
  rw [h]
theorem x_zastB {p : Program} {l : Launch} {e : Env} {R : Room} {s : State} {m : MethodId} {args : Array Value} {below : List Frame} {meth : Method} {c : Code} {G : GT} {z nL : Nat} {Z : State → Prop} {pc : Nat} {lo : List (Nat × Value)} {st : List Value} {u : HpT} {n kc ks : Nat} {own : String} {cc : ByteArray} (C : Cx p s m args c G own cc nL z) {a N : Nat} {f : Nat → Int32} {i v : Int32} (hu : u a = some (aZ G N f)) (hin : vp_in i N) (d : decode cc pc = .ok (.bastore, 1)) (hb : 0 ≤ v.toInt ∧ v.toInt ≤ 1)
    (kk : Xw p l e R s m args below meth c G z nL Z (pc + 1) lo st (hup u a (aZ G N (upd f i.toNatClampNeg v))) n kc ks) : Xw p l e R s m args below meth c G z nL Z pc lo (.int v :: .int i :: .ref (z + a) :: st) u n kc ks := by
  have hv : vp_nar .boolean v = v := by
    obtain ⟨k, hk, e1, e2⟩ := i_nat hb.1
    have : k = 0 ∨ k = 1 := by omega
    rcases this with rfl | rfl
    · rw [e1]; decide
    · rw [e1]; decide
  exact x_zast C hu hin d (by rw [hv]; exact kk)
theorem now4_g {f : Nat → Int32} : f (4 : Int32).toNatClampNeg = f 4 := congrArg f (by decide)
theorem now4_s {f : Nat → Int32} {v : Int32} : upd f (4 : Int32).toNatClampNeg v 4 = v := by
  rw [show (4 : Int32).toNatClampNeg = 4 by decide, pk_us]
theorem now4_n {f : Nat → Int32} {i v : Int32} (h : i.toInt ≠ 4) (h0 : 0 ≤ i.toInt) : upd f i.toNatClampNeg v 4 = f 4 := by
  obtain ⟨k, hk, e1, e2⟩ := i_nat h0
  rw [e1, nI_clamp hk, pk_un (by omega)]
theorem bits_lt {x : Int32} (h : ¬ x.toInt = 0) : (x &&& (x - 1)).toBitVec.toNat < x.toBitVec.toNat := by
  have h0 : x.toBitVec.toNat ≠ 0 := by
    intro h1
    apply h
    have h2 : x.toBitVec = 0#32 := BitVec.eq_of_toNat_eq (by rw [h1]; rfl)
    rw [show x.toInt = x.toBitVec.toInt from rfl, h2]
    rfl
  have h3 : (x - 1).toBitVec.toNat = x.toBitVec.toNat - 1 := by
    rw [Int32.toBitVec_sub, BitVec.toNat_sub]
    have h4 := x.toBitVec.isLt
    rw [show ((1 : Int32).toBitVec).toNat = 1 from rfl]
    omega
  rw [Int32.toBitVec_and, BitVec.toNat_and]
  have h5 : x.toBitVec.toNat &&& (x - 1).toBitVec.toNat ≤ (x - 1).toBitVec.toNat := Nat.and_le_right
  omega
set_option maxRecDepth 20000 in
set_option maxHeartbeats 2000000 in
theorem tc_X10_in {G : GT} {l : Launch} {z n : Nat} {g : Nat → Int} (uu0 : HpT) (hTz0 : TyN G z g uu0) (a0 : Int32) (a1 : Int32) (a2 : Int32) : Mp G l z yX10_in cX10_in 3 (some .boolean) { frames := 0, cells := 0, slots := 0, locals := 0 } [.int a0, .int a1, .int a2] uu0 n (fun r v => uu0 = v ∧ ∃ x : Int32, r = some (.int x) ∧ 0 ≤ x.toInt ∧ x.toInt ≤ 1 ∧ (x.toInt = 0 ∨ (a1.toInt ≤ a0.toInt ∧ a0.toInt ≤ a2.toInt))) := by
  refine mp_of (by decide +kernel) (Nat.le_of_ble_eq_true rfl) ?_
  intro p e s m below meth c C hr hlk hnm
  have hTy0 : TN G z g uu0 uu0 := TN.rf hTz0
  have J14 : Xw p l e ({ frames := 0, cells := 0, slots := 0, locals := 0 } : Room) s m ([.int a0, .int a1, .int a2] : List Value).toArray below meth c G z 3 (MQ below (Qp G z n (fun r v => uu0 = v ∧ ∃ x : Int32, r = some (.int x) ∧ 0 ≤ x.toInt ∧ x.toInt ≤ 1 ∧ (x.toInt = 0 ∨ (a1.toInt ≤ a0.toInt ∧ a0.toInt ≤ a2.toInt)))) ([.int a0, .int a1, .int a2] : List Value).toArray s 0 0 (zA z)) 14 [(0, .int a0), (1, .int a1), (2, .int a2)] [] uu0 n 0 0 := by
    refine x_iconst (v := (0 : Int32)) C dX10_in_14 (by decide) ?_
    have l_0 : (0 : Int32).toInt = 0 := by decide
    exact x_zretP C hr hlk (Nat.le_refl _) (Nat.le_refl _) dX10_in_15 (i_bool (by omega)) ⟨rfl, (0 : Int32), rfl, by omega⟩
  refine x_iload_n C 0 dX10_in_0 rfl rfl ?_
  refine x_iload_n C 1 dX10_in_1 rfl rfl ?_
  refine x_icmp_lt C 14 dX10_in_2 (by decide) (fun q1 => ?_) (fun q1 => ?_)
  · have rq1 : a0.toInt < a1.toInt := by rw [Int32.lt_iff_toInt_lt] at q1; omega
    exact J14  
  · have rq1 : a0.toInt ≥ a1.toInt := by rw [Int32.lt_iff_toInt_lt] at q1; omega
    refine x_iload_n C 0 dX10_in_5 rfl rfl ?_
    refine x_iload_n C 2 dX10_in_6 rfl rfl ?_
    refine x_icmp_gt C 14 dX10_in_7 (by decide) (fun q2 => ?_) (fun q2 => ?_)
    · have rq2 : a0.toInt > a2.toInt := by rw [Int32.lt_iff_toInt_lt] at q2; omega
      exact J14  
    · have rq2 : a0.toInt ≤ a2.toInt := by rw [Int32.lt_iff_toInt_lt] at q2; omega
      refine x_iconst (v := (1 : Int32)) C dX10_in_10 (by decide) ?_
      refine x_goto C 15 dX10_in_11 (by decide) ?_
      have l_1 : (1 : Int32).toInt = 1 := by decide
      exact x_zretP C hr hlk (Nat.le_refl _) (Nat.le_refl _) dX10_in_15 (i_bool (by omega)) ⟨rfl, (1 : Int32), rfl, by omega⟩
set_option maxRecDepth 20000 in
set_option maxHeartbeats 2000000 in
theorem tc_X10_has {G : GT} {l : Launch} {z n : Nat} {g : Nat → Int} (uu0 : HpT) (hTz0 : TyN G z g uu0) (a0 : Int32) (a1 : Int32) : Mp G l z yX10_has cX10_has 2 (some .boolean) { frames := 0, cells := 0, slots := 0, locals := 0 } [.int a0, .int a1] uu0 n (fun r v => uu0 = v ∧ ∃ x : Int32, r = some (.int x) ∧ 0 ≤ x.toInt ∧ x.toInt ≤ 1) := by
  refine mp_of (by decide +kernel) (Nat.le_of_ble_eq_true rfl) ?_
  intro p e s m below meth c C hr hlk hnm
  have hTy0 : TN G z g uu0 uu0 := TN.rf hTz0
  refine x_iload_n C 0 dX10_has_0 rfl rfl ?_
  refine x_iload_n C 1 dX10_has_1 rfl rfl ?_
  refine x_ishr C dX10_has_2 ?_
  refine x_top (fun w1 ew1 => ?_)
  refine x_iconst (v := (1 : Int32)) C dX10_has_3 (by decide) ?_
  refine x_iand C dX10_has_4 ?_
  have l_1 : (1 : Int32).toInt = 1 := by decide
  refine x_top (fun w2 ew2 => ?_)
  have fw2_0 : 0 ≤ w2.toInt ∧ w2.toInt ≤ (1 : Int32).toInt := by rw [ew2]; exact i_and_r (by omega)
  refine x_iconst (v := (1 : Int32)) C dX10_has_5 (by decide) ?_
  refine x_icmp_ne C 13 dX10_has_6 (by decide) (fun q3 => ?_) (fun q3 => ?_)
  · have rq3 : ¬ w2.toInt = (1 : Int32).toInt := by rw [i_eq_iff] at q3; omega
    refine x_iconst (v := (0 : Int32)) C dX10_has_13 (by decide) ?_
    have l_0 : (0 : Int32).toInt = 0 := by decide
    exact x_zretP C hr hlk (Nat.le_refl _) (Nat.le_refl _) dX10_has_14 (i_bool (by omega)) ⟨rfl, (0 : Int32), rfl, by omega⟩
  · have rq3 : w2.toInt = (1 : Int32).toInt := by rw [i_eq_iff] at q3; omega
    refine x_iconst (v := (1 : Int32)) C dX10_has_9 (by decide) ?_
    refine x_goto C 14 dX10_has_10 (by decide) ?_
    exact x_zretP C hr hlk (Nat.le_refl _) (Nat.le_refl _) dX10_has_14 (i_bool (by omega)) ⟨rfl, (1 : Int32), rfl, by omega⟩
set_option maxRecDepth 20000 in
set_option maxHeartbeats 2000000 in
theorem tc_X10_fault {G : GT} {l : Launch} {z n : Nat} {g : Nat → Int} (uu0 : HpT) (hTz0 : TyN G z g uu0) : Mp G l z yX10_fault cX10_fault 1 (some .int) { frames := 0, cells := 0, slots := 0, locals := 0 } [.ref (z + 134)] uu0 n (fun r v => uu0 = v ∧ ∃ x : Int32, r = some (.int x) ∧ True) := by
  refine mp_of (by decide +kernel) (Nat.le_of_ble_eq_true rfl) ?_
  intro p e s m below meth c C hr hlk hnm
  have hTy0 : TN G z g uu0 uu0 := TN.rf hTz0
  refine x_aload_n C 0 dX10_fault_0 rfl rfl ?_
  obtain ⟨c1_0, c1_2, c1_3, c1_4, c1_5, c1_6, c1_7, c1_8, c1_9, c1_15, c1_16, c1_17, c1_18, c1_25, c1_26, c1_28, c1_30, c1_31, c1_32, c1_34, c1_37, hc1, qc1_0, qc1_1, qc1_2, qc1_3, qc1_4, qc1_5, qc1_6, qc1_7, qc1_8, qc1_9, qc1_10, qc1_11, qc1_12, qc1_13, qc1_14, qc1_15, qc1_16, qc1_17, qc1_18, qc1_19, qc1_20, qc1_21, qc1_22, qc1_23, qc1_24, qc1_25, qc1_26, qc1_27, qc1_28⟩ := tn_134 hTy0
  refine gfX10_13 C dX10_fault_1 hc1 rfl ?_
  exact x_iretP C hr hlk (Nat.le_refl _) (Nat.le_refl _) dX10_fault_4 ⟨rfl, c1_5, rfl, trivial⟩
set_option maxRecDepth 20000 in
set_option maxHeartbeats 2000000 in
theorem tc_X10_isBridge {G : GT} {l : Launch} {z n : Nat} {g : Nat → Int} (uu0 : HpT) (hTz0 : TyN G z g uu0) : Mp G l z yX10_isBridge cX10_isBridge 1 (some .boolean) { frames := 0, cells := 0, slots := 0, locals := 0 } [.ref (z + 134)] uu0 n (fun r v => uu0 = v ∧ ∃ x : Int32, r = some (.int x) ∧ 0 ≤ x.toInt ∧ x.toInt ≤ 1 ∧ (x.toInt = 0 ∨ g 0 = 1)) := by
  refine mp_of (by decide +kernel) (Nat.le_of_ble_eq_true rfl) ?_
  intro p e s m below meth c C hr hlk hnm
  have hTy0 : TN G z g uu0 uu0 := TN.rf hTz0
  refine x_aload_n C 0 dX10_isBridge_0 rfl rfl ?_
  obtain ⟨c1_0, c1_2, c1_3, c1_4, c1_5, c1_6, c1_7, c1_8, c1_9, c1_15, c1_16, c1_17, c1_18, c1_25, c1_26, c1_28, c1_30, c1_31, c1_32, c1_34, c1_37, hc1, qc1_0, qc1_1, qc1_2, qc1_3, qc1_4, qc1_5, qc1_6, qc1_7, qc1_8, qc1_9, qc1_10, qc1_11, qc1_12, qc1_13, qc1_14, qc1_15, qc1_16, qc1_17, qc1_18, qc1_19, qc1_20, qc1_21, qc1_22, qc1_23, qc1_24, qc1_25, qc1_26, qc1_27, qc1_28⟩ := tn_134 hTy0
  refine gfX10_150 C dX10_isBridge_1 hc1 rfl ?_
  have l_0 : (0 : Int32).toInt = 0 := by decide
  refine x_if_le C 11 dX10_isBridge_4 (by decide) (fun q2 => ?_) (fun q2 => ?_)
  · have rq2 : c1_16.toInt ≤ (0 : Int32).toInt := by rw [Int32.le_iff_toInt_le] at q2; omega
    refine x_iconst (v := (0 : Int32)) C dX10_isBridge_11 (by decide) ?_
    exact x_zretP C hr hlk (Nat.le_refl _) (Nat.le_refl _) dX10_isBridge_12 (i_bool (by omega)) ⟨rfl, (0 : Int32), rfl, by omega⟩
  · have rq2 : c1_16.toInt > (0 : Int32).toInt := by rw [Int32.le_iff_toInt_le] at q2; omega
    refine x_iconst (v := (1 : Int32)) C dX10_isBridge_7 (by decide) ?_
    refine x_goto C 12 dX10_isBridge_8 (by decide) ?_
    have l_1 : (1 : Int32).toInt = 1 := by decide
    exact x_zretP C hr hlk (Nat.le_refl _) (Nat.le_refl _) dX10_isBridge_12 (i_bool (by omega)) ⟨rfl, (1 : Int32), rfl, by omega⟩
set_option maxRecDepth 20000 in
set_option maxHeartbeats 2000000 in
theorem tc_X10_isMatter {G : GT} {l : Launch} {z n : Nat} {g : Nat → Int} (uu0 : HpT) (hTz0 : TyN G z g uu0) (a1 : Int32) : Mp G l z yX10_isMatter cX10_isMatter 2 (some .boolean) { frames := 1, cells := 0, slots := 0, locals := 22 } [.ref (z + 134), .int a1] uu0 n (fun r v => uu0 = v ∧ ∃ x : Int32, r = some (.int x) ∧ 0 ≤ x.toInt ∧ x.toInt ≤ 1 ∧ (x.toInt = 0 ∨ (0 ≤ a1.toInt ∧ a1.toInt ≤ 7 ∧ g 0 = 1))) := by
  refine mp_of (by decide +kernel) (Nat.le_of_ble_eq_true rfl) ?_
  intro p e s m below meth c C hr hlk hnm
  have hTy0 : TN G z g uu0 uu0 := TN.rf hTz0
  refine x_iload_n C 1 dX10_isMatter_0 rfl rfl ?_
  refine x_iconst (v := (0 : Int32)) C dX10_isMatter_1 (by decide) ?_
  refine x_aload_n C 0 dX10_isMatter_2 rfl rfl ?_
  obtain ⟨c1_0, c1_2, c1_3, c1_4, c1_5, c1_6, c1_7, c1_8, c1_9, c1_15, c1_16, c1_17, c1_18, c1_25, c1_26, c1_28, c1_30, c1_31, c1_32, c1_34, c1_37, hc1, qc1_0, qc1_1, qc1_2, qc1_3, qc1_4, qc1_5, qc1_6, qc1_7, qc1_8, qc1_9, qc1_10, qc1_11, qc1_12, qc1_13, qc1_14, qc1_15, qc1_16, qc1_17, qc1_18, qc1_19, qc1_20, qc1_21, qc1_22, qc1_23, qc1_24, qc1_25, qc1_26, qc1_27, qc1_28⟩ := tn_134 hTy0
  refine gfX10_153 C dX10_isMatter_3 hc1 rfl ?_
  refine x_iconst (v := (1 : Int32)) C dX10_isMatter_6 (by decide) ?_
  refine x_isub C dX10_isMatter_7 ?_
  have l_1 : (1 : Int32).toInt = 1 := by decide
  refine x_top (fun w2 ew2 => ?_)
  have fw2_0 : w2.toInt = c1_17.toInt - (1 : Int32).toInt := by rw [ew2]; exact i_sub (by omega) (by omega)
  have l_0 : (0 : Int32).toInt = 0 := by decide
  refine x_callSP C cl_X10_in kmX10_82 (As := [.int a1, .int (0 : Int32), .int w2]) (rest := []) (tc_X10_in uu0 hTy0.1 a1 (0 : Int32) w2) rfl rfl (Nat.le_of_ble_eq_true rfl) ⟨Nat.le_of_ble_eq_true rfl, Nat.le_of_ble_eq_true rfl⟩ ⟨Nat.le_of_ble_eq_true rfl, Nat.le_of_ble_eq_true rfl⟩ dX10_isMatter_8 ?_
  rintro _ _ ⟨rfl, r3, rfl, gr3⟩
  refine x_norm (st2 := [.int r3]) rfl rfl rfl rfl rfl ?_
  exact x_zretP C hr hlk (Nat.le_refl _) (Nat.le_refl _) dX10_isMatter_11 (i_bool (by omega)) ⟨rfl, r3, rfl, by omega⟩
set_option maxRecDepth 20000 in
set_option maxHeartbeats 2000000 in
theorem tc_X10_isTraveller {G : GT} {l : Launch} {z n : Nat} {g : Nat → Int} (uu0 : HpT) (hTz0 : TyN G z g uu0) (a1 : Int32) : Mp G l z yX10_isTraveller cX10_isTraveller 2 (some .boolean) { frames := 1, cells := 0, slots := 0, locals := 22 } [.ref (z + 134), .int a1] uu0 n (fun r v => uu0 = v ∧ ∃ x : Int32, r = some (.int x) ∧ 0 ≤ x.toInt ∧ x.toInt ≤ 1 ∧ (x.toInt = 0 ∨ (0 ≤ a1.toInt ∧ a1.toInt ≤ 5 ∧ g 0 = 1))) := by
  refine mp_of (by decide +kernel) (Nat.le_of_ble_eq_true rfl) ?_
  intro p e s m below meth c C hr hlk hnm
  have hTy0 : TN G z g uu0 uu0 := TN.rf hTz0
  refine x_iload_n C 1 dX10_isTraveller_0 rfl rfl ?_
  refine x_iconst (v := (0 : Int32)) C dX10_isTraveller_1 (by decide) ?_
  refine x_aload_n C 0 dX10_isTraveller_2 rfl rfl ?_
  obtain ⟨c1_0, c1_2, c1_3, c1_4, c1_5, c1_6, c1_7, c1_8, c1_9, c1_15, c1_16, c1_17, c1_18, c1_25, c1_26, c1_28, c1_30, c1_31, c1_32, c1_34, c1_37, hc1, qc1_0, qc1_1, qc1_2, qc1_3, qc1_4, qc1_5, qc1_6, qc1_7, qc1_8, qc1_9, qc1_10, qc1_11, qc1_12, qc1_13, qc1_14, qc1_15, qc1_16, qc1_17, qc1_18, qc1_19, qc1_20, qc1_21, qc1_22, qc1_23, qc1_24, qc1_25, qc1_26, qc1_27, qc1_28⟩ := tn_134 hTy0
  refine gfX10_156 C dX10_isTraveller_3 hc1 rfl ?_
  refine x_iconst (v := (1 : Int32)) C dX10_isTraveller_6 (by decide) ?_
  refine x_isub C dX10_isTraveller_7 ?_
  have l_1 : (1 : Int32).toInt = 1 := by decide
  refine x_top (fun w2 ew2 => ?_)
  have fw2_0 : w2.toInt = c1_18.toInt - (1 : Int32).toInt := by rw [ew2]; exact i_sub (by omega) (by omega)
  have l_0 : (0 : Int32).toInt = 0 := by decide
  refine x_callSP C cl_X10_in kmX10_82 (As := [.int a1, .int (0 : Int32), .int w2]) (rest := []) (tc_X10_in uu0 hTy0.1 a1 (0 : Int32) w2) rfl rfl (Nat.le_of_ble_eq_true rfl) ⟨Nat.le_of_ble_eq_true rfl, Nat.le_of_ble_eq_true rfl⟩ ⟨Nat.le_of_ble_eq_true rfl, Nat.le_of_ble_eq_true rfl⟩ dX10_isTraveller_8 ?_
  rintro _ _ ⟨rfl, r3, rfl, gr3⟩
  refine x_norm (st2 := [.int r3]) rfl rfl rfl rfl rfl ?_
  exact x_zretP C hr hlk (Nat.le_refl _) (Nat.le_refl _) dX10_isTraveller_11 (i_bool (by omega)) ⟨rfl, r3, rfl, by omega⟩
set_option maxRecDepth 20000 in
set_option maxHeartbeats 2000000 in
theorem tc_X10_limit {G : GT} {l : Launch} {z n : Nat} {g : Nat → Int} (uu0 : HpT) (hTz0 : TyN G z g uu0) (a1 : Int32) (pre0 : 0 ≤ a1.toInt) (pre1 : a1.toInt ≤ 5) : Mp G l z yX10_limit cX10_limit 2 (some .int) { frames := 0, cells := 0, slots := 0, locals := 0 } [.ref (z + 134), .int a1] uu0 n (fun r v => uu0 = v ∧ ∃ x : Int32, r = some (.int x) ∧ True) := by
  refine mp_of (by decide +kernel) (Nat.le_of_ble_eq_true rfl) ?_
  intro p e s m below meth c C hr hlk hnm
  have hTy0 : TN G z g uu0 uu0 := TN.rf hTz0
  refine x_bipush (v := (60 : Int32)) C dX10_limit_0 (by decide) ?_
  refine x_iconst (v := (5 : Int32)) C dX10_limit_2 (by decide) ?_
  refine x_aload_n C 0 dX10_limit_3 rfl rfl ?_
  obtain ⟨c1_0, c1_2, c1_3, c1_4, c1_5, c1_6, c1_7, c1_8, c1_9, c1_15, c1_16, c1_17, c1_18, c1_25, c1_26, c1_28, c1_30, c1_31, c1_32, c1_34, c1_37, hc1, qc1_0, qc1_1, qc1_2, qc1_3, qc1_4, qc1_5, qc1_6, qc1_7, qc1_8, qc1_9, qc1_10, qc1_11, qc1_12, qc1_13, qc1_14, qc1_15, qc1_16, qc1_17, qc1_18, qc1_19, qc1_20, qc1_21, qc1_22, qc1_23, qc1_24, qc1_25, qc1_26, qc1_27, qc1_28⟩ := tn_134 hTy0
  refine gfX10_41 C dX10_limit_4 hc1 rfl ?_
  refine x_iload_n C 1 dX10_limit_7 rfl rfl ?_
  obtain ⟨f2, hf2⟩ := tn_144 hTy0
  refine x_iald C hf2 (i_in (by omega) (by omega)) dX10_limit_8 ?_
  refine x_top (fun w3 ew3 => ?_)
  refine x_imul C dX10_limit_9 ?_
  have l_5 : (5 : Int32).toInt = 5 := by decide
  refine x_top (fun w4 ew4 => ?_)
  refine x_isub C dX10_limit_10 ?_
  have l_60 : (60 : Int32).toInt = 60 := by decide
  refine x_top (fun w5 ew5 => ?_)
  exact x_iretP C hr hlk (Nat.le_refl _) (Nat.le_refl _) dX10_limit_11 ⟨rfl, w5, rfl, trivial⟩
set_option maxRecDepth 20000 in
set_option maxHeartbeats 2000000 in
theorem tc_X10_are {G : GT} {l : Launch} {z n : Nat} {g : Nat → Int} (uu0 : HpT) (hTz0 : TyN G z g uu0) (a1 : Int32) : Mp G l z yX10_are cX10_are 4 (some .int) { frames := 0, cells := 0, slots := 0, locals := 0 } [.ref (z + 134), .int a1] uu0 n (fun r v => uu0 = v ∧ ∃ x : Int32, r = some (.int x) ∧ True) := by
  refine mp_of (by decide +kernel) (Nat.le_of_ble_eq_true rfl) ?_
  intro p e s m below meth c C hr hlk hnm
  have hTy0 : TN G z g uu0 uu0 := TN.rf hTz0
  have zl_a1 : -2147483648 ≤ a1.toInt := Int32.le_toInt a1
  have zh_a1 : a1.toInt ≤ 2147483647 := Int32.toInt_le a1
  have J4 : ∀ (d : Nat) (x3_4 : Int32) (hl_x3_4 : 0 ≤ x3_4.toInt) (hh_x3_4 : x3_4.toInt ≤ 6) (x2_4 : Int32) (hd : d = (7 - x3_4.toInt).toNat), Xw p l e ({ frames := 0, cells := 0, slots := 0, locals := 0 } : Room) s m ([.ref (z + 134), .int a1] : List Value).toArray below meth c G z 4 (MQ below (Qp G z n (fun r v => uu0 = v ∧ ∃ x : Int32, r = some (.int x) ∧ True)) ([.ref (z + 134), .int a1] : List Value).toArray s 0 0 (zA z)) 4 [(3, .int x3_4), (2, .int x2_4), (0, .ref (z + 134)), (1, .int a1)] [] uu0 n 0 0 := by
    intro d
    induction d using Nat.strongRecOn with
    | _ d ih4 =>
      intro  x3_4 hl_x3_4 hh_x3_4 x2_4 hd4
      have J33 : ∀ (y0_33 : Int32) (nl_x3_4_33 : 0 ≤ x3_4.toInt) (nh_x3_4_33 : x3_4.toInt ≤ 5), Xw p l e ({ frames := 0, cells := 0, slots := 0, locals := 0 } : Room) s m ([.ref (z + 134), .int a1] : List Value).toArray below meth c G z 4 (MQ below (Qp G z n (fun r v => uu0 = v ∧ ∃ x : Int32, r = some (.int x) ∧ True)) ([.ref (z + 134), .int a1] : List Value).toArray s 0 0 (zA z)) 33 [(3, .int x3_4), (2, .int x2_4), (0, .ref (z + 134)), (1, .int a1)] [.int y0_33, .int x2_4] uu0 n 0 0 := by
        intro  y0_33 nl_x3_4_33 nh_x3_4_33
        refine x_ior C dX10_are_33 ?_
        refine x_top (fun w1 ew1 => ?_)
        refine x_istore_n C [(2, .int w1), (3, .int x3_4), (0, .ref (z + 134)), (1, .int a1)] dX10_are_34 rfl (by decide) rfl ?_
        have l_1 : (1 : Int32).toInt = 1 := by decide
        obtain ⟨w2, ew2⟩ : ∃ w : Int32, w = x3_4 + Int32.ofInt 1 := ⟨_, rfl⟩
        have fw2 : w2.toInt = x3_4.toInt + (1) := by rw [ew2]; exact i_addk (by decide) (by omega) (by omega)
        refine x_iinc (v := w2) C 1 [(3, .int w2), (2, .int w1), (0, .ref (z + 134)), (1, .int a1)] dX10_are_35 rfl ew2.symm (by decide) rfl ?_
        refine x_goto C 4 dX10_are_38 (by decide) ?_
        exact ih4 (7 - w2.toInt).toNat (by omega)  w2 (by omega) (by omega) w1 rfl
      refine x_iload_n C 0 dX10_are_4 rfl rfl ?_
      refine x_aload_n C 2 dX10_are_5 rfl rfl ?_
      obtain ⟨c3_0, c3_2, c3_3, c3_4, c3_5, c3_6, c3_7, c3_8, c3_9, c3_15, c3_16, c3_17, c3_18, c3_25, c3_26, c3_28, c3_30, c3_31, c3_32, c3_34, c3_37, hc3, qc3_0, qc3_1, qc3_2, qc3_3, qc3_4, qc3_5, qc3_6, qc3_7, qc3_8, qc3_9, qc3_10, qc3_11, qc3_12, qc3_13, qc3_14, qc3_15, qc3_16, qc3_17, qc3_18, qc3_19, qc3_20, qc3_21, qc3_22, qc3_23, qc3_24, qc3_25, qc3_26, qc3_27, qc3_28⟩ := tn_134 hTy0
      refine gfX10_156 C dX10_are_6 hc3 rfl ?_
      refine x_icmp_ge C 41 dX10_are_9 (by decide) (fun q4 => ?_) (fun q4 => ?_)
      · have rq4 : x3_4.toInt ≥ c3_18.toInt := by rw [Int32.le_iff_toInt_le] at q4; omega
        refine x_iload_n C 1 dX10_are_41 rfl rfl ?_
        exact x_iretP C hr hlk (Nat.le_refl _) (Nat.le_refl _) dX10_are_42 ⟨rfl, x2_4, rfl, trivial⟩
      · have rq4 : x3_4.toInt < c3_18.toInt := by rw [Int32.le_iff_toInt_le] at q4; omega
        refine x_iload_n C 1 dX10_are_12 rfl rfl ?_
        refine x_aload_n C 2 dX10_are_13 rfl rfl ?_
        refine gfX10_47 C dX10_are_14 hc3 rfl ?_
        refine x_bipush (v := (7 : Int32)) C dX10_are_17 (by decide) ?_
        refine x_iload_n C 0 dX10_are_19 rfl rfl ?_
        refine x_iadd C dX10_are_20 ?_
        have l_7 : (7 : Int32).toInt = 7 := by decide
        refine x_top (fun w5 ew5 => ?_)
        have fw5_0 : w5.toInt = (7 : Int32).toInt + x3_4.toInt := by rw [ew5]; exact i_add (by omega) (by omega)
        obtain ⟨f6, hf6, qf6_0⟩ := tn_146 hTy0
        refine x_iald C hf6 (i_in (by omega) (by omega)) dX10_are_21 ?_
        refine x_top (fun w7 ew7 => ?_)
        have fw7_0 : (w5.toInt = 4 → -1 ≤ w7.toInt ∧ w7.toInt ≤ 6 * g 0 - 1) ∧ (w5.toInt = 6 → -1 ≤ w7.toInt ∧ w7.toInt ≤ 7) := by rw [ew7]; exact ap_get (P := fun (i x : Int) => (i = 4 → -1 ≤ x ∧ x ≤ 6 * g 0 - 1) ∧ (i = 6 → -1 ≤ x ∧ x ≤ 7)) qf6_0 (by omega) (by omega)
        refine x_iload_n C 3 dX10_are_22 rfl rfl ?_
        refine x_icmp_ne C 32 dX10_are_23 (by decide) (fun q8 => ?_) (fun q8 => ?_)
        · have rq8 : ¬ w7.toInt = a1.toInt := by rw [i_eq_iff] at q8; omega
          refine x_iconst (v := (0 : Int32)) C dX10_are_32 (by decide) ?_
          have l_0 : (0 : Int32).toInt = 0 := by decide
          exact J33  (0 : Int32) (by omega) (by omega)
        · have rq8 : w7.toInt = a1.toInt := by rw [i_eq_iff] at q8; omega
          refine x_iconst (v := (1 : Int32)) C dX10_are_26 (by decide) ?_
          refine x_iload_n C 0 dX10_are_27 rfl rfl ?_
          refine x_ishl C dX10_are_28 ?_
          have l_1 : (1 : Int32).toInt = 1 := by decide
          refine x_top (fun w9 ew9 => ?_)
          refine x_goto C 33 dX10_are_29 (by decide) ?_
          exact J33  w9 (by omega) (by omega)
  refine x_iconst (v := (0 : Int32)) C dX10_are_0 (by decide) ?_
  refine x_istore_n C [(2, .int (0 : Int32)), (0, .ref (z + 134)), (1, .int a1)] dX10_are_1 rfl (by decide) rfl ?_
  refine x_iconst (v := (0 : Int32)) C dX10_are_2 (by decide) ?_
  refine x_istore_n C [(3, .int (0 : Int32)), (2, .int (0 : Int32)), (0, .ref (z + 134)), (1, .int a1)] dX10_are_3 rfl (by decide) rfl ?_
  have l_0 : (0 : Int32).toInt = 0 := by decide
  exact J4 (7 - (0 : Int32).toInt).toNat  (0 : Int32) (by omega) (by omega) (0 : Int32) rfl
set_option maxRecDepth 20000 in
set_option maxHeartbeats 2000000 in
theorem tc_X10_nobodys {G : GT} {l : Launch} {z n : Nat} {g : Nat → Int} (uu0 : HpT) (hTz0 : TyN G z g uu0) : Mp G l z yX10_nobodys cX10_nobodys 3 (some .int) { frames := 0, cells := 0, slots := 0, locals := 0 } [.ref (z + 134)] uu0 n (fun r v => uu0 = v ∧ ∃ x : Int32, r = some (.int x) ∧ True) := by
  refine mp_of (by decide +kernel) (Nat.le_of_ble_eq_true rfl) ?_
  intro p e s m below meth c C hr hlk hnm
  have hTy0 : TN G z g uu0 uu0 := TN.rf hTz0
  have J11 : ∀ (d : Nat) (x2_11 : Int32) (hl_x2_11 : 0 ≤ x2_11.toInt) (hh_x2_11 : x2_11.toInt ≤ 6) (x1_11 : Int32) (hd : d = (7 - x2_11.toInt).toNat), Xw p l e ({ frames := 0, cells := 0, slots := 0, locals := 0 } : Room) s m ([.ref (z + 134)] : List Value).toArray below meth c G z 3 (MQ below (Qp G z n (fun r v => uu0 = v ∧ ∃ x : Int32, r = some (.int x) ∧ True)) ([.ref (z + 134)] : List Value).toArray s 0 0 (zA z)) 11 [(2, .int x2_11), (1, .int x1_11), (0, .ref (z + 134))] [] uu0 n 0 0 := by
    intro d
    induction d using Nat.strongRecOn with
    | _ d ih11 =>
      intro  x2_11 hl_x2_11 hh_x2_11 x1_11 hd11
      refine x_iload_n C 0 dX10_nobodys_11 rfl rfl ?_
      refine x_aload_n C 2 dX10_nobodys_12 rfl rfl ?_
      obtain ⟨c1_0, c1_2, c1_3, c1_4, c1_5, c1_6, c1_7, c1_8, c1_9, c1_15, c1_16, c1_17, c1_18, c1_25, c1_26, c1_28, c1_30, c1_31, c1_32, c1_34, c1_37, hc1, qc1_0, qc1_1, qc1_2, qc1_3, qc1_4, qc1_5, qc1_6, qc1_7, qc1_8, qc1_9, qc1_10, qc1_11, qc1_12, qc1_13, qc1_14, qc1_15, qc1_16, qc1_17, qc1_18, qc1_19, qc1_20, qc1_21, qc1_22, qc1_23, qc1_24, qc1_25, qc1_26, qc1_27, qc1_28⟩ := tn_134 hTy0
      refine gfX10_156 C dX10_nobodys_13 hc1 rfl ?_
      refine x_icmp_ge C 36 dX10_nobodys_16 (by decide) (fun q2 => ?_) (fun q2 => ?_)
      · have rq2 : x2_11.toInt ≥ c1_18.toInt := by rw [Int32.le_iff_toInt_le] at q2; omega
        refine x_iload_n C 1 dX10_nobodys_36 rfl rfl ?_
        exact x_iretP C hr hlk (Nat.le_refl _) (Nat.le_refl _) dX10_nobodys_37 ⟨rfl, x1_11, rfl, trivial⟩
      · have rq2 : x2_11.toInt < c1_18.toInt := by rw [Int32.le_iff_toInt_le] at q2; omega
        refine x_iload_n C 1 dX10_nobodys_19 rfl rfl ?_
        refine x_aload_n C 2 dX10_nobodys_20 rfl rfl ?_
        refine gfX10_44 C dX10_nobodys_21 hc1 rfl ?_
        refine x_iload_n C 0 dX10_nobodys_24 rfl rfl ?_
        obtain ⟨f3, hf3⟩ := tn_145 hTy0
        refine x_iald C hf3 (i_in (by omega) (by omega)) dX10_nobodys_25 ?_
        refine x_top (fun w4 ew4 => ?_)
        refine x_iconst (v := (-1 : Int32)) C dX10_nobodys_26 (by decide) ?_
        refine x_ixor C dX10_nobodys_27 ?_
        have l_m1 : (-1 : Int32).toInt = -1 := by decide
        refine x_top (fun w5 ew5 => ?_)
        refine x_iand C dX10_nobodys_28 ?_
        refine x_top (fun w6 ew6 => ?_)
        refine x_istore_n C [(1, .int w6), (2, .int x2_11), (0, .ref (z + 134))] dX10_nobodys_29 rfl (by decide) rfl ?_
        have l_1 : (1 : Int32).toInt = 1 := by decide
        obtain ⟨w7, ew7⟩ : ∃ w : Int32, w = x2_11 + Int32.ofInt 1 := ⟨_, rfl⟩
        have fw7 : w7.toInt = x2_11.toInt + (1) := by rw [ew7]; exact i_addk (by decide) (by omega) (by omega)
        refine x_iinc (v := w7) C 1 [(2, .int w7), (1, .int w6), (0, .ref (z + 134))] dX10_nobodys_30 rfl ew7.symm (by decide) rfl ?_
        refine x_goto C 11 dX10_nobodys_33 (by decide) ?_
        exact ih11 (7 - w7.toInt).toNat (by omega)  w7 (by omega) (by omega) w6 rfl
  refine x_iconst (v := (1 : Int32)) C dX10_nobodys_0 (by decide) ?_
  refine x_aload_n C 0 dX10_nobodys_1 rfl rfl ?_
  obtain ⟨c8_0, c8_2, c8_3, c8_4, c8_5, c8_6, c8_7, c8_8, c8_9, c8_15, c8_16, c8_17, c8_18, c8_25, c8_26, c8_28, c8_30, c8_31, c8_32, c8_34, c8_37, hc8, qc8_0, qc8_1, qc8_2, qc8_3, qc8_4, qc8_5, qc8_6, qc8_7, qc8_8, qc8_9, qc8_10, qc8_11, qc8_12, qc8_13, qc8_14, qc8_15, qc8_16, qc8_17, qc8_18, qc8_19, qc8_20, qc8_21, qc8_22, qc8_23, qc8_24, qc8_25, qc8_26, qc8_27, qc8_28⟩ := tn_134 hTy0
  refine gfX10_153 C dX10_nobodys_2 hc8 rfl ?_
  refine x_ishl C dX10_nobodys_5 ?_
  have l_1 : (1 : Int32).toInt = 1 := by decide
  refine x_top (fun w9 ew9 => ?_)
  refine x_iconst (v := (1 : Int32)) C dX10_nobodys_6 (by decide) ?_
  refine x_isub C dX10_nobodys_7 ?_
  refine x_top (fun w10 ew10 => ?_)
  refine x_istore_n C [(1, .int w10), (0, .ref (z + 134))] dX10_nobodys_8 rfl (by decide) rfl ?_
  refine x_iconst (v := (0 : Int32)) C dX10_nobodys_9 (by decide) ?_
  refine x_istore_n C [(2, .int (0 : Int32)), (1, .int w10), (0, .ref (z + 134))] dX10_nobodys_10 rfl (by decide) rfl ?_
  have l_0 : (0 : Int32).toInt = 0 := by decide
  exact J11 (7 - (0 : Int32).toInt).toNat  (0 : Int32) (by omega) (by omega) w10 rfl
set_option maxRecDepth 20000 in
set_option maxHeartbeats 2000000 in
theorem tc_X10_longestSat {G : GT} {l : Launch} {z n : Nat} {g : Nat → Int} (uu0 : HpT) (hTz0 : TyN G z g uu0) : Mp G l z yX10_longestSat cX10_longestSat 4 (some .int) { frames := 0, cells := 0, slots := 0, locals := 0 } [.ref (z + 134)] uu0 n (fun r v => uu0 = v ∧ ∃ x : Int32, r = some (.int x) ∧ True) := by
  refine mp_of (by decide +kernel) (Nat.le_of_ble_eq_true rfl) ?_
  intro p e s m below meth c C hr hlk hnm
  have hTy0 : TN G z g uu0 uu0 := TN.rf hTz0
  have J6 : ∀ (d : Nat) (x3_6 : Int32) (hl_x3_6 : 0 ≤ x3_6.toInt) (hh_x3_6 : x3_6.toInt ≤ 6) (x2_6 : Int32) (x1_6 : Int32) (hl_x1_6 : -1 ≤ x1_6.toInt) (hh_x1_6 : x1_6.toInt ≤ 5) (hd : d = (7 - x3_6.toInt).toNat), Xw p l e ({ frames := 0, cells := 0, slots := 0, locals := 0 } : Room) s m ([.ref (z + 134)] : List Value).toArray below meth c G z 4 (MQ below (Qp G z n (fun r v => uu0 = v ∧ ∃ x : Int32, r = some (.int x) ∧ True)) ([.ref (z + 134)] : List Value).toArray s 0 0 (zA z)) 6 [(3, .int x3_6), (2, .int x2_6), (1, .int x1_6), (0, .ref (z + 134))] [] uu0 n 0 0 := by
    intro d
    induction d using Nat.strongRecOn with
    | _ d ih6 =>
      intro  x3_6 hl_x3_6 hh_x3_6 x2_6 x1_6 hl_x1_6 hh_x1_6 hd6
      have J59 : ∀ (x1_59 : Int32) (hl_x1_59 : -1 ≤ x1_59.toInt) (hh_x1_59 : x1_59.toInt ≤ 5) (y0_59 : Int32) (nl_x3_6_59 : 0 ≤ x3_6.toInt) (nh_x3_6_59 : x3_6.toInt ≤ 5), Xw p l e ({ frames := 0, cells := 0, slots := 0, locals := 0 } : Room) s m ([.ref (z + 134)] : List Value).toArray below meth c G z 4 (MQ below (Qp G z n (fun r v => uu0 = v ∧ ∃ x : Int32, r = some (.int x) ∧ True)) ([.ref (z + 134)] : List Value).toArray s 0 0 (zA z)) 59 [(1, .int x1_59), (3, .int x3_6), (2, .int x2_6), (0, .ref (z + 134))] [.int y0_59] uu0 n 0 0 := by
        intro  x1_59 hl_x1_59 hh_x1_59 y0_59 nl_x3_6_59 nh_x3_6_59
        refine x_istore_n C [(2, .int y0_59), (1, .int x1_59), (3, .int x3_6), (0, .ref (z + 134))] dX10_longestSat_59 rfl (by decide) rfl ?_
        have l_1 : (1 : Int32).toInt = 1 := by decide
        obtain ⟨w1, ew1⟩ : ∃ w : Int32, w = x3_6 + Int32.ofInt 1 := ⟨_, rfl⟩
        have fw1 : w1.toInt = x3_6.toInt + (1) := by rw [ew1]; exact i_addk (by decide) (by omega) (by omega)
        refine x_iinc (v := w1) C 2 [(3, .int w1), (2, .int y0_59), (1, .int x1_59), (0, .ref (z + 134))] dX10_longestSat_60 rfl ew1.symm (by decide) rfl ?_
        refine x_goto C 6 dX10_longestSat_63 (by decide) ?_
        exact ih6 (7 - w1.toInt).toNat (by omega)  w1 (by omega) (by omega) y0_59 x1_59 (by omega) (by omega) rfl
      have J32 : ∀ (y0_32 : Int32) (hl_y0_32 : -1 ≤ y0_32.toInt) (hh_y0_32 : y0_32.toInt ≤ 5) (nl_x3_6_32 : 0 ≤ x3_6.toInt) (nh_x3_6_32 : x3_6.toInt ≤ 5), Xw p l e ({ frames := 0, cells := 0, slots := 0, locals := 0 } : Room) s m ([.ref (z + 134)] : List Value).toArray below meth c G z 4 (MQ below (Qp G z n (fun r v => uu0 = v ∧ ∃ x : Int32, r = some (.int x) ∧ True)) ([.ref (z + 134)] : List Value).toArray s 0 0 (zA z)) 32 [(3, .int x3_6), (2, .int x2_6), (1, .int x1_6), (0, .ref (z + 134))] [.int y0_32] uu0 n 0 0 := by
        intro  y0_32 hl_y0_32 hh_y0_32 nl_x3_6_32 nh_x3_6_32
        refine x_istore_n C [(1, .int y0_32), (3, .int x3_6), (2, .int x2_6), (0, .ref (z + 134))] dX10_longestSat_32 rfl (by decide) rfl ?_
        refine x_aload_n C 3 dX10_longestSat_33 rfl rfl ?_
        obtain ⟨c2_0, c2_2, c2_3, c2_4, c2_5, c2_6, c2_7, c2_8, c2_9, c2_15, c2_16, c2_17, c2_18, c2_25, c2_26, c2_28, c2_30, c2_31, c2_32, c2_34, c2_37, hc2, qc2_0, qc2_1, qc2_2, qc2_3, qc2_4, qc2_5, qc2_6, qc2_7, qc2_8, qc2_9, qc2_10, qc2_11, qc2_12, qc2_13, qc2_14, qc2_15, qc2_16, qc2_17, qc2_18, qc2_19, qc2_20, qc2_21, qc2_22, qc2_23, qc2_24, qc2_25, qc2_26, qc2_27, qc2_28⟩ := tn_134 hTy0
        refine gfX10_47 C dX10_longestSat_34 hc2 rfl ?_
        refine x_bipush (v := (13 : Int32)) C dX10_longestSat_37 (by decide) ?_
        refine x_iload_n C 1 dX10_longestSat_39 rfl rfl ?_
        refine x_iadd C dX10_longestSat_40 ?_
        have l_13 : (13 : Int32).toInt = 13 := by decide
        refine x_top (fun w3 ew3 => ?_)
        have fw3_0 : w3.toInt = (13 : Int32).toInt + x3_6.toInt := by rw [ew3]; exact i_add (by omega) (by omega)
        obtain ⟨f4, hf4, qf4_0⟩ := tn_146 hTy0
        refine x_iald C hf4 (i_in (by omega) (by omega)) dX10_longestSat_41 ?_
        refine x_top (fun w5 ew5 => ?_)
        have fw5_0 : (w3.toInt = 4 → -1 ≤ w5.toInt ∧ w5.toInt ≤ 6 * g 0 - 1) ∧ (w3.toInt = 6 → -1 ≤ w5.toInt ∧ w5.toInt ≤ 7) := by rw [ew5]; exact ap_get (P := fun (i x : Int) => (i = 4 → -1 ≤ x ∧ x ≤ 6 * g 0 - 1) ∧ (i = 6 → -1 ≤ x ∧ x ≤ 7)) qf4_0 (by omega) (by omega)
        refine x_iload_n C 2 dX10_longestSat_42 rfl rfl ?_
        refine x_icmp_le C 58 dX10_longestSat_43 (by decide) (fun q6 => ?_) (fun q6 => ?_)
        · have rq6 : w5.toInt ≤ x2_6.toInt := by rw [Int32.le_iff_toInt_le] at q6; omega
          refine x_iload_n C 2 dX10_longestSat_58 rfl rfl ?_
          exact J59  y0_32 (by omega) (by omega) x2_6 (by omega) (by omega)
        · have rq6 : w5.toInt > x2_6.toInt := by rw [Int32.le_iff_toInt_le] at q6; omega
          refine x_aload_n C 3 dX10_longestSat_46 rfl rfl ?_
          refine gfX10_47 C dX10_longestSat_47 hc2 rfl ?_
          refine x_bipush (v := (13 : Int32)) C dX10_longestSat_50 (by decide) ?_
          refine x_iload_n C 1 dX10_longestSat_52 rfl rfl ?_
          refine x_iadd C dX10_longestSat_53 ?_
          refine x_top (fun w7 ew7 => ?_)
          have fw7_0 : w7.toInt = (13 : Int32).toInt + x3_6.toInt := by rw [ew7]; exact i_add (by omega) (by omega)
          refine x_iald C hf4 (i_in (by omega) (by omega)) dX10_longestSat_54 ?_
          refine x_top (fun w8 ew8 => ?_)
          have fw8_0 : (w7.toInt = 4 → -1 ≤ w8.toInt ∧ w8.toInt ≤ 6 * g 0 - 1) ∧ (w7.toInt = 6 → -1 ≤ w8.toInt ∧ w8.toInt ≤ 7) := by rw [ew8]; exact ap_get (P := fun (i x : Int) => (i = 4 → -1 ≤ x ∧ x ≤ 6 * g 0 - 1) ∧ (i = 6 → -1 ≤ x ∧ x ≤ 7)) qf4_0 (by omega) (by omega)
          refine x_goto C 59 dX10_longestSat_55 (by decide) ?_
          exact J59  y0_32 (by omega) (by omega) w8 (by omega) (by omega)
      refine x_iload_n C 0 dX10_longestSat_6 rfl rfl ?_
      refine x_aload_n C 3 dX10_longestSat_7 rfl rfl ?_
      obtain ⟨c9_0, c9_2, c9_3, c9_4, c9_5, c9_6, c9_7, c9_8, c9_9, c9_15, c9_16, c9_17, c9_18, c9_25, c9_26, c9_28, c9_30, c9_31, c9_32, c9_34, c9_37, hc9, qc9_0, qc9_1, qc9_2, qc9_3, qc9_4, qc9_5, qc9_6, qc9_7, qc9_8, qc9_9, qc9_10, qc9_11, qc9_12, qc9_13, qc9_14, qc9_15, qc9_16, qc9_17, qc9_18, qc9_19, qc9_20, qc9_21, qc9_22, qc9_23, qc9_24, qc9_25, qc9_26, qc9_27, qc9_28⟩ := tn_134 hTy0
      refine gfX10_156 C dX10_longestSat_8 hc9 rfl ?_
      refine x_icmp_ge C 66 dX10_longestSat_11 (by decide) (fun q10 => ?_) (fun q10 => ?_)
      · have rq10 : x3_6.toInt ≥ c9_18.toInt := by rw [Int32.le_iff_toInt_le] at q10; omega
        refine x_iload_n C 2 dX10_longestSat_66 rfl rfl ?_
        exact x_iretP C hr hlk (Nat.le_refl _) (Nat.le_refl _) dX10_longestSat_67 ⟨rfl, x1_6, rfl, trivial⟩
      · have rq10 : x3_6.toInt < c9_18.toInt := by rw [Int32.le_iff_toInt_le] at q10; omega
        refine x_aload_n C 3 dX10_longestSat_14 rfl rfl ?_
        refine gfX10_47 C dX10_longestSat_15 hc9 rfl ?_
        refine x_bipush (v := (13 : Int32)) C dX10_longestSat_18 (by decide) ?_
        refine x_iload_n C 0 dX10_longestSat_20 rfl rfl ?_
        refine x_iadd C dX10_longestSat_21 ?_
        have l_13 : (13 : Int32).toInt = 13 := by decide
        refine x_top (fun w11 ew11 => ?_)
        have fw11_0 : w11.toInt = (13 : Int32).toInt + x3_6.toInt := by rw [ew11]; exact i_add (by omega) (by omega)
        obtain ⟨f12, hf12, qf12_0⟩ := tn_146 hTy0
        refine x_iald C hf12 (i_in (by omega) (by omega)) dX10_longestSat_22 ?_
        refine x_top (fun w13 ew13 => ?_)
        have fw13_0 : (w11.toInt = 4 → -1 ≤ w13.toInt ∧ w13.toInt ≤ 6 * g 0 - 1) ∧ (w11.toInt = 6 → -1 ≤ w13.toInt ∧ w13.toInt ≤ 7) := by rw [ew13]; exact ap_get (P := fun (i x : Int) => (i = 4 → -1 ≤ x ∧ x ≤ 6 * g 0 - 1) ∧ (i = 6 → -1 ≤ x ∧ x ≤ 7)) qf12_0 (by omega) (by omega)
        refine x_iload_n C 1 dX10_longestSat_23 rfl rfl ?_
        refine x_icmp_le C 31 dX10_longestSat_24 (by decide) (fun q14 => ?_) (fun q14 => ?_)
        · have rq14 : w13.toInt ≤ x2_6.toInt := by rw [Int32.le_iff_toInt_le] at q14; omega
          refine x_iload_n C 2 dX10_longestSat_31 rfl rfl ?_
          exact J32  x1_6 (by omega) (by omega) (by omega) (by omega)
        · have rq14 : w13.toInt > x2_6.toInt := by rw [Int32.le_iff_toInt_le] at q14; omega
          refine x_iload_n C 0 dX10_longestSat_27 rfl rfl ?_
          refine x_goto C 32 dX10_longestSat_28 (by decide) ?_
          exact J32  x3_6 (by omega) (by omega) (by omega) (by omega)
  refine x_iconst (v := (-1 : Int32)) C dX10_longestSat_0 (by decide) ?_
  refine x_istore_n C [(1, .int (-1 : Int32)), (0, .ref (z + 134))] dX10_longestSat_1 rfl (by decide) rfl ?_
  refine x_iconst (v := (0 : Int32)) C dX10_longestSat_2 (by decide) ?_
  refine x_istore_n C [(2, .int (0 : Int32)), (1, .int (-1 : Int32)), (0, .ref (z + 134))] dX10_longestSat_3 rfl (by decide) rfl ?_
  refine x_iconst (v := (0 : Int32)) C dX10_longestSat_4 (by decide) ?_
  refine x_istore_n C [(3, .int (0 : Int32)), (2, .int (0 : Int32)), (1, .int (-1 : Int32)), (0, .ref (z + 134))] dX10_longestSat_5 rfl (by decide) rfl ?_
  have l_0 : (0 : Int32).toInt = 0 := by decide
  have l_m1 : (-1 : Int32).toInt = -1 := by decide
  exact J6 (7 - (0 : Int32).toInt).toNat  (0 : Int32) (by omega) (by omega) (0 : Int32) (-1 : Int32) (by omega) (by omega) rfl
set_option maxRecDepth 20000 in
set_option maxHeartbeats 2000000 in
theorem tc_X10_onward {G : GT} {l : Launch} {z n : Nat} {g : Nat → Int} (uu0 : HpT) (hTz0 : TyN G z g uu0) (a1 : Int32) : Mp G l z yX10_onward cX10_onward 4 (some .int) { frames := 1, cells := 0, slots := 0, locals := 21 } [.ref (z + 134), .int a1] uu0 n (fun r v => uu0 = v ∧ ∃ x : Int32, r = some (.int x) ∧ True) := by
  refine mp_of (by decide +kernel) (Nat.le_of_ble_eq_true rfl) ?_
  intro p e s m below meth c C hr hlk hnm
  have hTy0 : TN G z g uu0 uu0 := TN.rf hTz0
  have zl_a1 : -2147483648 ≤ a1.toInt := Int32.le_toInt a1
  have zh_a1 : a1.toInt ≤ 2147483647 := Int32.toInt_le a1
  have J4 : ∀ (d : Nat) (x3_4 : Int32) (hl_x3_4 : 0 ≤ x3_4.toInt) (hh_x3_4 : x3_4.toInt ≤ 8) (x2_4 : Int32) (hd : d = (9 - x3_4.toInt).toNat), Xw p l e ({ frames := 1, cells := 0, slots := 0, locals := 21 } : Room) s m ([.ref (z + 134), .int a1] : List Value).toArray below meth c G z 4 (MQ below (Qp G z n (fun r v => uu0 = v ∧ ∃ x : Int32, r = some (.int x) ∧ True)) ([.ref (z + 134), .int a1] : List Value).toArray s 0 0 (zA z)) 4 [(3, .int x3_4), (2, .int x2_4), (0, .ref (z + 134)), (1, .int a1)] [] uu0 n 0 0 := by
    intro d
    induction d using Nat.strongRecOn with
    | _ d ih4 =>
      intro  x3_4 hl_x3_4 hh_x3_4 x2_4 hd4
      have J31 : ∀ (y0_31 : Int32) (nl_x3_4_31 : 0 ≤ x3_4.toInt) (nh_x3_4_31 : x3_4.toInt ≤ 7), Xw p l e ({ frames := 1, cells := 0, slots := 0, locals := 21 } : Room) s m ([.ref (z + 134), .int a1] : List Value).toArray below meth c G z 4 (MQ below (Qp G z n (fun r v => uu0 = v ∧ ∃ x : Int32, r = some (.int x) ∧ True)) ([.ref (z + 134), .int a1] : List Value).toArray s 0 0 (zA z)) 31 [(3, .int x3_4), (2, .int x2_4), (0, .ref (z + 134)), (1, .int a1)] [.int y0_31, .int x2_4] uu0 n 0 0 := by
        intro  y0_31 nl_x3_4_31 nh_x3_4_31
        refine x_ior C dX10_onward_31 ?_
        refine x_top (fun w1 ew1 => ?_)
        refine x_istore_n C [(2, .int w1), (3, .int x3_4), (0, .ref (z + 134)), (1, .int a1)] dX10_onward_32 rfl (by decide) rfl ?_
        have l_1 : (1 : Int32).toInt = 1 := by decide
        obtain ⟨w2, ew2⟩ : ∃ w : Int32, w = x3_4 + Int32.ofInt 1 := ⟨_, rfl⟩
        have fw2 : w2.toInt = x3_4.toInt + (1) := by rw [ew2]; exact i_addk (by decide) (by omega) (by omega)
        refine x_iinc (v := w2) C 1 [(3, .int w2), (2, .int w1), (0, .ref (z + 134)), (1, .int a1)] dX10_onward_33 rfl ew2.symm (by decide) rfl ?_
        refine x_goto C 4 dX10_onward_36 (by decide) ?_
        exact ih4 (9 - w2.toInt).toNat (by omega)  w2 (by omega) (by omega) w1 rfl
      refine x_iload_n C 0 dX10_onward_4 rfl rfl ?_
      refine x_aload_n C 2 dX10_onward_5 rfl rfl ?_
      obtain ⟨c3_0, c3_2, c3_3, c3_4, c3_5, c3_6, c3_7, c3_8, c3_9, c3_15, c3_16, c3_17, c3_18, c3_25, c3_26, c3_28, c3_30, c3_31, c3_32, c3_34, c3_37, hc3, qc3_0, qc3_1, qc3_2, qc3_3, qc3_4, qc3_5, qc3_6, qc3_7, qc3_8, qc3_9, qc3_10, qc3_11, qc3_12, qc3_13, qc3_14, qc3_15, qc3_16, qc3_17, qc3_18, qc3_19, qc3_20, qc3_21, qc3_22, qc3_23, qc3_24, qc3_25, qc3_26, qc3_27, qc3_28⟩ := tn_134 hTy0
      refine gfX10_153 C dX10_onward_6 hc3 rfl ?_
      refine x_icmp_ge C 39 dX10_onward_9 (by decide) (fun q4 => ?_) (fun q4 => ?_)
      · have rq4 : x3_4.toInt ≥ c3_17.toInt := by rw [Int32.le_iff_toInt_le] at q4; omega
        refine x_iload_n C 1 dX10_onward_39 rfl rfl ?_
        exact x_iretP C hr hlk (Nat.le_refl _) (Nat.le_refl _) dX10_onward_40 ⟨rfl, x2_4, rfl, trivial⟩
      · have rq4 : x3_4.toInt < c3_17.toInt := by rw [Int32.le_iff_toInt_le] at q4; omega
        refine x_iload_n C 1 dX10_onward_12 rfl rfl ?_
        refine x_iload_n C 3 dX10_onward_13 rfl rfl ?_
        refine x_iload_n C 0 dX10_onward_14 rfl rfl ?_
        refine x_callSP C cl_X10_has kmX10_168 (As := [.int a1, .int x3_4]) (rest := [.int x2_4]) (tc_X10_has uu0 hTy0.1 a1 x3_4) rfl rfl (Nat.le_of_ble_eq_true rfl) ⟨Nat.le_of_ble_eq_true rfl, Nat.le_of_ble_eq_true rfl⟩ ⟨Nat.le_of_ble_eq_true rfl, Nat.le_of_ble_eq_true rfl⟩ dX10_onward_15 ?_
        rintro _ _ ⟨rfl, r5, rfl, gr5⟩
        refine x_norm (st2 := [.int r5, .int x2_4]) rfl rfl rfl rfl rfl ?_
        have l_0 : (0 : Int32).toInt = 0 := by decide
        refine x_if_eq C 30 dX10_onward_18 (by decide) (fun q7 => ?_) (fun q7 => ?_)
        · have rq7 : r5.toInt = (0 : Int32).toInt := by rw [i_eq_iff] at q7; omega
          refine x_iconst (v := (0 : Int32)) C dX10_onward_30 (by decide) ?_
          exact J31  (0 : Int32) (by omega) (by omega)
        · have rq7 : ¬ r5.toInt = (0 : Int32).toInt := by rw [i_eq_iff] at q7; omega
          refine x_aload_n C 2 dX10_onward_21 rfl rfl ?_
          refine gfX10_35 C dX10_onward_22 hc3 rfl ?_
          refine x_iload_n C 0 dX10_onward_25 rfl rfl ?_
          obtain ⟨f8, hf8⟩ := tn_142 hTy0
          refine x_iald C hf8 (i_in (by omega) (by omega)) dX10_onward_26 ?_
          refine x_top (fun w9 ew9 => ?_)
          refine x_goto C 31 dX10_onward_27 (by decide) ?_
          exact J31  w9 (by omega) (by omega)
  refine x_iconst (v := (0 : Int32)) C dX10_onward_0 (by decide) ?_
  refine x_istore_n C [(2, .int (0 : Int32)), (0, .ref (z + 134)), (1, .int a1)] dX10_onward_1 rfl (by decide) rfl ?_
  refine x_iconst (v := (0 : Int32)) C dX10_onward_2 (by decide) ?_
  refine x_istore_n C [(3, .int (0 : Int32)), (2, .int (0 : Int32)), (0, .ref (z + 134)), (1, .int a1)] dX10_onward_3 rfl (by decide) rfl ?_
  have l_0 : (0 : Int32).toInt = 0 := by decide
  exact J4 (9 - (0 : Int32).toInt).toNat  (0 : Int32) (by omega) (by omega) (0 : Int32) rfl
set_option maxRecDepth 20000 in
set_option maxHeartbeats 2000000 in
theorem tc_X10_leadsFrom {G : GT} {l : Launch} {z n : Nat} {g : Nat → Int} (uu0 : HpT) (hTz0 : TyN G z g uu0) (a1 : Int32) (pre0 : 0 ≤ a1.toInt) (pre1 : a1.toInt ≤ 7) : Mp G l z yX10_leadsFrom cX10_leadsFrom 4 (some .int) { frames := 2, cells := 0, slots := 0, locals := 44 } [.ref (z + 134), .int a1] uu0 n (fun r v => uu0 = v ∧ ∃ x : Int32, r = some (.int x) ∧ True) := by
  refine mp_of (by decide +kernel) (Nat.le_of_ble_eq_true rfl) ?_
  intro p e s m below meth c C hr hlk hnm
  have hTy0 : TN G z g uu0 uu0 := TN.rf hTz0
  have J9 : ∀ (d : Nat) (x3_9 : Int32) (hl_x3_9 : 0 ≤ x3_9.toInt) (hh_x3_9 : x3_9.toInt ≤ 8) (x2_9 : Int32) (hd : d = (9 - x3_9.toInt).toNat), Xw p l e ({ frames := 2, cells := 0, slots := 0, locals := 44 } : Room) s m ([.ref (z + 134), .int a1] : List Value).toArray below meth c G z 4 (MQ below (Qp G z n (fun r v => uu0 = v ∧ ∃ x : Int32, r = some (.int x) ∧ True)) ([.ref (z + 134), .int a1] : List Value).toArray s 0 0 (zA z)) 9 [(3, .int x3_9), (2, .int x2_9), (0, .ref (z + 134)), (1, .int a1)] [] uu0 n 0 0 := by
    intro d
    induction d using Nat.strongRecOn with
    | _ d ih9 =>
      intro  x3_9 hl_x3_9 hh_x3_9 x2_9 hd9
      refine x_iload_n C 0 dX10_leadsFrom_9 rfl rfl ?_
      refine x_aload_n C 2 dX10_leadsFrom_10 rfl rfl ?_
      obtain ⟨c1_0, c1_2, c1_3, c1_4, c1_5, c1_6, c1_7, c1_8, c1_9, c1_15, c1_16, c1_17, c1_18, c1_25, c1_26, c1_28, c1_30, c1_31, c1_32, c1_34, c1_37, hc1, qc1_0, qc1_1, qc1_2, qc1_3, qc1_4, qc1_5, qc1_6, qc1_7, qc1_8, qc1_9, qc1_10, qc1_11, qc1_12, qc1_13, qc1_14, qc1_15, qc1_16, qc1_17, qc1_18, qc1_19, qc1_20, qc1_21, qc1_22, qc1_23, qc1_24, qc1_25, qc1_26, qc1_27, qc1_28⟩ := tn_134 hTy0
      refine gfX10_153 C dX10_leadsFrom_11 hc1 rfl ?_
      refine x_icmp_ge C 31 dX10_leadsFrom_14 (by decide) (fun q2 => ?_) (fun q2 => ?_)
      · have rq2 : x3_9.toInt ≥ c1_17.toInt := by rw [Int32.le_iff_toInt_le] at q2; omega
        refine x_iload_n C 1 dX10_leadsFrom_31 rfl rfl ?_
        exact x_iretP C hr hlk (Nat.le_refl _) (Nat.le_refl _) dX10_leadsFrom_32 ⟨rfl, x2_9, rfl, trivial⟩
      · have rq2 : x3_9.toInt < c1_17.toInt := by rw [Int32.le_iff_toInt_le] at q2; omega
        refine x_iload_n C 1 dX10_leadsFrom_17 rfl rfl ?_
        refine x_aload_n C 2 dX10_leadsFrom_18 rfl rfl ?_
        refine x_iload_n C 1 dX10_leadsFrom_19 rfl rfl ?_
        refine x_callVP C cl_X10_onward kmX10_187 (ci := 9) (b := 134) (As := [.int x2_9]) (rest := [.int x2_9]) rfl hc1 (tc_X10_onward uu0 hTy0.1 x2_9) rfl rfl (Nat.le_of_ble_eq_true rfl) ⟨Nat.le_of_ble_eq_true rfl, Nat.le_of_ble_eq_true rfl⟩ ⟨Nat.le_of_ble_eq_true rfl, Nat.le_of_ble_eq_true rfl⟩ dX10_leadsFrom_20 ?_
        rintro _ _ ⟨rfl, r3, rfl, gr3⟩
        refine x_norm (st2 := [.int r3, .int x2_9]) rfl rfl rfl rfl rfl ?_
        refine x_ior C dX10_leadsFrom_23 ?_
        refine x_top (fun w5 ew5 => ?_)
        refine x_istore_n C [(2, .int w5), (3, .int x3_9), (0, .ref (z + 134)), (1, .int a1)] dX10_leadsFrom_24 rfl (by decide) rfl ?_
        have l_1 : (1 : Int32).toInt = 1 := by decide
        obtain ⟨w6, ew6⟩ : ∃ w : Int32, w = x3_9 + Int32.ofInt 1 := ⟨_, rfl⟩
        have fw6 : w6.toInt = x3_9.toInt + (1) := by rw [ew6]; exact i_addk (by decide) (by omega) (by omega)
        refine x_iinc (v := w6) C 1 [(3, .int w6), (2, .int w5), (0, .ref (z + 134)), (1, .int a1)] dX10_leadsFrom_25 rfl ew6.symm (by decide) rfl ?_
        refine x_goto C 9 dX10_leadsFrom_28 (by decide) ?_
        exact ih9 (9 - w6.toInt).toNat (by omega)  w6 (by omega) (by omega) w5 rfl
  refine x_aload_n C 0 dX10_leadsFrom_0 rfl rfl ?_
  obtain ⟨c7_0, c7_2, c7_3, c7_4, c7_5, c7_6, c7_7, c7_8, c7_9, c7_15, c7_16, c7_17, c7_18, c7_25, c7_26, c7_28, c7_30, c7_31, c7_32, c7_34, c7_37, hc7, qc7_0, qc7_1, qc7_2, qc7_3, qc7_4, qc7_5, qc7_6, qc7_7, qc7_8, qc7_9, qc7_10, qc7_11, qc7_12, qc7_13, qc7_14, qc7_15, qc7_16, qc7_17, qc7_18, qc7_19, qc7_20, qc7_21, qc7_22, qc7_23, qc7_24, qc7_25, qc7_26, qc7_27, qc7_28⟩ := tn_134 hTy0
  refine gfX10_35 C dX10_leadsFrom_1 hc7 rfl ?_
  refine x_iload_n C 1 dX10_leadsFrom_4 rfl rfl ?_
  obtain ⟨f8, hf8⟩ := tn_142 hTy0
  refine x_iald C hf8 (i_in (by omega) (by omega)) dX10_leadsFrom_5 ?_
  refine x_top (fun w9 ew9 => ?_)
  refine x_istore_n C [(2, .int w9), (0, .ref (z + 134)), (1, .int a1)] dX10_leadsFrom_6 rfl (by decide) rfl ?_
  refine x_iconst (v := (0 : Int32)) C dX10_leadsFrom_7 (by decide) ?_
  refine x_istore_n C [(3, .int (0 : Int32)), (2, .int w9), (0, .ref (z + 134)), (1, .int a1)] dX10_leadsFrom_8 rfl (by decide) rfl ?_
  have l_0 : (0 : Int32).toInt = 0 := by decide
  exact J9 (9 - (0 : Int32).toInt).toNat  (0 : Int32) (by omega) (by omega) w9 rfl
set_option maxRecDepth 20000 in
set_option maxHeartbeats 2000000 in
theorem tc_X10_roundOf {G : GT} {l : Launch} {z n : Nat} {g : Nat → Int} (uu0 : HpT) (hTz0 : TyN G z g uu0) (a1 : Int32) (pre0 : 0 ≤ a1.toInt) (pre1 : a1.toInt ≤ 7) : Mp G l z yX10_roundOf cX10_roundOf 4 (some .int) { frames := 2, cells := 0, slots := 0, locals := 44 } [.ref (z + 134), .int a1] uu0 n (fun r v => uu0 = v ∧ ∃ x : Int32, r = some (.int x) ∧ True) := by
  refine mp_of (by decide +kernel) (Nat.le_of_ble_eq_true rfl) ?_
  intro p e s m below meth c C hr hlk hnm
  have hTy0 : TN G z g uu0 uu0 := TN.rf hTz0
  have J6 : ∀ (d : Nat) (x3_6 : Int32) (hl_x3_6 : 1 ≤ x3_6.toInt) (hh_x3_6 : x3_6.toInt ≤ 9) (x2_6 : Int32) (hd : d = (10 - x3_6.toInt).toNat), Xw p l e ({ frames := 2, cells := 0, slots := 0, locals := 44 } : Room) s m ([.ref (z + 134), .int a1] : List Value).toArray below meth c G z 4 (MQ below (Qp G z n (fun r v => uu0 = v ∧ ∃ x : Int32, r = some (.int x) ∧ True)) ([.ref (z + 134), .int a1] : List Value).toArray s 0 0 (zA z)) 6 [(3, .int x3_6), (2, .int x2_6), (0, .ref (z + 134)), (1, .int a1)] [] uu0 n 0 0 := by
    intro d
    induction d using Nat.strongRecOn with
    | _ d ih6 =>
      intro  x3_6 hl_x3_6 hh_x3_6 x2_6 hd6
      refine x_iload_n C 0 dX10_roundOf_6 rfl rfl ?_
      refine x_aload_n C 2 dX10_roundOf_7 rfl rfl ?_
      obtain ⟨c1_0, c1_2, c1_3, c1_4, c1_5, c1_6, c1_7, c1_8, c1_9, c1_15, c1_16, c1_17, c1_18, c1_25, c1_26, c1_28, c1_30, c1_31, c1_32, c1_34, c1_37, hc1, qc1_0, qc1_1, qc1_2, qc1_3, qc1_4, qc1_5, qc1_6, qc1_7, qc1_8, qc1_9, qc1_10, qc1_11, qc1_12, qc1_13, qc1_14, qc1_15, qc1_16, qc1_17, qc1_18, qc1_19, qc1_20, qc1_21, qc1_22, qc1_23, qc1_24, qc1_25, qc1_26, qc1_27, qc1_28⟩ := tn_134 hTy0
      refine gfX10_153 C dX10_roundOf_8 hc1 rfl ?_
      refine x_icmp_gt C 36 dX10_roundOf_11 (by decide) (fun q2 => ?_) (fun q2 => ?_)
      · have rq2 : x3_6.toInt > c1_17.toInt := by rw [Int32.lt_iff_toInt_lt] at q2; omega
        refine x_iconst (v := (-1 : Int32)) C dX10_roundOf_36 (by decide) ?_
        have l_m1 : (-1 : Int32).toInt = -1 := by decide
        exact x_iretP C hr hlk (Nat.le_refl _) (Nat.le_refl _) dX10_roundOf_37 ⟨rfl, (-1 : Int32), rfl, trivial⟩
      · have rq2 : x3_6.toInt ≤ c1_17.toInt := by rw [Int32.lt_iff_toInt_lt] at q2; omega
        refine x_aload_n C 2 dX10_roundOf_14 rfl rfl ?_
        refine x_iload_n C 1 dX10_roundOf_15 rfl rfl ?_
        refine x_callVP C cl_X10_onward kmX10_187 (ci := 9) (b := 134) (As := [.int x2_6]) (rest := []) rfl hc1 (tc_X10_onward uu0 hTy0.1 x2_6) rfl rfl (Nat.le_of_ble_eq_true rfl) ⟨Nat.le_of_ble_eq_true rfl, Nat.le_of_ble_eq_true rfl⟩ ⟨Nat.le_of_ble_eq_true rfl, Nat.le_of_ble_eq_true rfl⟩ dX10_roundOf_16 ?_
        rintro _ _ ⟨rfl, r3, rfl, gr3⟩
        refine x_norm (st2 := [.int r3]) rfl rfl rfl rfl rfl ?_
        refine x_istore_n C [(2, .int r3), (3, .int x3_6), (0, .ref (z + 134)), (1, .int a1)] dX10_roundOf_19 rfl (by decide) rfl ?_
        refine x_iload_n C 0 dX10_roundOf_20 rfl rfl ?_
        refine x_iload_n C 3 dX10_roundOf_21 rfl rfl ?_
        refine x_callSP C cl_X10_has kmX10_168 (As := [.int r3, .int a1]) (rest := []) (tc_X10_has uu0 hTy0.1 r3 a1) rfl rfl (Nat.le_of_ble_eq_true rfl) ⟨Nat.le_of_ble_eq_true rfl, Nat.le_of_ble_eq_true rfl⟩ ⟨Nat.le_of_ble_eq_true rfl, Nat.le_of_ble_eq_true rfl⟩ dX10_roundOf_22 ?_
        rintro _ _ ⟨rfl, r5, rfl, gr5⟩
        refine x_norm (st2 := [.int r5]) rfl rfl rfl rfl rfl ?_
        have l_0 : (0 : Int32).toInt = 0 := by decide
        refine x_if_eq C 30 dX10_roundOf_25 (by decide) (fun q7 => ?_) (fun q7 => ?_)
        · have rq7 : r5.toInt = (0 : Int32).toInt := by rw [i_eq_iff] at q7; omega
          have l_1 : (1 : Int32).toInt = 1 := by decide
          obtain ⟨w8, ew8⟩ : ∃ w : Int32, w = x3_6 + Int32.ofInt 1 := ⟨_, rfl⟩
          have fw8 : w8.toInt = x3_6.toInt + (1) := by rw [ew8]; exact i_addk (by decide) (by omega) (by omega)
          refine x_iinc (v := w8) C 1 [(3, .int w8), (2, .int r3), (0, .ref (z + 134)), (1, .int a1)] dX10_roundOf_30 rfl ew8.symm (by decide) rfl ?_
          refine x_goto C 6 dX10_roundOf_33 (by decide) ?_
          exact ih6 (10 - w8.toInt).toNat (by omega)  w8 (by omega) (by omega) r3 rfl
        · have rq7 : ¬ r5.toInt = (0 : Int32).toInt := by rw [i_eq_iff] at q7; omega
          refine x_iload_n C 1 dX10_roundOf_28 rfl rfl ?_
          exact x_iretP C hr hlk (Nat.le_refl _) (Nat.le_refl _) dX10_roundOf_29 ⟨rfl, x3_6, rfl, trivial⟩
  refine x_iconst (v := (1 : Int32)) C dX10_roundOf_0 (by decide) ?_
  refine x_iload_n C 1 dX10_roundOf_1 rfl rfl ?_
  refine x_ishl C dX10_roundOf_2 ?_
  have l_1 : (1 : Int32).toInt = 1 := by decide
  refine x_top (fun w9 ew9 => ?_)
  refine x_istore_n C [(2, .int w9), (0, .ref (z + 134)), (1, .int a1)] dX10_roundOf_3 rfl (by decide) rfl ?_
  refine x_iconst (v := (1 : Int32)) C dX10_roundOf_4 (by decide) ?_
  refine x_istore_n C [(3, .int (1 : Int32)), (2, .int w9), (0, .ref (z + 134)), (1, .int a1)] dX10_roundOf_5 rfl (by decide) rfl ?_
  exact J6 (10 - (1 : Int32).toInt).toNat  (1 : Int32) (by omega) (by omega) w9 rfl
set_option maxRecDepth 20000 in
set_option maxHeartbeats 2000000 in
theorem tc_X10_matter {G : GT} {l : Launch} {z n : Nat} {g : Nat → Int} (uu0 : HpT) (hTz0 : TyN G z g uu0) (a1 : Int32) (a2 : Int32) : Mp G l z yX10_matter cX10_matter 3 (some .int) { frames := 3, cells := 0, slots := 0, locals := 67 } [.ref (z + 134), .int a1, .int a2] uu0 n (fun r v => uu0 = v ∧ ∃ x : Int32, r = some (.int x) ∧ True) := by
  refine mp_of (by decide +kernel) (Nat.le_of_ble_eq_true rfl) ?_
  intro p e s m below meth c C hr hlk hnm
  have hTy0 : TN G z g uu0 uu0 := TN.rf hTz0
  refine x_aload_n C 0 dX10_matter_0 rfl rfl ?_
  refine x_iload_n C 1 dX10_matter_1 rfl rfl ?_
  obtain ⟨c2_0, c2_2, c2_3, c2_4, c2_5, c2_6, c2_7, c2_8, c2_9, c2_15, c2_16, c2_17, c2_18, c2_25, c2_26, c2_28, c2_30, c2_31, c2_32, c2_34, c2_37, hc2, qc2_0, qc2_1, qc2_2, qc2_3, qc2_4, qc2_5, qc2_6, qc2_7, qc2_8, qc2_9, qc2_10, qc2_11, qc2_12, qc2_13, qc2_14, qc2_15, qc2_16, qc2_17, qc2_18, qc2_19, qc2_20, qc2_21, qc2_22, qc2_23, qc2_24, qc2_25, qc2_26, qc2_27, qc2_28⟩ := tn_134 hTy0
  refine x_callVP C cl_X10_isMatter kmX10_190 (ci := 9) (b := 134) (As := [.int a1]) (rest := []) rfl hc2 (tc_X10_isMatter uu0 hTy0.1 a1) rfl rfl (Nat.le_of_ble_eq_true rfl) ⟨Nat.le_of_ble_eq_true rfl, Nat.le_of_ble_eq_true rfl⟩ ⟨Nat.le_of_ble_eq_true rfl, Nat.le_of_ble_eq_true rfl⟩ dX10_matter_2 ?_
  rintro _ _ ⟨rfl, r1, rfl, gr1⟩
  refine x_norm (st2 := [.int r1]) rfl rfl rfl rfl rfl ?_
  have l_0 : (0 : Int32).toInt = 0 := by decide
  refine x_if_ne C 11 dX10_matter_5 (by decide) (fun q4 => ?_) (fun q4 => ?_)
  · have rq4 : ¬ r1.toInt = (0 : Int32).toInt := by rw [i_eq_iff] at q4; omega
    refine x_iload_n C 2 dX10_matter_11 rfl rfl ?_
    by_cases sw12 : a2.toInt < 0 ∨ 3 < a2.toInt
    · refine x_tableOut C 70 dX10_matter_12 sw12 (by decide) ?_
      refine x_ldc C kcX10_86 dX10_matter_70 ?_
      have l_m1000000002 : (-1000000002 : Int32).toInt = -1000000002 := by decide
      exact x_iretP C hr hlk (Nat.le_refl _) (Nat.le_refl _) dX10_matter_72 ⟨rfl, (-1000000002 : Int32), rfl, trivial⟩
    · rcases (by omega : a2.toInt = 0 ∨ a2.toInt = 1 ∨ a2.toInt = 2 ∨ a2.toInt = 3) with sx | sx | sx | sx
      · refine x_tableIn C 44 dX10_matter_12 (by omega) (by omega) (by rw [sx]; rfl) (by decide) ?_
        refine x_aload_n C 0 dX10_matter_44 rfl rfl ?_
        refine gfX10_32 C dX10_matter_45 hc2 rfl ?_
        refine x_iload_n C 1 dX10_matter_48 rfl rfl ?_
        obtain ⟨f5, hf5⟩ := tn_141 hTy0
        refine x_iald C hf5 (i_in (by omega) (by omega)) dX10_matter_49 ?_
        refine x_top (fun w6 ew6 => ?_)
        exact x_iretP C hr hlk (Nat.le_refl _) (Nat.le_refl _) dX10_matter_50 ⟨rfl, w6, rfl, trivial⟩
      · refine x_tableIn C 51 dX10_matter_12 (by omega) (by omega) (by rw [sx]; rfl) (by decide) ?_
        refine x_aload_n C 0 dX10_matter_51 rfl rfl ?_
        refine gfX10_35 C dX10_matter_52 hc2 rfl ?_
        refine x_iload_n C 1 dX10_matter_55 rfl rfl ?_
        obtain ⟨f7, hf7⟩ := tn_142 hTy0
        refine x_iald C hf7 (i_in (by omega) (by omega)) dX10_matter_56 ?_
        refine x_top (fun w8 ew8 => ?_)
        exact x_iretP C hr hlk (Nat.le_refl _) (Nat.le_refl _) dX10_matter_57 ⟨rfl, w8, rfl, trivial⟩
      · refine x_tableIn C 58 dX10_matter_12 (by omega) (by omega) (by rw [sx]; rfl) (by decide) ?_
        refine x_aload_n C 0 dX10_matter_58 rfl rfl ?_
        refine x_iload_n C 1 dX10_matter_59 rfl rfl ?_
        refine x_callVP C cl_X10_leadsFrom kmX10_194 (ci := 9) (b := 134) (As := [.int a1]) (rest := []) rfl hc2 (tc_X10_leadsFrom uu0 hTy0.1 a1 (by omega) (by omega)) rfl rfl (Nat.le_of_ble_eq_true rfl) ⟨Nat.le_of_ble_eq_true rfl, Nat.le_of_ble_eq_true rfl⟩ ⟨Nat.le_of_ble_eq_true rfl, Nat.le_of_ble_eq_true rfl⟩ dX10_matter_60 ?_
        rintro _ _ ⟨rfl, r9, rfl, gr9⟩
        refine x_norm (st2 := [.int r9]) rfl rfl rfl rfl rfl ?_
        exact x_iretP C hr hlk (Nat.le_refl _) (Nat.le_refl _) dX10_matter_63 ⟨rfl, r9, rfl, trivial⟩
      · refine x_tableIn C 64 dX10_matter_12 (by omega) (by omega) (by rw [sx]; rfl) (by decide) ?_
        refine x_aload_n C 0 dX10_matter_64 rfl rfl ?_
        refine x_iload_n C 1 dX10_matter_65 rfl rfl ?_
        refine x_callVP C cl_X10_roundOf kmX10_197 (ci := 9) (b := 134) (As := [.int a1]) (rest := []) rfl hc2 (tc_X10_roundOf uu0 hTy0.1 a1 (by omega) (by omega)) rfl rfl (Nat.le_of_ble_eq_true rfl) ⟨Nat.le_of_ble_eq_true rfl, Nat.le_of_ble_eq_true rfl⟩ ⟨Nat.le_of_ble_eq_true rfl, Nat.le_of_ble_eq_true rfl⟩ dX10_matter_66 ?_
        rintro _ _ ⟨rfl, r11, rfl, gr11⟩
        refine x_norm (st2 := [.int r11]) rfl rfl rfl rfl rfl ?_
        exact x_iretP C hr hlk (Nat.le_refl _) (Nat.le_refl _) dX10_matter_69 ⟨rfl, r11, rfl, trivial⟩
  · have rq4 : r1.toInt = (0 : Int32).toInt := by rw [i_eq_iff] at q4; omega
    refine x_ldc C kcX10_193 dX10_matter_8 ?_
    have l_m1000000001 : (-1000000001 : Int32).toInt = -1000000001 := by decide
    exact x_iretP C hr hlk (Nat.le_refl _) (Nat.le_refl _) dX10_matter_10 ⟨rfl, (-1000000001 : Int32), rfl, trivial⟩
