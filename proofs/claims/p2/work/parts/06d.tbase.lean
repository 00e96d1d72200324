/-! NUMBERS for typed walks -/
theorem i_sub {x y : Int32} (h1 : -2147483648 ≤ x.toInt - y.toInt) (h2 : x.toInt - y.toInt < 2147483648) : (x - y).toInt = x.toInt - y.toInt := by
  rw [Int32.toInt_sub]
  exact fbx_bmod h1 h2
theorem i_mul {x y : Int32} (h1 : -2147483648 ≤ x.toInt * y.toInt) (h2 : x.toInt * y.toInt < 2147483648) : (x * y).toInt = x.toInt * y.toInt := by
  rw [Int32.toInt_mul]
  exact fbx_bmod h1 h2
theorem i_addk {x y : Int32} {k : Int} (hk : y.toInt = k) (h1 : -2147483648 ≤ x.toInt + k) (h2 : x.toInt + k < 2147483648) : (x + y).toInt = x.toInt + k := by
  rw [i_add (by rw [hk]; exact h1) (by rw [hk]; exact h2), hk]
theorem i_mulkl {x y : Int32} {k : Int} (hk : x.toInt = k) (h1 : -2147483648 ≤ k * y.toInt) (h2 : k * y.toInt < 2147483648) : (x * y).toInt = k * y.toInt := by
  rw [i_mul (by rw [hk]; exact h1) (by rw [hk]; exact h2), hk]
theorem i_mulkr {x y : Int32} {k : Int} (hk : y.toInt = k) (h1 : -2147483648 ≤ k * x.toInt) (h2 : k * x.toInt < 2147483648) : (x * y).toInt = k * x.toInt := by
  rw [Int.mul_comm] at h1 h2
  rw [i_mul (by rw [hk]; exact h1) (by rw [hk]; exact h2), hk, Int.mul_comm]
theorem i_in {i : Int32} {n : Nat} (h1 : 0 ≤ i.toInt) (h2 : i.toInt < n) : vp_in i n := vp_in_iff.mpr ⟨h1, h2⟩
theorem i_nat {x : Int32} (h : 0 ≤ x.toInt) : ∃ k : Nat, k < 2 ^ 31 ∧ x = nI k ∧ x.toInt = k := by
  obtain ⟨j, hj, e⟩ := nI_of (x := x) (by rw [Int32.lt_iff_toInt_lt, Int32.toInt_zero]; omega)
  exact ⟨j, hj, e, by rw [e]; exact nI_toInt hj⟩
theorem i_cl {x : Int32} {n : Nat} (h : 0 ≤ x.toInt) (h2 : x.toInt < n) : x.toNatClampNeg < n := by
  obtain ⟨k, hk, e, e2⟩ := i_nat h
  rw [e, nI_clamp hk]
  omega
theorem i_upd {f : Nat → Int32} {n k : Nat} {v : Int32} {a b : Int} (h : ∀ i, i < n → a ≤ (f i).toInt ∧ (f i).toInt ≤ b) (hv : a ≤ v.toInt ∧ v.toInt ≤ b) : ∀ j, j < n → a ≤ (upd f k v j).toInt ∧ (upd f k v j).toInt ≤ b := by
  intro j hj
  by_cases e : j = k
  · subst e
    rw [pk_us]
    exact hv
  · rw [pk_un e]
    exact h j hj
theorem i_ofnat {n : Nat} (h : n < 2147483648) : (Int32.ofNat n).toInt = n := nI_toInt h
theorem i_max (x y : Int32) : ((if x < y then y else x).toInt = x.toInt ∨ (if x < y then y else x).toInt = y.toInt) ∧ (if x < y then y else x).toInt ≥ x.toInt ∧ (if x < y then y else x).toInt ≥ y.toInt := by
  by_cases h : x < y
  · rw [if_pos h]; rw [Int32.lt_iff_toInt_lt] at h; omega
  · rw [if_neg h]; rw [Int32.lt_iff_toInt_lt] at h; omega
theorem i_min (x y : Int32) : ((if y < x then y else x).toInt = x.toInt ∨ (if y < x then y else x).toInt = y.toInt) ∧ (if y < x then y else x).toInt ≤ x.toInt ∧ (if y < x then y else x).toInt ≤ y.toInt := by
  by_cases h : y < x
  · rw [if_pos h]; rw [Int32.lt_iff_toInt_lt] at h; omega
  · rw [if_neg h]; rw [Int32.lt_iff_toInt_lt] at h; omega
theorem i_bool {x : Int32} (h : 0 ≤ x.toInt ∧ x.toInt ≤ 1) : narrow .boolean (.int x) = .int x := by
  obtain ⟨k, hk, e, e2⟩ := i_nat h.1
  have : k = 0 ∨ k = 1 := by omega
  rcases this with rfl | rfl
  · rw [e]; rfl
  · rw [e]; rfl
theorem i_and_l {x y : Int32} (h : 0 ≤ x.toInt) : 0 ≤ (x &&& y).toInt ∧ (x &&& y).toInt ≤ x.toInt := by
  obtain ⟨k, hk, e, e2⟩ := i_nat h
  have h1 : (x &&& y).toBitVec.toNat ≤ k := by
    rw [Int32.toBitVec_and, BitVec.toNat_and, e, pk_tn (by omega)]
    exact Nat.and_le_left
  have h3 : x &&& y = nI (x &&& y).toBitVec.toNat := by
    apply Int32.toBitVec_inj.mp
    show _ = (Int32.ofNat _).toBitVec
    rw [Int32.toBitVec_ofNat']
    simp
  rw [h3, nI_toInt (by omega), e2]
  omega
theorem i_and_r {x y : Int32} (h : 0 ≤ y.toInt) : 0 ≤ (x &&& y).toInt ∧ (x &&& y).toInt ≤ y.toInt := by
  rw [Int32.and_comm]
  exact i_and_l h
theorem i_divk {x y : Int32} {k : Nat} (hk : y.toInt = k) (h0 : 0 < k) (h : 0 ≤ x.toInt) : (x / y).toInt = x.toInt / k := by
  obtain ⟨a, ha, e, e2⟩ := i_nat h
  obtain ⟨b, hb, e3, e4⟩ := i_nat (x := y) (by omega)
  have : b = k := by omega
  subst this
  rw [e, e3, pk_div ha h0 hb, nI_toInt (Nat.lt_of_le_of_lt (Nat.div_le_self _ _) ha), nI_toInt ha]
  exact Int.natCast_ediv _ _
theorem i_remk {x y : Int32} {k : Nat} (hk : y.toInt = k) (h0 : 0 < k) (h : 0 ≤ x.toInt) : (x - x / y * y).toInt = x.toInt % k := by
  obtain ⟨a, ha, e, e2⟩ := i_nat h
  obtain ⟨b, hb, e3, e4⟩ := i_nat (x := y) (by omega)
  have : b = k := by omega
  subst this
  rw [e, e3, pk_rem ha h0 hb, nI_toInt (Nat.lt_of_le_of_lt (Nat.mod_le _ _) ha), nI_toInt ha]
  exact Int.natCast_emod _ _
theorem i_sof {a : Int32} (h : 0 ≤ a.toInt) (h2 : a.toInt ≤ 8) : 0 ≤ ((1 : Int32) <<< (a &&& 31) - 1).toInt ∧ ((1 : Int32) <<< (a &&& 31) - 1).toInt ≤ 255 := by
  obtain ⟨k, hk, e, e2⟩ := i_nat h
  have : k = 0 ∨ k = 1 ∨ k = 2 ∨ k = 3 ∨ k = 4 ∨ k = 5 ∨ k = 6 ∨ k = 7 ∨ k = 8 := by omega
  rw [e]
  rcases this with rfl | rfl | rfl | rfl | rfl | rfl | rfl | rfl | rfl <;> decide
theorem x_topl {p : Program} {l : Launch} {e : Env} {R : Room} {s : State} {m : MethodId} {args : Array Value} {below : List Frame} {meth : Method} {c : Code} {G : GT} {z nL : Nat} {Z : State → Prop} {pc : Nat} {lo : List (Nat × Value)} {st : List Value} {u : HpT} {n kc ks : Nat} {v : Int64} (k : ∀ w : Int64, w = v → Xw p l e R s m args below meth c G z nL Z pc lo (.long w :: st) u n kc ks) : Xw p l e R s m args below meth c G z nL Z pc lo (.long v :: st) u n kc ks := k v rfl
theorem i_two {f : Nat → Option Nat} {z : Nat} {i : Int32} (h0 : f 0 = some (z + 126)) (h1 : f 1 = some (z + 130)) (ha : 0 ≤ i.toInt) (hb : i.toInt < 2) : ∃ o, f i.toNatClampNeg = some (z + o) ∧ (o = 126 ∨ o = 130) := by
  obtain ⟨k, hk, e, e2⟩ := i_nat ha
  have : k = 0 ∨ k = 1 := by omega
  rw [e, nI_clamp hk]
  rcases this with rfl | rfl
  · exact ⟨126, h0, Or.inl rfl⟩
  · exact ⟨130, h1, Or.inr rfl⟩
