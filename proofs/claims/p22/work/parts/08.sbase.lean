/-! NUMBERS for typed walks -/
theorem i_sub {x y : Int32} (h1 : -2147483648 ≤ x.toInt - y.toInt) (h2 : x.toInt - y.toInt < 2147483648) : (x - y).toInt = x.toInt - y.toInt := by
  rw [Int32.toInt_sub]
  exact fbx_bmod h1 h2
theorem i_mul {x y : Int32} (h1 : -2147483648 ≤ x.toInt * y.toInt) (h2 : x.toInt * y.toInt < 2147483648) : (x * y).toInt = x.toInt * y.toInt := by
  rw [Int32.toInt_mul]
  exact fbx_bmod h1 h2
theorem i_addk {x y : Int32} {k : Int} (hk : y.toInt = k) (h1 : -2147483648 ≤ x.toInt + k) (h2 : x.toInt + k < 2147483648) : (x + y).toInt = x.toInt + k := by
  rw [i_add (by rw [hk]; exact h1) (by rw [hk]; exact h2), hk]
theorem i_mulkl {x y : Int32} {k : Int} (hk : x.toInt = k) (h1 : -2147483648 ≤ k * y.toInt) (h2 : k * y.toInt < 2147483648) : (x * y).toInt = k * y.toInt := by
  rw [i_mul (by rw [hk]; exact h1) (by rw [hk]; exact h2), hk]
theorem i_mulkr {x y : Int32} {k : Int} (hk : y.toInt = k) (h1 : -2147483648 ≤ k * x.toInt) (h2 : k * x.toInt < 2147483648) : (x * y).toInt = k * x.toInt := by
  rw [Int.mul_comm] at h1 h2
  rw [i_mul (by rw [hk]; exact h1) (by rw [hk]; exact h2), hk, Int.mul_comm]
theorem i_in {i : Int32} {n : Nat} (h1 : 0 ≤ i.toInt) (h2 : i.toInt < n) : vp_in i n := vp_in_iff.mpr ⟨h1, h2⟩
theorem i_nat {x : Int32} (h : 0 ≤ x.toInt) : ∃ k : Nat, k < 2 ^ 31 ∧ x = nI k ∧ x.toInt = k := by
  obtain ⟨j, hj, e⟩ := nI_of (x := x) (by rw [Int32.lt_iff_toInt_lt, Int32.toInt_zero]; omega)
  exact ⟨j, hj, e, by rw [e]; exact nI_toInt hj⟩
theorem i_cl {x : Int32} {n : Nat} (h : 0 ≤ x.toInt) (h2 : x.toInt < n) : x.toNatClampNeg < n := by
  obtain ⟨k, hk, e, e2⟩ := i_nat h
  rw [e, nI_clamp hk]
  omega
theorem i_upd {f : Nat → Int32} {n k : Nat} {v : Int32} {a b : Int} (h : ∀ i, i < n → a ≤ (f i).toInt ∧ (f i).toInt ≤ b) (hv : a ≤ v.toInt ∧ v.toInt ≤ b) : ∀ j, j < n → a ≤ (upd f k v j).toInt ∧ (upd f k v j).toInt ≤ b := by
  intro j hj
  by_cases e : j = k
  · subst e
    rw [pk_us]
    exact hv
  · rw [pk_un e]
    exact h j hj
theorem i_ofnat {n : Nat} (h : n < 2147483648) : (Int32.ofNat n).toInt = n := nI_toInt h
theorem i_max (x y : Int32) : ((if x < y then y else x).toInt = x.toInt ∨ (if x < y then y else x).toInt = y.toInt) ∧ (if x < y then y else x).toInt ≥ x.toInt ∧ (if x < y then y else x).toInt ≥ y.toInt := by
  by_cases h : x < y
  · rw [if_pos h]; rw [Int32.lt_iff_toInt_lt] at h; omega
  · rw [if_neg h]; rw [Int32.lt_iff_toInt_lt] at h; omega
theorem i_min (x y : Int32) : ((if y < x then y else x).toInt = x.toInt ∨ (if y < x then y else x).toInt = y.toInt) ∧ (if y < x then y else x).toInt ≤ x.toInt ∧ (if y < x then y else x).toInt ≤ y.toInt := by
  by_cases h : y < x
  · rw [if_pos h]; rw [Int32.lt_iff_toInt_lt] at h; omega
  · rw [if_neg h]; rw [Int32.lt_iff_toInt_lt] at h; omega
theorem i_bool {x : Int32} (h : 0 ≤ x.toInt ∧ x.toInt ≤ 1) : narrow .boolean (.int x) = .int x := by
  obtain ⟨k, hk, e, e2⟩ := i_nat h.1
  have : k = 0 ∨ k = 1 := by omega
  rcases this with rfl | rfl
  · rw [e]; rfl
  · rw [e]; rfl
theorem i_and_l {x y : Int32} (h : 0 ≤ x.toInt) : 0 ≤ (x &&& y).toInt ∧ (x &&& y).toInt ≤ x.toInt := by
  obtain ⟨k, hk, e, e2⟩ := i_nat h
  have h1 : (x &&& y).toBitVec.toNat ≤ k := by
    rw [Int32.toBitVec_and, BitVec.toNat_and, e, pk_tn (by omega)]
    exact Nat.and_le_left
  have h3 : x &&& y = nI (x &&& y).toBitVec.toNat := by
    apply Int32.toBitVec_inj.mp
    show _ = (Int32.ofNat _).toBitVec
    rw [Int32.toBitVec_ofNat']
    simp
  rw [h3, nI_toInt (by omega), e2]
  omega
theorem i_and_r {x y : Int32} (h : 0 ≤ y.toInt) : 0 ≤ (x &&& y).toInt ∧ (x &&& y).toInt ≤ y.toInt := by
  rw [Int32.and_comm]
  exact i_and_l h
theorem i_divk {x y : Int32} {k : Nat} (hk : y.toInt = k) (h0 : 0 < k) (h : 0 ≤ x.toInt) : (x / y).toInt = x.toInt / k := by
  obtain ⟨a, ha, e, e2⟩ := i_nat h
  obtain ⟨b, hb, e3, e4⟩ := i_nat (x := y) (by omega)
  have : b = k := by omega
  subst this
  rw [e, e3, pk_div ha h0 hb, nI_toInt (Nat.lt_of_le_of_lt (Nat.div_le_self _ _) ha), nI_toInt ha]
  exact Int.natCast_ediv _ _
theorem i_remk {x y : Int32} {k : Nat} (hk : y.toInt = k) (h0 : 0 < k) (h : 0 ≤ x.toInt) : (x - x / y * y).toInt = x.toInt % k := by
  obtain ⟨a, ha, e, e2⟩ := i_nat h
  obtain ⟨b, hb, e3, e4⟩ := i_nat (x := y) (by omega)
  have : b = k := by omega
  subst this
  rw [e, e3, pk_rem ha h0 hb, nI_toInt (Nat.lt_of_le_of_lt (Nat.mod_le _ _) ha), nI_toInt ha]
  exact Int.natCast_emod _ _
theorem i_sof {a : Int32} (h : 0 ≤ a.toInt) (h2 : a.toInt ≤ 8) : 0 ≤ ((1 : Int32) <<< (a &&& 31) - 1).toInt ∧ ((1 : Int32) <<< (a &&& 31) - 1).toInt ≤ 255 := by
  obtain ⟨k, hk, e, e2⟩ := i_nat h
  have : k = 0 ∨ k = 1 ∨ k = 2 ∨ k = 3 ∨ k = 4 ∨ k = 5 ∨ k = 6 ∨ k = 7 ∨ k = 8 := by omega
  rw [e]
  rcases this with rfl | rfl | rfl | rfl | rfl | rfl | rfl | rfl | rfl <;> decide

theorem bits_lt {x : Int32} (h : ¬ x.toInt = 0) : (x &&& (x - 1)).toBitVec.toNat < x.toBitVec.toNat := by
  have h0 : x.toBitVec.toNat ≠ 0 := by
    intro h1
    apply h
    have h2 : x.toBitVec = 0#32 := BitVec.eq_of_toNat_eq (by rw [h1]; rfl)
    rw [show x.toInt = x.toBitVec.toInt from rfl, h2]
    rfl
  have h3 : (x - 1).toBitVec.toNat = x.toBitVec.toNat - 1 := by
    rw [Int32.toBitVec_sub, BitVec.toNat_sub]
    have h4 := x.toBitVec.isLt
    rw [show ((1 : Int32).toBitVec).toNat = 1 from rfl]
    omega
  rw [Int32.toBitVec_and, BitVec.toNat_and]
  have h5 : x.toBitVec.toNat &&& (x - 1).toBitVec.toNat ≤ (x - 1).toBitVec.toNat := Nat.and_le_right
  omega

theorem bmod64 {a : Int} (h1 : -9223372036854775808 ≤ a) (h2 : a < 9223372036854775808) : a.bmod (2 ^ 64) = a := by
  rw [Int.bmod_def]
  omega
theorem bmod32 {a : Int} (h1 : -2147483648 ≤ a) (h2 : a < 2147483648) : a.bmod (2 ^ 32) = a := by
  rw [Int.bmod_def]
  omega
theorem clr_low {j n : Nat} (h0 : n ≠ 0) (h : 2 ^ j ∣ n) : 2 ^ (j + 1) ∣ (n &&& (n - 1)) := by
  apply Nat.dvd_of_mod_eq_zero
  rw [Nat.and_mod_two_pow]
  obtain ⟨q, rfl⟩ := h
  have hp : 0 < 2 ^ j := Nat.two_pow_pos j
  have e1 : 2 ^ j * q % 2 ^ (j + 1) = 2 ^ j * (q % 2) := by rw [Nat.pow_succ, Nat.mul_mod_mul_left]
  rw [e1]
  rcases Nat.mod_two_eq_zero_or_one q with h2 | h2
  · rw [h2, Nat.mul_zero, Nat.zero_and]
  · rw [h2, Nat.mul_one]
    have e2 : 2 ^ j * q - 1 = 2 ^ (j + 1) * (q / 2) + (2 ^ j - 1) := by
      have h3 : q = 2 * (q / 2) + 1 := by omega
      have h4 : 2 ^ j * q = 2 ^ (j + 1) * (q / 2) + 2 ^ j := by
        conv => lhs; rw [h3]
        rw [Nat.mul_add, Nat.mul_one, Nat.pow_succ, Nat.mul_assoc]
      omega
    rw [e2, Nat.mul_add_mod, Nat.mod_eq_of_lt (by rw [Nat.pow_succ]; omega), Nat.and_two_pow_sub_one_eq_mod, Nat.mod_self]
theorem i_tn {x : Int32} (h : 0 ≤ x.toInt) : (x.toBitVec.toNat : Int) = x.toInt := by
  rw [show x.toInt = x.toBitVec.toInt from rfl] at h ⊢
  rw [BitVec.toInt_eq_toNat_cond] at h ⊢
  split at h
  · rename_i h1; rw [if_pos h1]
  · have := x.toBitVec.isLt; omega
theorem i_ofn {x : Int32} (h : x.toBitVec.toNat < 2147483648) : x.toInt = x.toBitVec.toNat := by
  rw [show x.toInt = x.toBitVec.toInt from rfl]
  rw [BitVec.toInt_eq_toNat_cond, if_pos (by omega)]
theorem i_or {k : Nat} {x y : Int32} (hk : k ≤ 31) (h0 : 0 ≤ x.toInt) (h1 : x.toInt < (2 ^ k : Nat)) (h2 : 0 ≤ y.toInt) (h3 : y.toInt < (2 ^ k : Nat)) : 0 ≤ (x ||| y).toInt ∧ (x ||| y).toInt < (2 ^ k : Nat) := by
  have e1 := i_tn h0
  have e2 := i_tn h2
  have h4 : (x ||| y).toBitVec.toNat < 2 ^ k := by
    rw [Int32.toBitVec_or, BitVec.toNat_or]
    exact Nat.or_lt_two_pow (by omega) (by omega)
  have h5 : 2 ^ k ≤ 2 ^ 31 := Nat.pow_le_pow_right (by decide) hk
  have e3 := i_ofn (x := x ||| y) (by omega)
  omega
theorem shl_tab : ∀ j : Fin 31, ((1 : Int32) <<< (Int32.ofNat j.1 &&& 31)).toInt = (2 ^ j.1 : Nat) := by decide
theorem i_shl {t : Int32} (h0 : 0 ≤ t.toInt) (h1 : t.toInt ≤ 30) : ((1 : Int32) <<< (t &&& 31)).toInt = (2 ^ t.toInt.toNat : Nat) := by
  have e : t = Int32.ofNat t.toInt.toNat := by
    apply Int32.toInt_inj.mp
    rw [Int32.toInt_ofNat_of_lt (by omega)]
    omega
  have := shl_tab ⟨t.toInt.toNat, by omega⟩
  rw [← e] at this
  exact this
theorem i_shl1 {k : Nat} {t : Int32} (hk : k ≤ 30) (h0 : 0 ≤ t.toInt) (h1 : t.toInt ≤ k) : 1 ≤ ((1 : Int32) <<< (t &&& 31)).toInt ∧ ((1 : Int32) <<< (t &&& 31)).toInt ≤ (2 ^ k : Nat) := by
  rw [i_shl h0 (by omega)]
  have h4 : 2 ^ t.toInt.toNat ≤ 2 ^ k := Nat.pow_le_pow_right (by decide) (by omega)
  have h6 := Nat.two_pow_pos t.toInt.toNat
  omega
theorem i_divp {x y : Int32} (h0 : 0 ≤ x.toInt) (h1 : 0 < y.toInt) : (x / y).toInt = x.toInt / y.toInt := by
  rw [Int32.toInt_div, Int.tdiv_eq_ediv_of_nonneg h0]
  have h2 : 0 ≤ x.toInt / y.toInt := Int.ediv_nonneg h0 (by omega)
  have h3 : x.toInt / y.toInt ≤ x.toInt := Int.ediv_le_self _ h0
  have h4 : x.toInt ≤ 2147483647 := Int32.toInt_le x
  exact bmod32 (by omega) (by omega)
theorem i_divb {x y : Int32} (h0 : 0 ≤ x.toInt) (h1 : 0 < y.toInt) : 0 ≤ (x / y).toInt ∧ (x / y).toInt ≤ x.toInt := by
  rw [i_divp h0 h1]
  exact ⟨Int.ediv_nonneg h0 (by omega), Int.ediv_le_self _ h0⟩
theorem l_divp {x y : Int64} (h0 : 0 ≤ x.toInt) (h1 : 0 < y.toInt) : (x / y).toInt = x.toInt / y.toInt := by
  rw [Int64.toInt_div, Int.tdiv_eq_ediv_of_nonneg h0]
  have h2 : 0 ≤ x.toInt / y.toInt := Int.ediv_nonneg h0 (by omega)
  have h3 : x.toInt / y.toInt ≤ x.toInt := Int.ediv_le_self _ h0
  have h4 := Int64.toInt_lt x
  exact bmod64 (by omega) (by omega)
theorem l_remp {x y : Int64} (h0 : 0 ≤ x.toInt) (h1 : 0 < y.toInt) : (x - x / y * y).toInt = x.toInt % y.toInt := by
  have h2 : 0 ≤ x.toInt / y.toInt := Int.ediv_nonneg h0 (by omega)
  have h3 : x.toInt / y.toInt ≤ x.toInt := Int.ediv_le_self _ h0
  have h4 := Int64.toInt_lt x
  have h5 : x.toInt / y.toInt * y.toInt ≤ x.toInt := Int.ediv_mul_le _ (by omega)
  have h6 : 0 ≤ x.toInt / y.toInt * y.toInt := Int.mul_nonneg h2 (by omega)
  rw [Int64.toInt_sub, Int64.toInt_mul, l_divp h0 h1, bmod64 (a := x.toInt / y.toInt * y.toInt) (by omega) (by omega), bmod64 (by omega) (by omega)]
  have := Int.mul_ediv_add_emod x.toInt y.toInt
  rw [Int.mul_comm] at this
  omega
theorem l_lok {x : Int64} (h0 : 0 ≤ x.toInt) (h1 : x.toInt < 2147483648) : x.toInt32.toInt = x.toInt ∧ x.toInt32.toInt64 = x := by
  have e : x.toInt32.toInt = x.toInt := by rw [Int64.toInt_toInt32]; exact bmod32 (by omega) (by omega)
  refine ⟨e, Int64.toInt_inj.mp ?_⟩
  rw [Int32.toInt_toInt64, e]
theorem l_seed {x : Int32} (h0 : 0 ≤ x.toInt) : (x.toInt64 * (1103515245 : Int64) + (12345 : Int64)).toInt = x.toInt * 1103515245 + 12345 := by
  have h1 : x.toInt ≤ 2147483647 := Int32.toInt_le x
  rw [Int64.toInt_add, Int64.toInt_mul, Int32.toInt_toInt64]
  rw [show (1103515245 : Int64).toInt = 1103515245 by decide, show (12345 : Int64).toInt = 12345 by decide]
  rw [bmod64 (a := x.toInt * 1103515245) (by omega) (by omega), bmod64 (by omega) (by omega)]
theorem has_tab : ∀ k : Fin 64, ∀ j : Fin 9, ¬ ((Int32.ofNat k.1 >>> (Int32.ofNat j.1 &&& 31)) &&& (1 : Int32)) = (1 : Int32) ∨ j.1 ≤ 5 := by decide

/-! SAFETY: a function ends well, and what it gives satisfies P -/
def Sf {α : Type} (P : α → Prop) (o : Option α) : Prop := ∃ v, o = some v ∧ P v
theorem i_lok (y : Int32) : y.toInt64.toInt32.toInt64 = y.toInt64 := by rw [Int32.toInt32_toInt64]
theorem i_clq {i : Int32} (h : 0 ≤ i.toInt) : (i.toNatClampNeg : Int) = i.toInt := by
  obtain ⟨k, hk, e, e2⟩ := i_nat h
  rw [e2, e, nI_clamp hk]
theorem i_z01 {x : Int32} (h0 : 0 ≤ x.toInt) (h1 : x.toInt ≤ 1) : x = 0 ∨ x = 1 := by
  obtain ⟨k, hk, e, e2⟩ := i_nat h0
  have : k = 0 ∨ k = 1 := by omega
  rcases this with rfl | rfl
  · exact Or.inl e
  · exact Or.inr e
def lpP {S T : Type} (X : S → Prop) (μ : S → Nat) (m0 : Nat) (P : T → Prop) : Sum S T → Prop
  | Sum.inl s => X s ∧ μ s < m0
  | Sum.inr r => P r
section SFS
variable {α β : Type} {P : α → Prop}
theorem sf_some {v : α} (h : P v) : Sf P (some v) := ⟨v, rfl, h⟩
theorem sf_rd {N : Nat} {a : Nat → Int32} {i : Int32} {K : Int32 → Option α} (h0 : 0 ≤ i.toInt) (h1 : i.toInt < N) (k : ∀ x, x = a i.toNatClampNeg → Sf P (K x)) : Sf P (rd N a i K) := by
  unfold rd
  rw [if_pos ⟨h0, h1⟩]
  exact k _ rfl
theorem sf_rdl {N : Nat} {a : Nat → Int32} {i : Int32} {K : Int64 → Option α} (h0 : 0 ≤ i.toInt) (h1 : i.toInt < N) (k : ∀ x, x = (a i.toNatClampNeg).toInt64 → Sf P (K x)) : Sf P (rdl N a i K) := by
  unfold rdl
  rw [if_pos ⟨h0, h1⟩]
  exact k _ rfl
theorem sf_wr {N c : Nat} {i v : Int32} {w : Mem} {K : Mem → Option α} (h0 : 0 ≤ i.toInt) (h1 : i.toInt < N) (k : ∀ w2, w2 = wu w c i.toNatClampNeg v → Sf P (K w2)) : Sf P (wr N c i v w K) := by
  unfold wr
  rw [if_pos ⟨h0, h1⟩]
  exact k _ rfl
theorem sf_wrl {N c : Nat} {i : Int32} {v : Int64} {w : Mem} {K : Mem → Option α} (h0 : 0 ≤ i.toInt) (h1 : i.toInt < N) (hv : v.toInt32.toInt64 = v) (k : ∀ w2, w2 = wu w c i.toNatClampNeg v.toInt32 → Sf P (K w2)) : Sf P (wrl N c i v w K) := by
  unfold wrl
  rw [if_pos ⟨⟨h0, h1⟩, hv⟩]
  exact k _ rfl
theorem sf_pw {c i : Nat} {v : Int32} {w : Mem} {K : Mem → Option α} (k : ∀ w2, w2 = wu w c i v → Sf P (K w2)) : Sf P (pw c i v w K) := k _ rfl
theorem sf_pl {c i : Nat} {v : Int64} {w : Mem} {K : Mem → Option α} (hv : v.toInt32.toInt64 = v) (k : ∀ w2, w2 = wu w c i v.toInt32 → Sf P (K w2)) : Sf P (pl c i v w K) := by
  unfold pl
  rw [if_pos hv]
  exact k _ rfl
theorem sf_pr {c i b : Nat} {w : Mem} {K : Mem → Option α} (hb : b = 112 ∨ b = 119) (k : ∀ w2, w2 = wu w c i (if b = 112 then 0 else 1) → Sf P (K w2)) : Sf P (pr c i b w K) := by
  unfold pr
  rw [if_pos hb]
  exact k _ rfl
theorem sf_rg {i : Int32} {K : Nat → Option α} (h0 : 0 ≤ i.toInt) (h1 : i.toInt < 30) (k : ∀ o, o = 8 + 3 * i.toNatClampNeg → EvO o → (8 ≤ o ∧ o ≤ 95) → Sf P (K o)) : Sf P (rg i K) := by
  unfold rg
  rw [if_pos ⟨h0, h1⟩]
  have := i_cl0 (n := 30) h0 h1
  exact k _ rfl (Or.inr (Or.inr (Or.inr ⟨_, this, rfl⟩))) (by omega)
theorem sf_ri {i : Int32} {K : Nat → Option α} (h0 : 0 ≤ i.toInt) (h1 : i.toInt < 2) (k : ∀ o, o = 126 + 4 * i.toNatClampNeg → ImO o → (o = 126 ∨ o = 130) → Sf P (K o)) : Sf P (ri i K) := by
  unfold ri
  rw [if_pos ⟨h0, h1⟩]
  have := i_cl0 (n := 2) h0 h1
  have h2 : 126 + 4 * i.toNatClampNeg = 126 ∨ 126 + 4 * i.toNatClampNeg = 130 := by omega
  exact k _ rfl h2 h2
theorem sf_nz {y : Int32} {o : Option α} (h : ¬ y = 0) (k : Sf P o) : Sf P (nz y o) := by
  unfold nz
  rw [if_neg h]
  exact k
theorem sf_nzl {y : Int64} {o : Option α} (h : ¬ y = 0) (k : Sf P o) : Sf P (nzl y o) := by
  unfold nzl
  rw [if_neg h]
  exact k
theorem sf_zr {v : Int32} {o : Option α} (h : v = 0 ∨ v = 1) (k : Sf P o) : Sf P (zr v o) := by
  unfold zr
  rw [if_pos h]
  exact k
theorem sf_lt {x : Int32} {K : Int32 → Option α} (k : ∀ y, y = x → Sf P (K y)) : Sf P (lt x K) := k _ rfl
theorem sf_ltl {x : Int64} {K : Int64 → Option α} (k : ∀ y, y = x → Sf P (K y)) : Sf P (ltl x K) := k _ rfl
theorem sf_ite {c : Prop} [Decidable c] {A B : Option α} (h1 : c → Sf P A) (h2 : ¬ c → Sf P B) : Sf P (if c then A else B) := by
  by_cases h : c
  · rw [if_pos h]; exact h1 h
  · rw [if_neg h]; exact h2 h
theorem sf_bind {Q : β → Prop} {F : Option β} {K : β → Option α} (hF : Sf Q F) (k : ∀ q, F = some q → Q q → Sf P (K q)) : Sf P (F.bind K) := by
  obtain ⟨q, h1, h2⟩ := hF
  rw [h1]
  exact k q h1 h2
theorem sf_mono {Q : α → Prop} {o : Option α} (h : Sf Q o) (hi : ∀ v, o = some v → Q v → P v) : Sf P o := by
  obtain ⟨v, h1, h2⟩ := h
  exact ⟨v, h1, hi v h1 h2⟩
theorem sf_lp {S T : Type} {P : T → Prop} {f : S → Option (Sum S T)} (X : S → Prop) (μ : S → Nat) (hb : ∀ s, X s → Sf (lpP X μ (μ s) P) (f s)) : ∀ (n : Nat) (s : S), X s → μ s < n → Sf P (lp f n s) := by
  intro n
  induction n with
  | zero => intro s _ h; omega
  | succ n ih =>
    intro s hX hn
    obtain ⟨v, h1, h2⟩ := hb s hX
    unfold lp
    rw [h1]
    match v, h2 with
    | Sum.inl s2, h2 => exact ih s2 h2.1 (by have := h2.2; omega)
    | Sum.inr r, h2 => exact ⟨r, rfl, h2⟩
end SFS
/-! THE RANGES: what may stand at each place; g 0: whether a bridge stands on the other side, g 1, g 2: which images are kept there -/
def Rg (g : Nat → Int) (k i : Nat) (x : Int) : Prop :=
  if k = 1 then (if i = 1 then 0 ≤ x ∧ x ≤ 240 else True)
  else if k = 6 then (if i = 1 then 0 ≤ x ∧ x ≤ 30 else if i = 2 then 0 ≤ x ∧ x ≤ 29 else True)
  else if k = 101 then (if i = 4 then 0 ≤ x ∧ x ≤ 6 else True)
  else if k = 106 then (if i = 2 then 0 ≤ x ∧ x ≤ 6 else True)
  else if k = 109 then (if i = 2 then 0 ≤ x ∧ x ≤ 20 else True)
  else if k = 134 then (if i = 0 then 0 ≤ x ∧ x ≤ 240 else if i = 2 then 0 ≤ x ∧ x ≤ 241 else if i = 8 then 0 ≤ x ∧ x ≤ 8 else if i = 9 then 0 ≤ x ∧ x ≤ 6 else if i = 15 then g 0 ≤ x ∧ x ≤ 60 * g 0 else if i = 16 then g 0 ≤ x ∧ x ≤ 9 * g 0 else if i = 17 then 0 ≤ x ∧ x ≤ 8 * g 0 else if i = 18 then 0 ≤ x ∧ x ≤ 6 * g 0 else if i = 25 then 0 ≤ x ∧ x ≤ 30 * g 0 else if i = 26 then 0 ≤ x ∧ x ≤ 29 else if i = 28 then 0 ≤ x else if i = 34 then 0 ≤ x ∧ x ≤ 6 else if i = 37 then 0 ≤ x ∧ x ≤ 20 else True)
  else if k = 112 ∨ k = 119 then (if i = 2 then 0 ≤ x ∧ x ≤ 8 else if i = 3 then 0 ≤ x ∧ x ≤ 6 else True)
  else if k = 126 ∨ k = 130 then (if i = 2 then 0 ≤ x ∧ x ≤ 1 else True)
  else if k = 102 then (0 ≤ x ∧ x ≤ 5)
  else if k = 146 then (((i : Int) = 4 → -1 ≤ x ∧ x ≤ 6 * g 0 - 1) ∧ ((i : Int) = 6 → -1 ≤ x ∧ x ≤ 7))
  else if k = 147 then (((i : Int) % 25 = 4 → -1 ≤ x ∧ x ≤ 5) ∧ ((i : Int) % 25 = 6 → -1 ≤ x ∧ x ≤ 7))
  else if k = 150 then (0 ≤ x ∧ x ≤ 5)
  else if k = 152 then (0 ≤ x ∧ x ≤ 5)
  else if k = 154 then (((i : Int) = 0 → x = g 1) ∧ ((i : Int) = 1 → x = g 2) ∧ ((i : Int) < 2 → 0 ≤ x ∧ x ≤ 1))
  else if k = 155 then (((i : Int) % 25 = 4 → -1 ≤ x ∧ x ≤ 5) ∧ ((i : Int) % 25 = 6 → -1 ≤ x ∧ x ≤ 7) ∧ ((i : Int) = 4 → x ≤ 6 * g 0 + 5 - 6 * g 1) ∧ ((i : Int) = 29 → x ≤ 6 * g 0 + 5 - 6 * g 2))
  else if k = 156 then (0 ≤ x)
  else True
def Inv (g : Nat → Int) (w : Mem) : Prop := (0 ≤ g 0 ∧ g 0 ≤ 1) ∧ ∀ k i, Rg g k i (w k i).toInt
section INV
variable {g : Nat → Int} {w : Mem}
theorem Inv.up (h : Inv g w) (k i : Nat) (v : Int32) (hv : Rg g k i v.toInt) : Inv g (wu w k i v) := by
  refine ⟨h.1, fun a b => ?_⟩
  by_cases e : a = k ∧ b = i
  · obtain ⟨rfl, rfl⟩ := e
    rw [wu_at]
    exact hv
  · rw [wu_ne e]
    exact h.2 a b
theorem iv_1_1 (h : Inv g w) : 0 ≤ (w 1 1).toInt ∧ (w 1 1).toInt ≤ 240 := h.2 1 1
theorem up_1_1 {v : Int32} (h : Inv g w) (hv : 0 ≤ v.toInt ∧ v.toInt ≤ 240) : Inv g (wu w 1 1 v) := h.up 1 1 v hv
theorem iv_6_1 (h : Inv g w) : 0 ≤ (w 6 1).toInt ∧ (w 6 1).toInt ≤ 30 := h.2 6 1
theorem up_6_1 {v : Int32} (h : Inv g w) (hv : 0 ≤ v.toInt ∧ v.toInt ≤ 30) : Inv g (wu w 6 1 v) := h.up 6 1 v hv
theorem iv_6_2 (h : Inv g w) : 0 ≤ (w 6 2).toInt ∧ (w 6 2).toInt ≤ 29 := h.2 6 2
theorem up_6_2 {v : Int32} (h : Inv g w) (hv : 0 ≤ v.toInt ∧ v.toInt ≤ 29) : Inv g (wu w 6 2 v) := h.up 6 2 v hv
theorem iv_101_4 (h : Inv g w) : 0 ≤ (w 101 4).toInt ∧ (w 101 4).toInt ≤ 6 := h.2 101 4
theorem up_101_4 {v : Int32} (h : Inv g w) (hv : 0 ≤ v.toInt ∧ v.toInt ≤ 6) : Inv g (wu w 101 4 v) := h.up 101 4 v hv
theorem ivX1_2 {b : Nat} (hb : BrO b) (h : Inv g w) : 0 ≤ (w b 2).toInt ∧ (w b 2).toInt ≤ 8 := by
  rcases hb with rfl | rfl
  · exact h.2 112 2
  · exact h.2 119 2
theorem upX1_2 {b : Nat} {v : Int32} (hb : BrO b) (h : Inv g w) (hv : 0 ≤ v.toInt ∧ v.toInt ≤ 8) : Inv g (wu w b 2 v) := by
  rcases hb with rfl | rfl
  · exact h.up 112 2 v hv
  · exact h.up 119 2 v hv
theorem ivX1_3 {b : Nat} (hb : BrO b) (h : Inv g w) : 0 ≤ (w b 3).toInt ∧ (w b 3).toInt ≤ 6 := by
  rcases hb with rfl | rfl
  · exact h.2 112 3
  · exact h.2 119 3
theorem upX1_3 {b : Nat} {v : Int32} (hb : BrO b) (h : Inv g w) (hv : 0 ≤ v.toInt ∧ v.toInt ≤ 6) : Inv g (wu w b 3 v) := by
  rcases hb with rfl | rfl
  · exact h.up 112 3 v hv
  · exact h.up 119 3 v hv
theorem ivX4_2 {b : Nat} (hb : ImO b) (h : Inv g w) : 0 ≤ (w b 2).toInt ∧ (w b 2).toInt ≤ 1 := by
  rcases hb with rfl | rfl
  · exact h.2 126 2
  · exact h.2 130 2
theorem upX4_2 {b : Nat} {v : Int32} (hb : ImO b) (h : Inv g w) (hv : 0 ≤ v.toInt ∧ v.toInt ≤ 1) : Inv g (wu w b 2 v) := by
  rcases hb with rfl | rfl
  · exact h.up 126 2 v hv
  · exact h.up 130 2 v hv
theorem iv_106_2 (h : Inv g w) : 0 ≤ (w 106 2).toInt ∧ (w 106 2).toInt ≤ 6 := h.2 106 2
theorem up_106_2 {v : Int32} (h : Inv g w) (hv : 0 ≤ v.toInt ∧ v.toInt ≤ 6) : Inv g (wu w 106 2 v) := h.up 106 2 v hv
theorem iv_109_2 (h : Inv g w) : 0 ≤ (w 109 2).toInt ∧ (w 109 2).toInt ≤ 20 := h.2 109 2
theorem up_109_2 {v : Int32} (h : Inv g w) (hv : 0 ≤ v.toInt ∧ v.toInt ≤ 20) : Inv g (wu w 109 2 v) := h.up 109 2 v hv
theorem iv_134_0 (h : Inv g w) : 0 ≤ (w 134 0).toInt ∧ (w 134 0).toInt ≤ 240 := h.2 134 0
theorem up_134_0 {v : Int32} (h : Inv g w) (hv : 0 ≤ v.toInt ∧ v.toInt ≤ 240) : Inv g (wu w 134 0 v) := h.up 134 0 v hv
theorem iv_134_2 (h : Inv g w) : 0 ≤ (w 134 2).toInt ∧ (w 134 2).toInt ≤ 241 := h.2 134 2
theorem up_134_2 {v : Int32} (h : Inv g w) (hv : 0 ≤ v.toInt ∧ v.toInt ≤ 241) : Inv g (wu w 134 2 v) := h.up 134 2 v hv
theorem iv_134_8 (h : Inv g w) : 0 ≤ (w 134 8).toInt ∧ (w 134 8).toInt ≤ 8 := h.2 134 8
theorem up_134_8 {v : Int32} (h : Inv g w) (hv : 0 ≤ v.toInt ∧ v.toInt ≤ 8) : Inv g (wu w 134 8 v) := h.up 134 8 v hv
theorem iv_134_9 (h : Inv g w) : 0 ≤ (w 134 9).toInt ∧ (w 134 9).toInt ≤ 6 := h.2 134 9
theorem up_134_9 {v : Int32} (h : Inv g w) (hv : 0 ≤ v.toInt ∧ v.toInt ≤ 6) : Inv g (wu w 134 9 v) := h.up 134 9 v hv
theorem iv_134_15 (h : Inv g w) : g 0 ≤ (w 134 15).toInt ∧ (w 134 15).toInt ≤ 60 * g 0 := h.2 134 15
theorem up_134_15 {v : Int32} (h : Inv g w) (hv : g 0 ≤ v.toInt ∧ v.toInt ≤ 60 * g 0) : Inv g (wu w 134 15 v) := h.up 134 15 v hv
theorem iv_134_16 (h : Inv g w) : g 0 ≤ (w 134 16).toInt ∧ (w 134 16).toInt ≤ 9 * g 0 := h.2 134 16
theorem up_134_16 {v : Int32} (h : Inv g w) (hv : g 0 ≤ v.toInt ∧ v.toInt ≤ 9 * g 0) : Inv g (wu w 134 16 v) := h.up 134 16 v hv
theorem iv_134_17 (h : Inv g w) : 0 ≤ (w 134 17).toInt ∧ (w 134 17).toInt ≤ 8 * g 0 := h.2 134 17
theorem up_134_17 {v : Int32} (h : Inv g w) (hv : 0 ≤ v.toInt ∧ v.toInt ≤ 8 * g 0) : Inv g (wu w 134 17 v) := h.up 134 17 v hv
theorem iv_134_18 (h : Inv g w) : 0 ≤ (w 134 18).toInt ∧ (w 134 18).toInt ≤ 6 * g 0 := h.2 134 18
theorem up_134_18 {v : Int32} (h : Inv g w) (hv : 0 ≤ v.toInt ∧ v.toInt ≤ 6 * g 0) : Inv g (wu w 134 18 v) := h.up 134 18 v hv
theorem iv_134_25 (h : Inv g w) : 0 ≤ (w 134 25).toInt ∧ (w 134 25).toInt ≤ 30 * g 0 := h.2 134 25
theorem up_134_25 {v : Int32} (h : Inv g w) (hv : 0 ≤ v.toInt ∧ v.toInt ≤ 30 * g 0) : Inv g (wu w 134 25 v) := h.up 134 25 v hv
theorem iv_134_26 (h : Inv g w) : 0 ≤ (w 134 26).toInt ∧ (w 134 26).toInt ≤ 29 := h.2 134 26
theorem up_134_26 {v : Int32} (h : Inv g w) (hv : 0 ≤ v.toInt ∧ v.toInt ≤ 29) : Inv g (wu w 134 26 v) := h.up 134 26 v hv
theorem iv_134_28 (h : Inv g w) : 0 ≤ (w 134 28).toInt := h.2 134 28
theorem up_134_28 {v : Int32} (h : Inv g w) (hv : 0 ≤ v.toInt) : Inv g (wu w 134 28 v) := h.up 134 28 v hv
theorem iv_134_34 (h : Inv g w) : 0 ≤ (w 134 34).toInt ∧ (w 134 34).toInt ≤ 6 := h.2 134 34
theorem up_134_34 {v : Int32} (h : Inv g w) (hv : 0 ≤ v.toInt ∧ v.toInt ≤ 6) : Inv g (wu w 134 34 v) := h.up 134 34 v hv
theorem iv_134_37 (h : Inv g w) : 0 ≤ (w 134 37).toInt ∧ (w 134 37).toInt ≤ 20 := h.2 134 37
theorem up_134_37 {v : Int32} (h : Inv g w) (hv : 0 ≤ v.toInt ∧ v.toInt ≤ 20) : Inv g (wu w 134 37 v) := h.up 134 37 v hv
theorem ia_102 {j : Nat} (h : Inv g w) : 0 ≤ (w 102 j).toInt ∧ (w 102 j).toInt ≤ 5 := h.2 102 j
theorem ua_102 {i v : Int32} (h : Inv g w) (h0 : 0 ≤ i.toInt) (_ : 0 ≤ i.toInt) (hv : 0 ≤ v.toInt ∧ v.toInt ≤ 5) : Inv g (wu w 102 i.toNatClampNeg v) := h.up 102 _ v hv
theorem ia_146 {j : Nat} (h : Inv g w) : ((j : Int) = 4 → -1 ≤ (w 146 j).toInt ∧ (w 146 j).toInt ≤ 6 * g 0 - 1) ∧ ((j : Int) = 6 → -1 ≤ (w 146 j).toInt ∧ (w 146 j).toInt ≤ 7) := h.2 146 j
theorem ua_146 {i v : Int32} (h : Inv g w) (h0 : 0 ≤ i.toInt) (_ : 0 ≤ i.toInt) (hv : (i.toInt = 4 → -1 ≤ v.toInt ∧ v.toInt ≤ 6 * g 0 - 1) ∧ (i.toInt = 6 → -1 ≤ v.toInt ∧ v.toInt ≤ 7)) : Inv g (wu w 146 i.toNatClampNeg v) := by
  refine h.up 146 _ v ?_
  show ((i.toNatClampNeg : Int) = 4 → -1 ≤ v.toInt ∧ v.toInt ≤ 6 * g 0 - 1) ∧ ((i.toNatClampNeg : Int) = 6 → -1 ≤ v.toInt ∧ v.toInt ≤ 7)
  rw [i_clq h0]
  exact hv
theorem ia_147 {j : Nat} (h : Inv g w) : ((j : Int) % 25 = 4 → -1 ≤ (w 147 j).toInt ∧ (w 147 j).toInt ≤ 5) ∧ ((j : Int) % 25 = 6 → -1 ≤ (w 147 j).toInt ∧ (w 147 j).toInt ≤ 7) := h.2 147 j
theorem ua_147 {i v : Int32} (h : Inv g w) (h0 : 0 ≤ i.toInt) (_ : 0 ≤ i.toInt) (hv : (i.toInt % 25 = 4 → -1 ≤ v.toInt ∧ v.toInt ≤ 5) ∧ (i.toInt % 25 = 6 → -1 ≤ v.toInt ∧ v.toInt ≤ 7)) : Inv g (wu w 147 i.toNatClampNeg v) := by
  refine h.up 147 _ v ?_
  show ((i.toNatClampNeg : Int) % 25 = 4 → -1 ≤ v.toInt ∧ v.toInt ≤ 5) ∧ ((i.toNatClampNeg : Int) % 25 = 6 → -1 ≤ v.toInt ∧ v.toInt ≤ 7)
  rw [i_clq h0]
  exact hv
theorem ia_150 {j : Nat} (h : Inv g w) : 0 ≤ (w 150 j).toInt ∧ (w 150 j).toInt ≤ 5 := h.2 150 j
theorem ua_150 {i v : Int32} (h : Inv g w) (h0 : 0 ≤ i.toInt) (_ : 0 ≤ i.toInt) (hv : 0 ≤ v.toInt ∧ v.toInt ≤ 5) : Inv g (wu w 150 i.toNatClampNeg v) := h.up 150 _ v hv
theorem ia_152 {j : Nat} (h : Inv g w) : 0 ≤ (w 152 j).toInt ∧ (w 152 j).toInt ≤ 5 := h.2 152 j
theorem ua_152 {i v : Int32} (h : Inv g w) (h0 : 0 ≤ i.toInt) (_ : 0 ≤ i.toInt) (hv : 0 ≤ v.toInt ∧ v.toInt ≤ 5) : Inv g (wu w 152 i.toNatClampNeg v) := h.up 152 _ v hv
theorem ia_154 {j : Nat} (h : Inv g w) : ((j : Int) = 0 → (w 154 j).toInt = g 1) ∧ ((j : Int) = 1 → (w 154 j).toInt = g 2) ∧ ((j : Int) < 2 → 0 ≤ (w 154 j).toInt ∧ (w 154 j).toInt ≤ 1) := h.2 154 j
theorem ua_154 {i v : Int32} (h : Inv g w) (h0 : 0 ≤ i.toInt) (_ : 0 ≤ i.toInt) (hv : (i.toInt = 0 → v.toInt = g 1) ∧ (i.toInt = 1 → v.toInt = g 2) ∧ (i.toInt < 2 → 0 ≤ v.toInt ∧ v.toInt ≤ 1)) : Inv g (wu w 154 i.toNatClampNeg v) := by
  refine h.up 154 _ v ?_
  show ((i.toNatClampNeg : Int) = 0 → v.toInt = g 1) ∧ ((i.toNatClampNeg : Int) = 1 → v.toInt = g 2) ∧ ((i.toNatClampNeg : Int) < 2 → 0 ≤ v.toInt ∧ v.toInt ≤ 1)
  rw [i_clq h0]
  exact hv
theorem ia_155 {j : Nat} (h : Inv g w) : ((j : Int) % 25 = 4 → -1 ≤ (w 155 j).toInt ∧ (w 155 j).toInt ≤ 5) ∧ ((j : Int) % 25 = 6 → -1 ≤ (w 155 j).toInt ∧ (w 155 j).toInt ≤ 7) ∧ ((j : Int) = 4 → (w 155 j).toInt ≤ 6 * g 0 + 5 - 6 * g 1) ∧ ((j : Int) = 29 → (w 155 j).toInt ≤ 6 * g 0 + 5 - 6 * g 2) := h.2 155 j
theorem ua_155 {i v : Int32} (h : Inv g w) (h0 : 0 ≤ i.toInt) (_ : 0 ≤ i.toInt) (hv : (i.toInt % 25 = 4 → -1 ≤ v.toInt ∧ v.toInt ≤ 5) ∧ (i.toInt % 25 = 6 → -1 ≤ v.toInt ∧ v.toInt ≤ 7) ∧ (i.toInt = 4 → v.toInt ≤ 6 * g 0 + 5 - 6 * g 1) ∧ (i.toInt = 29 → v.toInt ≤ 6 * g 0 + 5 - 6 * g 2)) : Inv g (wu w 155 i.toNatClampNeg v) := by
  refine h.up 155 _ v ?_
  show ((i.toNatClampNeg : Int) % 25 = 4 → -1 ≤ v.toInt ∧ v.toInt ≤ 5) ∧ ((i.toNatClampNeg : Int) % 25 = 6 → -1 ≤ v.toInt ∧ v.toInt ≤ 7) ∧ ((i.toNatClampNeg : Int) = 4 → v.toInt ≤ 6 * g 0 + 5 - 6 * g 1) ∧ ((i.toNatClampNeg : Int) = 29 → v.toInt ≤ 6 * g 0 + 5 - 6 * g 2)
  rw [i_clq h0]
  exact hv
theorem ia_156 {j : Nat} (h : Inv g w) : 0 ≤ (w 156 j).toInt := h.2 156 j
theorem ua_156 {i v : Int32} (h : Inv g w) (h0 : 0 ≤ i.toInt) (_ : 0 ≤ i.toInt) (hv : 0 ≤ v.toInt) : Inv g (wu w 156 i.toNatClampNeg v) := h.up 156 _ v hv
theorem uq_0_8 {v : Int32} (h : Inv g w) : Inv g (wu w 0 8 v) := h.up 0 8 v trivial
theorem uq_0_9 {v : Int32} (h : Inv g w) : Inv g (wu w 0 9 v) := h.up 0 9 v trivial
theorem uq_0_10 {v : Int32} (h : Inv g w) : Inv g (wu w 0 10 v) := h.up 0 10 v trivial
theorem uq_0_11 {v : Int32} (h : Inv g w) : Inv g (wu w 0 11 v) := h.up 0 11 v trivial
theorem uq_1_2 {v : Int32} (h : Inv g w) : Inv g (wu w 1 2 v) := h.up 1 2 v trivial
theorem uq_1_3 {v : Int32} (h : Inv g w) : Inv g (wu w 1 3 v) := h.up 1 3 v trivial
theorem uq_1_4 {v : Int32} (h : Inv g w) : Inv g (wu w 1 4 v) := h.up 1 4 v trivial
theorem uq_3_0 {v : Int32} (h : Inv g w) : Inv g (wu w 3 0 v) := h.up 3 0 v trivial
theorem uq_3_1 {v : Int32} (h : Inv g w) : Inv g (wu w 3 1 v) := h.up 3 1 v trivial
theorem uq_3_2 {v : Int32} (h : Inv g w) : Inv g (wu w 3 2 v) := h.up 3 2 v trivial
theorem uq_3_3 {v : Int32} (h : Inv g w) : Inv g (wu w 3 3 v) := h.up 3 3 v trivial
theorem uq_3_4 {v : Int32} (h : Inv g w) : Inv g (wu w 3 4 v) := h.up 3 4 v trivial
theorem uq_3_5 {v : Int32} (h : Inv g w) : Inv g (wu w 3 5 v) := h.up 3 5 v trivial
theorem uq_3_6 {v : Int32} (h : Inv g w) : Inv g (wu w 3 6 v) := h.up 3 6 v trivial
theorem uq_3_7 {v : Int32} (h : Inv g w) : Inv g (wu w 3 7 v) := h.up 3 7 v trivial
theorem uq_3_8 {v : Int32} (h : Inv g w) : Inv g (wu w 3 8 v) := h.up 3 8 v trivial
theorem uq_3_9 {v : Int32} (h : Inv g w) : Inv g (wu w 3 9 v) := h.up 3 9 v trivial
theorem uq_99_1 {v : Int32} (h : Inv g w) : Inv g (wu w 99 1 v) := h.up 99 1 v trivial
theorem uq_99_2 {v : Int32} (h : Inv g w) : Inv g (wu w 99 2 v) := h.up 99 2 v trivial
theorem uq_99_3 {v : Int32} (h : Inv g w) : Inv g (wu w 99 3 v) := h.up 99 3 v trivial
theorem uq_101_5 {v : Int32} (h : Inv g w) : Inv g (wu w 101 5 v) := h.up 101 5 v trivial
theorem uq_101_6 {v : Int32} (h : Inv g w) : Inv g (wu w 101 6 v) := h.up 101 6 v trivial
theorem uq_134_3 {v : Int32} (h : Inv g w) : Inv g (wu w 134 3 v) := h.up 134 3 v trivial
theorem uq_134_4 {v : Int32} (h : Inv g w) : Inv g (wu w 134 4 v) := h.up 134 4 v trivial
theorem uq_134_5 {v : Int32} (h : Inv g w) : Inv g (wu w 134 5 v) := h.up 134 5 v trivial
theorem uq_134_6 {v : Int32} (h : Inv g w) : Inv g (wu w 134 6 v) := h.up 134 6 v trivial
theorem uq_134_7 {v : Int32} (h : Inv g w) : Inv g (wu w 134 7 v) := h.up 134 7 v trivial
theorem uq_134_30 {v : Int32} (h : Inv g w) : Inv g (wu w 134 30 v) := h.up 134 30 v trivial
theorem uq_134_31 {v : Int32} (h : Inv g w) : Inv g (wu w 134 31 v) := h.up 134 31 v trivial
theorem uq_134_32 {v : Int32} (h : Inv g w) : Inv g (wu w 134 32 v) := h.up 134 32 v trivial
theorem ub_2 {i : Nat} {v : Int32} (h : Inv g w) : Inv g (wu w 2 i v) := h.up 2 i v trivial
theorem ub_4 {i : Nat} {v : Int32} (h : Inv g w) : Inv g (wu w 4 i v) := h.up 4 i v trivial
theorem ub_5 {i : Nat} {v : Int32} (h : Inv g w) : Inv g (wu w 5 i v) := h.up 5 i v trivial
theorem ub_100 {i : Nat} {v : Int32} (h : Inv g w) : Inv g (wu w 100 i v) := h.up 100 i v trivial
theorem ub_103 {i : Nat} {v : Int32} (h : Inv g w) : Inv g (wu w 103 i v) := h.up 103 i v trivial
theorem ub_104 {i : Nat} {v : Int32} (h : Inv g w) : Inv g (wu w 104 i v) := h.up 104 i v trivial
theorem ub_105 {i : Nat} {v : Int32} (h : Inv g w) : Inv g (wu w 105 i v) := h.up 105 i v trivial
theorem ub_107 {i : Nat} {v : Int32} (h : Inv g w) : Inv g (wu w 107 i v) := h.up 107 i v trivial
theorem ub_108 {i : Nat} {v : Int32} (h : Inv g w) : Inv g (wu w 108 i v) := h.up 108 i v trivial
theorem ub_110 {i : Nat} {v : Int32} (h : Inv g w) : Inv g (wu w 110 i v) := h.up 110 i v trivial
theorem ub_111 {i : Nat} {v : Int32} (h : Inv g w) : Inv g (wu w 111 i v) := h.up 111 i v trivial
theorem ub_135 {i : Nat} {v : Int32} (h : Inv g w) : Inv g (wu w 135 i v) := h.up 135 i v trivial
theorem ub_136 {i : Nat} {v : Int32} (h : Inv g w) : Inv g (wu w 136 i v) := h.up 136 i v trivial
theorem ub_137 {i : Nat} {v : Int32} (h : Inv g w) : Inv g (wu w 137 i v) := h.up 137 i v trivial
theorem ub_138 {i : Nat} {v : Int32} (h : Inv g w) : Inv g (wu w 138 i v) := h.up 138 i v trivial
theorem ub_139 {i : Nat} {v : Int32} (h : Inv g w) : Inv g (wu w 139 i v) := h.up 139 i v trivial
theorem ub_140 {i : Nat} {v : Int32} (h : Inv g w) : Inv g (wu w 140 i v) := h.up 140 i v trivial
theorem ub_141 {i : Nat} {v : Int32} (h : Inv g w) : Inv g (wu w 141 i v) := h.up 141 i v trivial
theorem ub_142 {i : Nat} {v : Int32} (h : Inv g w) : Inv g (wu w 142 i v) := h.up 142 i v trivial
theorem ub_143 {i : Nat} {v : Int32} (h : Inv g w) : Inv g (wu w 143 i v) := h.up 143 i v trivial
theorem ub_144 {i : Nat} {v : Int32} (h : Inv g w) : Inv g (wu w 144 i v) := h.up 144 i v trivial
theorem ub_145 {i : Nat} {v : Int32} (h : Inv g w) : Inv g (wu w 145 i v) := h.up 145 i v trivial
theorem ub_148 {i : Nat} {v : Int32} (h : Inv g w) : Inv g (wu w 148 i v) := h.up 148 i v trivial
theorem ub_149 {i : Nat} {v : Int32} (h : Inv g w) : Inv g (wu w 149 i v) := h.up 149 i v trivial
theorem ub_151 {i : Nat} {v : Int32} (h : Inv g w) : Inv g (wu w 151 i v) := h.up 151 i v trivial
theorem ub_153 {i : Nat} {v : Int32} (h : Inv g w) : Inv g (wu w 153 i v) := h.up 153 i v trivial
theorem uqX1_0 {b : Nat} {v : Int32} (hb : BrO b) (h : Inv g w) : Inv g (wu w b 0 v) := by
  rcases hb with rfl | rfl
  · exact h.up 112 0 v trivial
  · exact h.up 119 0 v trivial
theorem uqX1_1 {b : Nat} {v : Int32} (hb : BrO b) (h : Inv g w) : Inv g (wu w b 1 v) := by
  rcases hb with rfl | rfl
  · exact h.up 112 1 v trivial
  · exact h.up 119 1 v trivial
theorem uqX4_1 {b : Nat} {v : Int32} (hb : ImO b) (h : Inv g w) : Inv g (wu w b 1 v) := by
  rcases hb with rfl | rfl
  · exact h.up 126 1 v trivial
  · exact h.up 130 1 v trivial
theorem ubBr_1 {b i : Nat} {v : Int32} (hb : BrO b) (h : Inv g w) : Inv g (wu w (b + 1) i v) := by
  rcases hb with rfl | rfl
  · exact h.up 113 i v trivial
  · exact h.up 120 i v trivial
theorem ubBr_2 {b i : Nat} {v : Int32} (hb : BrO b) (h : Inv g w) : Inv g (wu w (b + 2) i v) := by
  rcases hb with rfl | rfl
  · exact h.up 114 i v trivial
  · exact h.up 121 i v trivial
theorem ubBr_3 {b i : Nat} {v : Int32} (hb : BrO b) (h : Inv g w) : Inv g (wu w (b + 3) i v) := by
  rcases hb with rfl | rfl
  · exact h.up 115 i v trivial
  · exact h.up 122 i v trivial
theorem ubBr_4 {b i : Nat} {v : Int32} (hb : BrO b) (h : Inv g w) : Inv g (wu w (b + 4) i v) := by
  rcases hb with rfl | rfl
  · exact h.up 116 i v trivial
  · exact h.up 123 i v trivial
theorem ubBr_5 {b i : Nat} {v : Int32} (hb : BrO b) (h : Inv g w) : Inv g (wu w (b + 5) i v) := by
  rcases hb with rfl | rfl
  · exact h.up 117 i v trivial
  · exact h.up 124 i v trivial
theorem ubBr_6 {b i : Nat} {v : Int32} (hb : BrO b) (h : Inv g w) : Inv g (wu w (b + 6) i v) := by
  rcases hb with rfl | rfl
  · exact h.up 118 i v trivial
  · exact h.up 125 i v trivial
theorem rgEv {o : Nat} (ho : EvO o) (i : Nat) (x : Int) : Rg g o i x ∧ Rg g (o + 1) i x ∧ Rg g (o + 2) i x :=
  ev_all (P := fun o => Rg g o i x ∧ Rg g (o + 1) i x ∧ Rg g (o + 2) i x) ⟨trivial, trivial, trivial⟩ ⟨trivial, trivial, trivial⟩ ⟨trivial, trivial, trivial⟩ ⟨⟨trivial, trivial, trivial⟩, ⟨trivial, trivial, trivial⟩, ⟨trivial, trivial, trivial⟩, ⟨trivial, trivial, trivial⟩, ⟨trivial, trivial, trivial⟩, ⟨trivial, trivial, trivial⟩, ⟨trivial, trivial, trivial⟩, ⟨trivial, trivial, trivial⟩, ⟨trivial, trivial, trivial⟩, ⟨trivial, trivial, trivial⟩, ⟨trivial, trivial, trivial⟩, ⟨trivial, trivial, trivial⟩, ⟨trivial, trivial, trivial⟩, ⟨trivial, trivial, trivial⟩, ⟨trivial, trivial, trivial⟩, ⟨trivial, trivial, trivial⟩, ⟨trivial, trivial, trivial⟩, ⟨trivial, trivial, trivial⟩, ⟨trivial, trivial, trivial⟩, ⟨trivial, trivial, trivial⟩, ⟨trivial, trivial, trivial⟩, ⟨trivial, trivial, trivial⟩, ⟨trivial, trivial, trivial⟩, ⟨trivial, trivial, trivial⟩, ⟨trivial, trivial, trivial⟩, ⟨trivial, trivial, trivial⟩, ⟨trivial, trivial, trivial⟩, ⟨trivial, trivial, trivial⟩, ⟨trivial, trivial, trivial⟩, ⟨trivial, trivial, trivial⟩⟩ ho
theorem uqX3_0 {b : Nat} {v : Int32} (hb : EvO b) (h : Inv g w) : Inv g (wu w b 0 v) := h.up b 0 v (rgEv hb 0 _).1
theorem uqX3_1 {b : Nat} {v : Int32} (hb : EvO b) (h : Inv g w) : Inv g (wu w b 1 v) := h.up b 1 v (rgEv hb 1 _).1
theorem uqX3_2 {b : Nat} {v : Int32} (hb : EvO b) (h : Inv g w) : Inv g (wu w b 2 v) := h.up b 2 v (rgEv hb 2 _).1
theorem uqX3_3 {b : Nat} {v : Int32} (hb : EvO b) (h : Inv g w) : Inv g (wu w b 3 v) := h.up b 3 v (rgEv hb 3 _).1
theorem uqX3_4 {b : Nat} {v : Int32} (hb : EvO b) (h : Inv g w) : Inv g (wu w b 4 v) := h.up b 4 v (rgEv hb 4 _).1
theorem uqX3_5 {b : Nat} {v : Int32} (hb : EvO b) (h : Inv g w) : Inv g (wu w b 5 v) := h.up b 5 v (rgEv hb 5 _).1
theorem uqX3_6 {b : Nat} {v : Int32} (hb : EvO b) (h : Inv g w) : Inv g (wu w b 6 v) := h.up b 6 v (rgEv hb 6 _).1
theorem uqX3_7 {b : Nat} {v : Int32} (hb : EvO b) (h : Inv g w) : Inv g (wu w b 7 v) := h.up b 7 v (rgEv hb 7 _).1
theorem uqX3_8 {b : Nat} {v : Int32} (hb : EvO b) (h : Inv g w) : Inv g (wu w b 8 v) := h.up b 8 v (rgEv hb 8 _).1
theorem uqX3_9 {b : Nat} {v : Int32} (hb : EvO b) (h : Inv g w) : Inv g (wu w b 9 v) := h.up b 9 v (rgEv hb 9 _).1
theorem ubEv_1 {b i : Nat} {v : Int32} (hb : EvO b) (h : Inv g w) : Inv g (wu w (b + 1) i v) := h.up (b + 1) i v (rgEv hb i _).2.1
theorem ubEv_2 {b i : Nat} {v : Int32} (hb : EvO b) (h : Inv g w) : Inv g (wu w (b + 2) i v) := h.up (b + 2) i v (rgEv hb i _).2.2
end INV
section RGS
variable {g g2 : Nat → Int}
theorem rg_nog {k i : Nat} {x : Int} (h1 : ¬ k = 134) (h2 : ¬ k = 146) (h3 : ¬ k = 154) (h4 : ¬ k = 155) (h : Rg g k i x) : Rg g2 k i x := by
  unfold Rg at h ⊢
  simp only [h1, h2, h3, h4, if_false] at h ⊢
  exact h
theorem rg_134 {i : Nat} {x : Int} (h0 : i = 0 → 0 ≤ x ∧ x ≤ 240) (h2 : i = 2 → 0 ≤ x ∧ x ≤ 241) (h8 : i = 8 → 0 ≤ x ∧ x ≤ 8) (h9 : i = 9 → 0 ≤ x ∧ x ≤ 6) (h15 : i = 15 → g 0 ≤ x ∧ x ≤ 60 * g 0) (h16 : i = 16 → g 0 ≤ x ∧ x ≤ 9 * g 0) (h17 : i = 17 → 0 ≤ x ∧ x ≤ 8 * g 0) (h18 : i = 18 → 0 ≤ x ∧ x ≤ 6 * g 0) (h25 : i = 25 → 0 ≤ x ∧ x ≤ 30 * g 0) (h26 : i = 26 → 0 ≤ x ∧ x ≤ 29) (h28 : i = 28 → 0 ≤ x) (h34 : i = 34 → 0 ≤ x ∧ x ≤ 6) (h37 : i = 37 → 0 ≤ x ∧ x ≤ 20) : Rg g 134 i x := by
  show (if i = 0 then 0 ≤ x ∧ x ≤ 240 else if i = 2 then 0 ≤ x ∧ x ≤ 241 else if i = 8 then 0 ≤ x ∧ x ≤ 8 else if i = 9 then 0 ≤ x ∧ x ≤ 6 else if i = 15 then g 0 ≤ x ∧ x ≤ 60 * g 0 else if i = 16 then g 0 ≤ x ∧ x ≤ 9 * g 0 else if i = 17 then 0 ≤ x ∧ x ≤ 8 * g 0 else if i = 18 then 0 ≤ x ∧ x ≤ 6 * g 0 else if i = 25 then 0 ≤ x ∧ x ≤ 30 * g 0 else if i = 26 then 0 ≤ x ∧ x ≤ 29 else if i = 28 then 0 ≤ x else if i = 34 then 0 ≤ x ∧ x ≤ 6 else if i = 37 then 0 ≤ x ∧ x ≤ 20 else True)
  by_cases e0 : i = 0
  · rw [if_pos e0]; exact h0 e0
  rw [if_neg e0]
  by_cases e2 : i = 2
  · rw [if_pos e2]; exact h2 e2
  rw [if_neg e2]
  by_cases e8 : i = 8
  · rw [if_pos e8]; exact h8 e8
  rw [if_neg e8]
  by_cases e9 : i = 9
  · rw [if_pos e9]; exact h9 e9
  rw [if_neg e9]
  by_cases e15 : i = 15
  · rw [if_pos e15]; exact h15 e15
  rw [if_neg e15]
  by_cases e16 : i = 16
  · rw [if_pos e16]; exact h16 e16
  rw [if_neg e16]
  by_cases e17 : i = 17
  · rw [if_pos e17]; exact h17 e17
  rw [if_neg e17]
  by_cases e18 : i = 18
  · rw [if_pos e18]; exact h18 e18
  rw [if_neg e18]
  by_cases e25 : i = 25
  · rw [if_pos e25]; exact h25 e25
  rw [if_neg e25]
  by_cases e26 : i = 26
  · rw [if_pos e26]; exact h26 e26
  rw [if_neg e26]
  by_cases e28 : i = 28
  · rw [if_pos e28]; exact h28 e28
  rw [if_neg e28]
  by_cases e34 : i = 34
  · rw [if_pos e34]; exact h34 e34
  rw [if_neg e34]
  by_cases e37 : i = 37
  · rw [if_pos e37]; exact h37 e37
  rw [if_neg e37]
  trivial
end RGS
