theorem i_cl0 {x : Int32} {n : Nat} (h : 0 ≤ x.toInt) (h2 : x.toInt < n) : x.toNatClampNeg < n := by
  obtain ⟨j, hj, e⟩ := nI_of (x := x) (by rw [Int32.lt_iff_toInt_lt, Int32.toInt_zero]; omega)
  have e2 : x.toInt = j := by rw [e]; exact nI_toInt hj
  rw [e, nI_clamp hj]
  omega
/-! THE PROGRAM AS A FUNCTION: a memory w says what stands at each place; hp is the heap that it describes -/
abbrev Mem : Type := Nat → Nat → Int32
def wu (w : Mem) (k i : Nat) (v : Int32) : Mem := fun a => if a = k then upd (w k) i v else w a
def brp (x : Int32) : Nat := if x = 0 then 112 else 119
def BrO (b : Nat) : Prop := b = 112 ∨ b = 119
def EvO (o : Nat) : Prop := o = 3 ∨ o = 127 ∨ o = 131 ∨ ∃ i, i < 30 ∧ o = 8 + 3 * i
def ImO (o : Nat) : Prop := o = 126 ∨ o = 130
theorem brp_ok (x : Int32) : BrO (brp x) := by
  unfold brp
  by_cases h : x = 0
  · rw [if_pos h]; exact Or.inl rfl
  · rw [if_neg h]; exact Or.inr rfl
theorem ev_im {o : Nat} (h : ImO o) : EvO (o + 1) := by
  rcases h with rfl | rfl
  · exact Or.inr (Or.inl rfl)
  · exact Or.inr (Or.inr (Or.inl rfl))
def lay (G : GT) (z : Nat) : List ((Nat → Int32) → va_E) := [fun g => .inr (8, [.ref (z + 1), .ref (z + 3), .ref (z + 6), .ref (z + 98), .ref (z + 99), .ref (z + 101), .ref (z + 106), .ref (z + 109), .ref (z + brp (g 8)), .ref (z + brp (g 9)), .int (g 10), .int (g 11)]),
  fun g => .inr (6, [.ref (z + 2), .int (g 1), .int (g 2), .int (g 3), .int (g 4)]),
  aI G 240,
  fun g => .inr (2, [.int (g 0), .int (g 1), .int (g 2), .int (g 3), .int (g 4), .int (g 5), .int (g 6), .int (g 7), .int (g 8), .int (g 9), .ref (z + 4), .ref (z + 5)]),
  aI G 6,
  aI G 6,
  fun g => .inr (5, [.ref (z + 7), .int (g 1), .int (g 2)]),
  fun _ => aE G 30 (fun i => if i < 30 then some (z + (8 + 3 * i)) else none),
  fun g => .inr (2, [.int (g 0), .int (g 1), .int (g 2), .int (g 3), .int (g 4), .int (g 5), .int (g 6), .int (g 7), .int (g 8), .int (g 9), .ref (z + 9), .ref (z + 10)]),
  aI G 6,
  aI G 6,
  fun g => .inr (2, [.int (g 0), .int (g 1), .int (g 2), .int (g 3), .int (g 4), .int (g 5), .int (g 6), .int (g 7), .int (g 8), .int (g 9), .ref (z + 12), .ref (z + 13)]),
  aI G 6,
  aI G 6,
  fun g => .inr (2, [.int (g 0), .int (g 1), .int (g 2), .int (g 3), .int (g 4), .int (g 5), .int (g 6), .int (g 7), .int (g 8), .int (g 9), .ref (z + 15), .ref (z + 16)]),
  aI G 6,
  aI G 6,
  fun g => .inr (2, [.int (g 0), .int (g 1), .int (g 2), .int (g 3), .int (g 4), .int (g 5), .int (g 6), .int (g 7), .int (g 8), .int (g 9), .ref (z + 18), .ref (z + 19)]),
  aI G 6,
  aI G 6,
  fun g => .inr (2, [.int (g 0), .int (g 1), .int (g 2), .int (g 3), .int (g 4), .int (g 5), .int (g 6), .int (g 7), .int (g 8), .int (g 9), .ref (z + 21), .ref (z + 22)]),
  aI G 6,
  aI G 6,
  fun g => .inr (2, [.int (g 0), .int (g 1), .int (g 2), .int (g 3), .int (g 4), .int (g 5), .int (g 6), .int (g 7), .int (g 8), .int (g 9), .ref (z + 24), .ref (z + 25)]),
  aI G 6,
  aI G 6,
  fun g => .inr (2, [.int (g 0), .int (g 1), .int (g 2), .int (g 3), .int (g 4), .int (g 5), .int (g 6), .int (g 7), .int (g 8), .int (g 9), .ref (z + 27), .ref (z + 28)]),
  aI G 6,
  aI G 6,
  fun g => .inr (2, [.int (g 0), .int (g 1), .int (g 2), .int (g 3), .int (g 4), .int (g 5), .int (g 6), .int (g 7), .int (g 8), .int (g 9), .ref (z + 30), .ref (z + 31)]),
  aI G 6,
  aI G 6,
  fun g => .inr (2, [.int (g 0), .int (g 1), .int (g 2), .int (g 3), .int (g 4), .int (g 5), .int (g 6), .int (g 7), .int (g 8), .int (g 9), .ref (z + 33), .ref (z + 34)]),
  aI G 6,
  aI G 6,
  fun g => .inr (2, [.int (g 0), .int (g 1), .int (g 2), .int (g 3), .int (g 4), .int (g 5), .int (g 6), .int (g 7), .int (g 8), .int (g 9), .ref (z + 36), .ref (z + 37)]),
  aI G 6,
  aI G 6,
  fun g => .inr (2, [.int (g 0), .int (g 1), .int (g 2), .int (g 3), .int (g 4), .int (g 5), .int (g 6), .int (g 7), .int (g 8), .int (g 9), .ref (z + 39), .ref (z + 40)]),
  aI G 6,
  aI G 6,
  fun g => .inr (2, [.int (g 0), .int (g 1), .int (g 2), .int (g 3), .int (g 4), .int (g 5), .int (g 6), .int (g 7), .int (g 8), .int (g 9), .ref (z + 42), .ref (z + 43)]),
  aI G 6,
  aI G 6,
  fun g => .inr (2, [.int (g 0), .int (g 1), .int (g 2), .int (g 3), .int (g 4), .int (g 5), .int (g 6), .int (g 7), .int (g 8), .int (g 9), .ref (z + 45), .ref (z + 46)]),
  aI G 6,
  aI G 6,
  fun g => .inr (2, [.int (g 0), .int (g 1), .int (g 2), .int (g 3), .int (g 4), .int (g 5), .int (g 6), .int (g 7), .int (g 8), .int (g 9), .ref (z + 48), .ref (z + 49)]),
  aI G 6,
  aI G 6,
  fun g => .inr (2, [.int (g 0), .int (g 1), .int (g 2), .int (g 3), .int (g 4), .int (g 5), .int (g 6), .int (g 7), .int (g 8), .int (g 9), .ref (z + 51), .ref (z + 52)]),
  aI G 6,
  aI G 6,
  fun g => .inr (2, [.int (g 0), .int (g 1), .int (g 2), .int (g 3), .int (g 4), .int (g 5), .int (g 6), .int (g 7), .int (g 8), .int (g 9), .ref (z + 54), .ref (z + 55)]),
  aI G 6,
  aI G 6,
  fun g => .inr (2, [.int (g 0), .int (g 1), .int (g 2), .int (g 3), .int (g 4), .int (g 5), .int (g 6), .int (g 7), .int (g 8), .int (g 9), .ref (z + 57), .ref (z + 58)]),
  aI G 6,
  aI G 6,
  fun g => .inr (2, [.int (g 0), .int (g 1), .int (g 2), .int (g 3), .int (g 4), .int (g 5), .int (g 6), .int (g 7), .int (g 8), .int (g 9), .ref (z + 60), .ref (z + 61)]),
  aI G 6,
  aI G 6,
  fun g => .inr (2, [.int (g 0), .int (g 1), .int (g 2), .int (g 3), .int (g 4), .int (g 5), .int (g 6), .int (g 7), .int (g 8), .int (g 9), .ref (z + 63), .ref (z + 64)]),
  aI G 6,
  aI G 6,
  fun g => .inr (2, [.int (g 0), .int (g 1), .int (g 2), .int (g 3), .int (g 4), .int (g 5), .int (g 6), .int (g 7), .int (g 8), .int (g 9), .ref (z + 66), .ref (z + 67)]),
  aI G 6,
  aI G 6,
  fun g => .inr (2, [.int (g 0), .int (g 1), .int (g 2), .int (g 3), .int (g 4), .int (g 5), .int (g 6), .int (g 7), .int (g 8), .int (g 9), .ref (z + 69), .ref (z + 70)]),
  aI G 6,
  aI G 6,
  fun g => .inr (2, [.int (g 0), .int (g 1), .int (g 2), .int (g 3), .int (g 4), .int (g 5), .int (g 6), .int (g 7), .int (g 8), .int (g 9), .ref (z + 72), .ref (z + 73)]),
  aI G 6,
  aI G 6,
  fun g => .inr (2, [.int (g 0), .int (g 1), .int (g 2), .int (g 3), .int (g 4), .int (g 5), .int (g 6), .int (g 7), .int (g 8), .int (g 9), .ref (z + 75), .ref (z + 76)]),
  aI G 6,
  aI G 6,
  fun g => .inr (2, [.int (g 0), .int (g 1), .int (g 2), .int (g 3), .int (g 4), .int (g 5), .int (g 6), .int (g 7), .int (g 8), .int (g 9), .ref (z + 78), .ref (z + 79)]),
  aI G 6,
  aI G 6,
  fun g => .inr (2, [.int (g 0), .int (g 1), .int (g 2), .int (g 3), .int (g 4), .int (g 5), .int (g 6), .int (g 7), .int (g 8), .int (g 9), .ref (z + 81), .ref (z + 82)]),
  aI G 6,
  aI G 6,
  fun g => .inr (2, [.int (g 0), .int (g 1), .int (g 2), .int (g 3), .int (g 4), .int (g 5), .int (g 6), .int (g 7), .int (g 8), .int (g 9), .ref (z + 84), .ref (z + 85)]),
  aI G 6,
  aI G 6,
  fun g => .inr (2, [.int (g 0), .int (g 1), .int (g 2), .int (g 3), .int (g 4), .int (g 5), .int (g 6), .int (g 7), .int (g 8), .int (g 9), .ref (z + 87), .ref (z + 88)]),
  aI G 6,
  aI G 6,
  fun g => .inr (2, [.int (g 0), .int (g 1), .int (g 2), .int (g 3), .int (g 4), .int (g 5), .int (g 6), .int (g 7), .int (g 8), .int (g 9), .ref (z + 90), .ref (z + 91)]),
  aI G 6,
  aI G 6,
  fun g => .inr (2, [.int (g 0), .int (g 1), .int (g 2), .int (g 3), .int (g 4), .int (g 5), .int (g 6), .int (g 7), .int (g 8), .int (g 9), .ref (z + 93), .ref (z + 94)]),
  aI G 6,
  aI G 6,
  fun g => .inr (2, [.int (g 0), .int (g 1), .int (g 2), .int (g 3), .int (g 4), .int (g 5), .int (g 6), .int (g 7), .int (g 8), .int (g 9), .ref (z + 96), .ref (z + 97)]),
  aI G 6,
  aI G 6,
  fun _ => aM G 2 (fun i => if i < 2 then some (z + (126 + 4 * i)) else none),
  fun g => .inr (7, [.ref (z + 100), .int (g 1), .int (g 2), .int (g 3)]),
  aI G 256,
  fun g => .inr (4, [.ref (z + 102), .ref (z + 103), .ref (z + 104), .ref (z + 105), .int (g 4), .int (g 5), .int (g 6)]),
  aI G 6,
  aI G 6,
  aI G 6,
  aI G 6,
  fun g => .inr (1, [.ref (z + 107), .ref (z + 108), .int (g 2)]),
  aI G 6,
  aI G 6,
  fun g => .inr (1, [.ref (z + 110), .ref (z + 111), .int (g 2)]),
  aI G 20,
  aI G 20,
  fun g => .inr (0, [.int (g 0), .int (g 1), .int (g 2), .int (g 3), .ref (z + 113), .ref (z + 114), .ref (z + 115), .ref (z + 116), .ref (z + 117), .ref (z + 118)]),
  aI G 8,
  aI G 8,
  aI G 6,
  aI G 6,
  aI G 6,
  aI G 256,
  fun g => .inr (0, [.int (g 0), .int (g 1), .int (g 2), .int (g 3), .ref (z + 120), .ref (z + 121), .ref (z + 122), .ref (z + 123), .ref (z + 124), .ref (z + 125)]),
  aI G 8,
  aI G 8,
  aI G 6,
  aI G 6,
  aI G 6,
  aI G 256,
  fun g => .inr (3, [.ref (z + 127), .int (g 1), .int (g 2)]),
  fun g => .inr (2, [.int (g 0), .int (g 1), .int (g 2), .int (g 3), .int (g 4), .int (g 5), .int (g 6), .int (g 7), .int (g 8), .int (g 9), .ref (z + 128), .ref (z + 129)]),
  aI G 6,
  aI G 6,
  fun g => .inr (3, [.ref (z + 131), .int (g 1), .int (g 2)]),
  fun g => .inr (2, [.int (g 0), .int (g 1), .int (g 2), .int (g 3), .int (g 4), .int (g 5), .int (g 6), .int (g 7), .int (g 8), .int (g 9), .ref (z + 132), .ref (z + 133)]),
  aI G 6,
  aI G 6,
  fun g => .inr (9, [.int (g 0), .ref (z + 135), .int (g 2), .int (g 3), .int (g 4), .int (g 5), .int (g 6), .int (g 7), .int (g 8), .int (g 9), .ref (z + 136), .ref (z + 137), .ref (z + 138), .ref (z + 139), .ref (z + 140), .int (g 15), .int (g 16), .int (g 17), .int (g 18), .ref (z + 141), .ref (z + 142), .ref (z + 143), .ref (z + 144), .ref (z + 145), .ref (z + 146), .int (g 25), .int (g 26), .ref (z + 147), .long (g 28).toInt64, .ref (z + 148), .int (g 30), .int (g 31), .int (g 32), .ref (z + 149), .int (g 34), .ref (z + 150), .ref (z + 151), .int (g 37), .ref (z + 152), .ref (z + 153), .ref (z + 154), .ref (z + 155), .ref (z + 156)]),
  aI G 240,
  aI G 8,
  aI G 8,
  aI G 6,
  aI G 6,
  aI G 6,
  aI G 8,
  aI G 8,
  aI G 6,
  aI G 6,
  aI G 6,
  aI G 25,
  aI G 750,
  aI G 2048,
  aI G 6,
  aI G 6,
  aI G 6,
  aI G 20,
  aI G 20,
  aZ G 2,
  aI G 50,
  fun g => aL G 2 (fun i => (g i).toInt64)]
def hp (G : GT) (z : Nat) (w : Mem) : HpT := fun k => ((lay G z)[k]?).map (fun f => f (w k))
theorem hp_of {G : GT} {z k : Nat} {w : Mem} {f : (Nat → Int32) → va_E} (h : (lay G z)[k]? = some f) : hp G z w k = some (f (w k)) := by
  unfold hp
  rw [h]
  rfl
theorem hup_wu {G : GT} {z k i : Nat} {w : Mem} {v : Int32} {f : (Nat → Int32) → va_E} {q : va_E} (h : (lay G z)[k]? = some f) (hq : q = f (upd (w k) i v)) : hup (hp G z w) k q = hp G z (wu w k i v) := by
  subst hq
  funext j
  by_cases e : j = k
  · subst e
    rw [hup_s]
    unfold hp
    rw [h]
    show _ = some (f (wu w j i v j))
    unfold wu
    rw [if_pos rfl]
  · rw [hup_n e]
    unfold hp wu
    rw [if_neg e]
theorem ly_0 {G : GT} {z : Nat} : (lay G z)[0]? = some (fun g => .inr (8, [.ref (z + 1), .ref (z + 3), .ref (z + 6), .ref (z + 98), .ref (z + 99), .ref (z + 101), .ref (z + 106), .ref (z + 109), .ref (z + brp (g 8)), .ref (z + brp (g 9)), .int (g 10), .int (g 11)])) := rfl
theorem ly_1 {G : GT} {z : Nat} : (lay G z)[1]? = some (fun g => .inr (6, [.ref (z + 2), .int (g 1), .int (g 2), .int (g 3), .int (g 4)])) := rfl
theorem ly_2 {G : GT} {z : Nat} : (lay G z)[2]? = some (aI G 240) := rfl
theorem ly_3 {G : GT} {z : Nat} : (lay G z)[3]? = some (fun g => .inr (2, [.int (g 0), .int (g 1), .int (g 2), .int (g 3), .int (g 4), .int (g 5), .int (g 6), .int (g 7), .int (g 8), .int (g 9), .ref (z + 4), .ref (z + 5)])) := rfl
theorem ly_4 {G : GT} {z : Nat} : (lay G z)[4]? = some (aI G 6) := rfl
theorem ly_5 {G : GT} {z : Nat} : (lay G z)[5]? = some (aI G 6) := rfl
theorem ly_6 {G : GT} {z : Nat} : (lay G z)[6]? = some (fun g => .inr (5, [.ref (z + 7), .int (g 1), .int (g 2)])) := rfl
theorem ly_7 {G : GT} {z : Nat} : (lay G z)[7]? = some (fun _ => aE G 30 (fun i => if i < 30 then some (z + (8 + 3 * i)) else none)) := rfl
theorem ly_98 {G : GT} {z : Nat} : (lay G z)[98]? = some (fun _ => aM G 2 (fun i => if i < 2 then some (z + (126 + 4 * i)) else none)) := rfl
theorem ly_99 {G : GT} {z : Nat} : (lay G z)[99]? = some (fun g => .inr (7, [.ref (z + 100), .int (g 1), .int (g 2), .int (g 3)])) := rfl
theorem ly_100 {G : GT} {z : Nat} : (lay G z)[100]? = some (aI G 256) := rfl
theorem ly_101 {G : GT} {z : Nat} : (lay G z)[101]? = some (fun g => .inr (4, [.ref (z + 102), .ref (z + 103), .ref (z + 104), .ref (z + 105), .int (g 4), .int (g 5), .int (g 6)])) := rfl
theorem ly_102 {G : GT} {z : Nat} : (lay G z)[102]? = some (aI G 6) := rfl
theorem ly_103 {G : GT} {z : Nat} : (lay G z)[103]? = some (aI G 6) := rfl
theorem ly_104 {G : GT} {z : Nat} : (lay G z)[104]? = some (aI G 6) := rfl
theorem ly_105 {G : GT} {z : Nat} : (lay G z)[105]? = some (aI G 6) := rfl
theorem ly_106 {G : GT} {z : Nat} : (lay G z)[106]? = some (fun g => .inr (1, [.ref (z + 107), .ref (z + 108), .int (g 2)])) := rfl
theorem ly_107 {G : GT} {z : Nat} : (lay G z)[107]? = some (aI G 6) := rfl
theorem ly_108 {G : GT} {z : Nat} : (lay G z)[108]? = some (aI G 6) := rfl
theorem ly_109 {G : GT} {z : Nat} : (lay G z)[109]? = some (fun g => .inr (1, [.ref (z + 110), .ref (z + 111), .int (g 2)])) := rfl
theorem ly_110 {G : GT} {z : Nat} : (lay G z)[110]? = some (aI G 20) := rfl
theorem ly_111 {G : GT} {z : Nat} : (lay G z)[111]? = some (aI G 20) := rfl
theorem ly_134 {G : GT} {z : Nat} : (lay G z)[134]? = some (fun g => .inr (9, [.int (g 0), .ref (z + 135), .int (g 2), .int (g 3), .int (g 4), .int (g 5), .int (g 6), .int (g 7), .int (g 8), .int (g 9), .ref (z + 136), .ref (z + 137), .ref (z + 138), .ref (z + 139), .ref (z + 140), .int (g 15), .int (g 16), .int (g 17), .int (g 18), .ref (z + 141), .ref (z + 142), .ref (z + 143), .ref (z + 144), .ref (z + 145), .ref (z + 146), .int (g 25), .int (g 26), .ref (z + 147), .long (g 28).toInt64, .ref (z + 148), .int (g 30), .int (g 31), .int (g 32), .ref (z + 149), .int (g 34), .ref (z + 150), .ref (z + 151), .int (g 37), .ref (z + 152), .ref (z + 153), .ref (z + 154), .ref (z + 155), .ref (z + 156)])) := rfl
theorem ly_135 {G : GT} {z : Nat} : (lay G z)[135]? = some (aI G 240) := rfl
theorem ly_136 {G : GT} {z : Nat} : (lay G z)[136]? = some (aI G 8) := rfl
theorem ly_137 {G : GT} {z : Nat} : (lay G z)[137]? = some (aI G 8) := rfl
theorem ly_138 {G : GT} {z : Nat} : (lay G z)[138]? = some (aI G 6) := rfl
theorem ly_139 {G : GT} {z : Nat} : (lay G z)[139]? = some (aI G 6) := rfl
theorem ly_140 {G : GT} {z : Nat} : (lay G z)[140]? = some (aI G 6) := rfl
theorem ly_141 {G : GT} {z : Nat} : (lay G z)[141]? = some (aI G 8) := rfl
theorem ly_142 {G : GT} {z : Nat} : (lay G z)[142]? = some (aI G 8) := rfl
theorem ly_143 {G : GT} {z : Nat} : (lay G z)[143]? = some (aI G 6) := rfl
theorem ly_144 {G : GT} {z : Nat} : (lay G z)[144]? = some (aI G 6) := rfl
theorem ly_145 {G : GT} {z : Nat} : (lay G z)[145]? = some (aI G 6) := rfl
theorem ly_146 {G : GT} {z : Nat} : (lay G z)[146]? = some (aI G 25) := rfl
theorem ly_147 {G : GT} {z : Nat} : (lay G z)[147]? = some (aI G 750) := rfl
theorem ly_148 {G : GT} {z : Nat} : (lay G z)[148]? = some (aI G 2048) := rfl
theorem ly_149 {G : GT} {z : Nat} : (lay G z)[149]? = some (aI G 6) := rfl
theorem ly_150 {G : GT} {z : Nat} : (lay G z)[150]? = some (aI G 6) := rfl
theorem ly_151 {G : GT} {z : Nat} : (lay G z)[151]? = some (aI G 6) := rfl
theorem ly_152 {G : GT} {z : Nat} : (lay G z)[152]? = some (aI G 20) := rfl
theorem ly_153 {G : GT} {z : Nat} : (lay G z)[153]? = some (aI G 20) := rfl
theorem ly_154 {G : GT} {z : Nat} : (lay G z)[154]? = some (aZ G 2) := rfl
theorem ly_155 {G : GT} {z : Nat} : (lay G z)[155]? = some (aI G 50) := rfl
theorem ly_156 {G : GT} {z : Nat} : (lay G z)[156]? = some (fun g => aL G 2 (fun i => (g i).toInt64)) := rfl
theorem lyBr0 {G : GT} {z b : Nat} (h : BrO b) : (lay G z)[b]? = some (fun g => .inr (0, [.int (g 0), .int (g 1), .int (g 2), .int (g 3), .ref (z + (b + 1)), .ref (z + (b + 2)), .ref (z + (b + 3)), .ref (z + (b + 4)), .ref (z + (b + 5)), .ref (z + (b + 6))])) := by
  rcases h with rfl | rfl <;> rfl
theorem lyBr1 {G : GT} {z b : Nat} (h : BrO b) : (lay G z)[b + 1]? = some (aI G 8) := by
  rcases h with rfl | rfl <;> rfl
theorem lyBr2 {G : GT} {z b : Nat} (h : BrO b) : (lay G z)[b + 2]? = some (aI G 8) := by
  rcases h with rfl | rfl <;> rfl
theorem lyBr3 {G : GT} {z b : Nat} (h : BrO b) : (lay G z)[b + 3]? = some (aI G 6) := by
  rcases h with rfl | rfl <;> rfl
theorem lyBr4 {G : GT} {z b : Nat} (h : BrO b) : (lay G z)[b + 4]? = some (aI G 6) := by
  rcases h with rfl | rfl <;> rfl
theorem lyBr5 {G : GT} {z b : Nat} (h : BrO b) : (lay G z)[b + 5]? = some (aI G 6) := by
  rcases h with rfl | rfl <;> rfl
theorem lyBr6 {G : GT} {z b : Nat} (h : BrO b) : (lay G z)[b + 6]? = some (aI G 256) := by
  rcases h with rfl | rfl <;> rfl
theorem ev_all {P : Nat → Prop} (h3 : P 3) (h1 : P 127) (h2 : P 131) (hr : P 8 ∧ P 11 ∧ P 14 ∧ P 17 ∧ P 20 ∧ P 23 ∧ P 26 ∧ P 29 ∧ P 32 ∧ P 35 ∧ P 38 ∧ P 41 ∧ P 44 ∧ P 47 ∧ P 50 ∧ P 53 ∧ P 56 ∧ P 59 ∧ P 62 ∧ P 65 ∧ P 68 ∧ P 71 ∧ P 74 ∧ P 77 ∧ P 80 ∧ P 83 ∧ P 86 ∧ P 89 ∧ P 92 ∧ P 95) {o : Nat} (h : EvO o) : P o := by
  rcases h with rfl | rfl | rfl | ⟨i, hi, rfl⟩
  · exact h3
  · exact h1
  · exact h2
  · have : i = 0 ∨ i = 1 ∨ i = 2 ∨ i = 3 ∨ i = 4 ∨ i = 5 ∨ i = 6 ∨ i = 7 ∨ i = 8 ∨ i = 9 ∨ i = 10 ∨ i = 11 ∨ i = 12 ∨ i = 13 ∨ i = 14 ∨ i = 15 ∨ i = 16 ∨ i = 17 ∨ i = 18 ∨ i = 19 ∨ i = 20 ∨ i = 21 ∨ i = 22 ∨ i = 23 ∨ i = 24 ∨ i = 25 ∨ i = 26 ∨ i = 27 ∨ i = 28 ∨ i = 29 := by omega
    rcases this with rfl | rfl | rfl | rfl | rfl | rfl | rfl | rfl | rfl | rfl | rfl | rfl | rfl | rfl | rfl | rfl | rfl | rfl | rfl | rfl | rfl | rfl | rfl | rfl | rfl | rfl | rfl | rfl | rfl | rfl
    · exact hr.1
    · exact hr.2.1
    · exact hr.2.2.1
    · exact hr.2.2.2.1
    · exact hr.2.2.2.2.1
    · exact hr.2.2.2.2.2.1
    · exact hr.2.2.2.2.2.2.1
    · exact hr.2.2.2.2.2.2.2.1
    · exact hr.2.2.2.2.2.2.2.2.1
    · exact hr.2.2.2.2.2.2.2.2.2.1
    · exact hr.2.2.2.2.2.2.2.2.2.2.1
    · exact hr.2.2.2.2.2.2.2.2.2.2.2.1
    · exact hr.2.2.2.2.2.2.2.2.2.2.2.2.1
    · exact hr.2.2.2.2.2.2.2.2.2.2.2.2.2.1
    · exact hr.2.2.2.2.2.2.2.2.2.2.2.2.2.2.1
    · exact hr.2.2.2.2.2.2.2.2.2.2.2.2.2.2.2.1
    · exact hr.2.2.2.2.2.2.2.2.2.2.2.2.2.2.2.2.1
    · exact hr.2.2.2.2.2.2.2.2.2.2.2.2.2.2.2.2.2.1
    · exact hr.2.2.2.2.2.2.2.2.2.2.2.2.2.2.2.2.2.2.1
    · exact hr.2.2.2.2.2.2.2.2.2.2.2.2.2.2.2.2.2.2.2.1
    · exact hr.2.2.2.2.2.2.2.2.2.2.2.2.2.2.2.2.2.2.2.2.1
    · exact hr.2.2.2.2.2.2.2.2.2.2.2.2.2.2.2.2.2.2.2.2.2.1
    · exact hr.2.2.2.2.2.2.2.2.2.2.2.2.2.2.2.2.2.2.2.2.2.2.1
    · exact hr.2.2.2.2.2.2.2.2.2.2.2.2.2.2.2.2.2.2.2.2.2.2.2.1
    · exact hr.2.2.2.2.2.2.2.2.2.2.2.2.2.2.2.2.2.2.2.2.2.2.2.2.1
    · exact hr.2.2.2.2.2.2.2.2.2.2.2.2.2.2.2.2.2.2.2.2.2.2.2.2.2.1
    · exact hr.2.2.2.2.2.2.2.2.2.2.2.2.2.2.2.2.2.2.2.2.2.2.2.2.2.2.1
    · exact hr.2.2.2.2.2.2.2.2.2.2.2.2.2.2.2.2.2.2.2.2.2.2.2.2.2.2.2.1
    · exact hr.2.2.2.2.2.2.2.2.2.2.2.2.2.2.2.2.2.2.2.2.2.2.2.2.2.2.2.2.1
    · exact hr.2.2.2.2.2.2.2.2.2.2.2.2.2.2.2.2.2.2.2.2.2.2.2.2.2.2.2.2.2
theorem lyEv0 {G : GT} {z o : Nat} (h : EvO o) : (lay G z)[o]? = some (fun g => .inr (2, [.int (g 0), .int (g 1), .int (g 2), .int (g 3), .int (g 4), .int (g 5), .int (g 6), .int (g 7), .int (g 8), .int (g 9), .ref (z + (o + 1)), .ref (z + (o + 2))])) :=
  ev_all (P := fun o => (lay G z)[o]? = some (fun g => .inr (2, [.int (g 0), .int (g 1), .int (g 2), .int (g 3), .int (g 4), .int (g 5), .int (g 6), .int (g 7), .int (g 8), .int (g 9), .ref (z + (o + 1)), .ref (z + (o + 2))]))) rfl rfl rfl ⟨rfl, rfl, rfl, rfl, rfl, rfl, rfl, rfl, rfl, rfl, rfl, rfl, rfl, rfl, rfl, rfl, rfl, rfl, rfl, rfl, rfl, rfl, rfl, rfl, rfl, rfl, rfl, rfl, rfl, rfl⟩ h
theorem lyEv1 {G : GT} {z o : Nat} (h : EvO o) : (lay G z)[o + 1]? = some (aI G 6) :=
  ev_all (P := fun o => (lay G z)[o + 1]? = some (aI G 6)) rfl rfl rfl ⟨rfl, rfl, rfl, rfl, rfl, rfl, rfl, rfl, rfl, rfl, rfl, rfl, rfl, rfl, rfl, rfl, rfl, rfl, rfl, rfl, rfl, rfl, rfl, rfl, rfl, rfl, rfl, rfl, rfl, rfl⟩ h
theorem lyEv2 {G : GT} {z o : Nat} (h : EvO o) : (lay G z)[o + 2]? = some (aI G 6) :=
  ev_all (P := fun o => (lay G z)[o + 2]? = some (aI G 6)) rfl rfl rfl ⟨rfl, rfl, rfl, rfl, rfl, rfl, rfl, rfl, rfl, rfl, rfl, rfl, rfl, rfl, rfl, rfl, rfl, rfl, rfl, rfl, rfl, rfl, rfl, rfl, rfl, rfl, rfl, rfl, rfl, rfl⟩ h
theorem lyIm0 {G : GT} {z o : Nat} (h : ImO o) : (lay G z)[o]? = some (fun g => .inr (3, [.ref (z + (o + 1)), .int (g 1), .int (g 2)])) := by
  rcases h with rfl | rfl <;> rfl
def DX {α : Type} (p : Program) (l : Launch) (e : Env) (R : Room) (s : State) (m : MethodId) (args : Array Value) (below : List Frame) (meth : Method) (c : Code) (G : GT) (z nL n : Nat) (Z : State → Prop) (Ok : α → Prop) (pc : Nat) (lo : List (Nat × Value)) (st : List Value) (w : Mem) (o : Option α) : Prop :=
  ∀ v, o = some v → Ok v → Xw p l e R s m args below meth c G z nL Z pc lo st (hp G z w) n 0 0
def rd {α : Type} (N : Nat) (a : Nat → Int32) (i : Int32) (K : Int32 → Option α) : Option α := if 0 ≤ i.toInt ∧ i.toInt < N then K (a i.toNatClampNeg) else none
def rdl {α : Type} (N : Nat) (a : Nat → Int32) (i : Int32) (K : Int64 → Option α) : Option α := if 0 ≤ i.toInt ∧ i.toInt < N then K (a i.toNatClampNeg).toInt64 else none
def wr {α : Type} (N k : Nat) (i v : Int32) (w : Mem) (K : Mem → Option α) : Option α := if 0 ≤ i.toInt ∧ i.toInt < N then K (wu w k i.toNatClampNeg v) else none
def wrl {α : Type} (N k : Nat) (i : Int32) (v : Int64) (w : Mem) (K : Mem → Option α) : Option α := if (0 ≤ i.toInt ∧ i.toInt < N) ∧ v.toInt32.toInt64 = v then K (wu w k i.toNatClampNeg v.toInt32) else none
def pw {α : Type} (k i : Nat) (v : Int32) (w : Mem) (K : Mem → Option α) : Option α := K (wu w k i v)
def pl {α : Type} (k i : Nat) (v : Int64) (w : Mem) (K : Mem → Option α) : Option α := if v.toInt32.toInt64 = v then K (wu w k i v.toInt32) else none
def pr {α : Type} (k i b : Nat) (w : Mem) (K : Mem → Option α) : Option α := if b = 112 ∨ b = 119 then K (wu w k i (if b = 112 then 0 else 1)) else none
def rg {α : Type} (i : Int32) (K : Nat → Option α) : Option α := if 0 ≤ i.toInt ∧ i.toInt < 30 then K (8 + 3 * i.toNatClampNeg) else none
def ri {α : Type} (i : Int32) (K : Nat → Option α) : Option α := if 0 ≤ i.toInt ∧ i.toInt < 2 then K (126 + 4 * i.toNatClampNeg) else none
def nz {α : Type} (y : Int32) (o : Option α) : Option α := if y = 0 then none else o
def nzl {α : Type} (y : Int64) (o : Option α) : Option α := if y = 0 then none else o
def zr {α : Type} (v : Int32) (o : Option α) : Option α := if v = 0 ∨ v = 1 then o else none
def lt {α : Type} (v : Int32) (K : Int32 → Option α) : Option α := K v
def ltl {α : Type} (v : Int64) (K : Int64 → Option α) : Option α := K v
def lp {S T : Type} (f : S → Option (Sum S T)) : Nat → S → Option T
  | 0, _ => none
  | k + 1, s => match f s with
    | none => none
    | some (Sum.inl s2) => lp f k s2
    | some (Sum.inr r) => some r
def okL {S T : Type} (X : S → Prop) (Ok : T → Prop) : Sum S T → Prop
  | Sum.inl s => X s
  | Sum.inr r => Ok r
section DXS
variable {p : Program} {l : Launch} {e : Env} {R : Room} {s : State} {m : MethodId} {args : Array Value} {below : List Frame} {meth : Method} {c : Code} {G : GT} {z nL n : Nat} {Z : State → Prop} {α : Type} {Ok : α → Prop} {pc : Nat} {lo : List (Nat × Value)} {st : List Value} {w : Mem} {o : Option α} {own : String} {cc : ByteArray}
theorem dx_iadd (C : Cx p s m args c G own cc nL z) {x y : Int32} (d : decode cc pc = .ok (.iadd, 1)) (k : DX p l e R s m args below meth c G z nL n Z Ok (pc + 1) lo (.int (x + y) :: st) w o) : DX p l e R s m args below meth c G z nL n Z Ok pc lo (.int y :: .int x :: st) w o := fun v9 h9 hk9 => x_iadd C d (k v9 h9 hk9)
theorem dx_isub (C : Cx p s m args c G own cc nL z) {x y : Int32} (d : decode cc pc = .ok (.isub, 1)) (k : DX p l e R s m args below meth c G z nL n Z Ok (pc + 1) lo (.int (x - y) :: st) w o) : DX p l e R s m args below meth c G z nL n Z Ok pc lo (.int y :: .int x :: st) w o := fun v9 h9 hk9 => x_isub C d (k v9 h9 hk9)
theorem dx_imul (C : Cx p s m args c G own cc nL z) {x y : Int32} (d : decode cc pc = .ok (.imul, 1)) (k : DX p l e R s m args below meth c G z nL n Z Ok (pc + 1) lo (.int (x * y) :: st) w o) : DX p l e R s m args below meth c G z nL n Z Ok pc lo (.int y :: .int x :: st) w o := fun v9 h9 hk9 => x_imul C d (k v9 h9 hk9)
theorem dx_iand (C : Cx p s m args c G own cc nL z) {x y : Int32} (d : decode cc pc = .ok (.iand, 1)) (k : DX p l e R s m args below meth c G z nL n Z Ok (pc + 1) lo (.int (x &&& y) :: st) w o) : DX p l e R s m args below meth c G z nL n Z Ok pc lo (.int y :: .int x :: st) w o := fun v9 h9 hk9 => x_iand C d (k v9 h9 hk9)
theorem dx_ior (C : Cx p s m args c G own cc nL z) {x y : Int32} (d : decode cc pc = .ok (.ior, 1)) (k : DX p l e R s m args below meth c G z nL n Z Ok (pc + 1) lo (.int (x ||| y) :: st) w o) : DX p l e R s m args below meth c G z nL n Z Ok pc lo (.int y :: .int x :: st) w o := fun v9 h9 hk9 => x_ior C d (k v9 h9 hk9)
theorem dx_ixor (C : Cx p s m args c G own cc nL z) {x y : Int32} (d : decode cc pc = .ok (.ixor, 1)) (k : DX p l e R s m args below meth c G z nL n Z Ok (pc + 1) lo (.int (x ^^^ y) :: st) w o) : DX p l e R s m args below meth c G z nL n Z Ok pc lo (.int y :: .int x :: st) w o := fun v9 h9 hk9 => x_ixor C d (k v9 h9 hk9)
theorem dx_ishl (C : Cx p s m args c G own cc nL z) {x y : Int32} (d : decode cc pc = .ok (.ishl, 1)) (k : DX p l e R s m args below meth c G z nL n Z Ok (pc + 1) lo (.int (x <<< (y &&& 31)) :: st) w o) : DX p l e R s m args below meth c G z nL n Z Ok pc lo (.int y :: .int x :: st) w o := fun v9 h9 hk9 => x_ishl C d (k v9 h9 hk9)
theorem dx_ishr (C : Cx p s m args c G own cc nL z) {x y : Int32} (d : decode cc pc = .ok (.ishr, 1)) (k : DX p l e R s m args below meth c G z nL n Z Ok (pc + 1) lo (.int (x >>> (y &&& 31)) :: st) w o) : DX p l e R s m args below meth c G z nL n Z Ok pc lo (.int y :: .int x :: st) w o := fun v9 h9 hk9 => x_ishr C d (k v9 h9 hk9)
theorem dx_iushr (C : Cx p s m args c G own cc nL z) {x y : Int32} (d : decode cc pc = .ok (.iushr, 1)) (k : DX p l e R s m args below meth c G z nL n Z Ok (pc + 1) lo (.int ((x.toUInt32 >>> (y.toUInt32 &&& Int32.toUInt32 31)).toInt32) :: st) w o) : DX p l e R s m args below meth c G z nL n Z Ok pc lo (.int y :: .int x :: st) w o := fun v9 h9 hk9 => x_iushr C d (k v9 h9 hk9)
theorem dx_ladd (C : Cx p s m args c G own cc nL z) {x y : Int64} (d : decode cc pc = .ok (.ladd, 1)) (k : DX p l e R s m args below meth c G z nL n Z Ok (pc + 1) lo (.long (x + y) :: st) w o) : DX p l e R s m args below meth c G z nL n Z Ok pc lo (.long y :: .long x :: st) w o := fun v9 h9 hk9 => x_ladd C d (k v9 h9 hk9)
theorem dx_lmul (C : Cx p s m args c G own cc nL z) {x y : Int64} (d : decode cc pc = .ok (.lmul, 1)) (k : DX p l e R s m args below meth c G z nL n Z Ok (pc + 1) lo (.long (x * y) :: st) w o) : DX p l e R s m args below meth c G z nL n Z Ok pc lo (.long y :: .long x :: st) w o := fun v9 h9 hk9 => x_lmul C d (k v9 h9 hk9)
theorem dx_ineg (C : Cx p s m args c G own cc nL z) {x : Int32} (d : decode cc pc = .ok (.ineg, 1)) (k : DX p l e R s m args below meth c G z nL n Z Ok (pc + 1) lo (.int (-x) :: st) w o) : DX p l e R s m args below meth c G z nL n Z Ok pc lo (.int x :: st) w o := fun v9 h9 hk9 => x_ineg C d (k v9 h9 hk9)
theorem dx_i2l (C : Cx p s m args c G own cc nL z) {x : Int32} (d : decode cc pc = .ok (.i2l, 1)) (k : DX p l e R s m args below meth c G z nL n Z Ok (pc + 1) lo (.long x.toInt64 :: st) w o) : DX p l e R s m args below meth c G z nL n Z Ok pc lo (.int x :: st) w o := fun v9 h9 hk9 => x_i2l C d (k v9 h9 hk9)
theorem dx_l2i (C : Cx p s m args c G own cc nL z) {x : Int64} (d : decode cc pc = .ok (.l2i, 1)) (k : DX p l e R s m args below meth c G z nL n Z Ok (pc + 1) lo (.int x.toInt32 :: st) w o) : DX p l e R s m args below meth c G z nL n Z Ok pc lo (.long x :: st) w o := fun v9 h9 hk9 => x_l2i C d (k v9 h9 hk9)
theorem dx_dup (C : Cx p s m args c G own cc nL z) {va : Value} (d : decode cc pc = .ok (.dup, 1)) (hva : va.category = 1) (k : DX p l e R s m args below meth c G z nL n Z Ok (pc + 1) lo (va :: va :: st) w o) : DX p l e R s m args below meth c G z nL n Z Ok pc lo (va :: st) w o := fun v9 h9 hk9 => x_dup C d hva (k v9 h9 hk9)
theorem dx_pop (C : Cx p s m args c G own cc nL z) {va : Value} (d : decode cc pc = .ok (.pop, 1)) (hva : va.category = 1) (k : DX p l e R s m args below meth c G z nL n Z Ok (pc + 1) lo (st) w o) : DX p l e R s m args below meth c G z nL n Z Ok pc lo (va :: st) w o := fun v9 h9 hk9 => x_pop C d hva (k v9 h9 hk9)
theorem dx_dup2 (C : Cx p s m args c G own cc nL z) {va vb : Value} (d : decode cc pc = .ok (.dup2, 1)) (hva : va.category = 1) (hvb : vb.category = 1) (k : DX p l e R s m args below meth c G z nL n Z Ok (pc + 1) lo (va :: vb :: va :: vb :: st) w o) : DX p l e R s m args below meth c G z nL n Z Ok pc lo (va :: vb :: st) w o := fun v9 h9 hk9 => x_dup2 C d hva hvb (k v9 h9 hk9)
theorem dx_iconst (C : Cx p s m args c G own cc nL z) {k0 : Int} {v : Int32} (d : decode cc pc = .ok (.iconst k0, 1)) (hv : Int32.ofInt k0 = v) (k : DX p l e R s m args below meth c G z nL n Z Ok (pc + 1) lo (.int v :: st) w o) : DX p l e R s m args below meth c G z nL n Z Ok pc lo (st) w o := fun v9 h9 hk9 => x_iconst C d hv (k v9 h9 hk9)
theorem dx_bipush (C : Cx p s m args c G own cc nL z) {k0 : Int} {v : Int32} (d : decode cc pc = .ok (.bipush k0, 2)) (hv : (Int8.ofInt k0).toInt32 = v) (k : DX p l e R s m args below meth c G z nL n Z Ok (pc + 2) lo (.int v :: st) w o) : DX p l e R s m args below meth c G z nL n Z Ok pc lo (st) w o := fun v9 h9 hk9 => x_bipush C d hv (k v9 h9 hk9)
theorem dx_sipush (C : Cx p s m args c G own cc nL z) {k0 : Int} {v : Int32} (d : decode cc pc = .ok (.sipush k0, 3)) (hv : (Int16.ofInt k0).toInt32 = v) (k : DX p l e R s m args below meth c G z nL n Z Ok (pc + 3) lo (.int v :: st) w o) : DX p l e R s m args below meth c G z nL n Z Ok pc lo (st) w o := fun v9 h9 hk9 => x_sipush C d hv (k v9 h9 hk9)
theorem dx_iload_n (C : Cx p s m args c G own cc nL z) (j : Nat) {k0 : Fin 4} {i : Nat} {x : Int32} (d : decode cc pc = .ok (.iload_n k0, 1)) (hi : (k0 : Nat) = i) (hj : lo[j]? = some (i, .int x)) (k : DX p l e R s m args below meth c G z nL n Z Ok (pc + 1) lo (.int x :: st) w o) : DX p l e R s m args below meth c G z nL n Z Ok pc lo st w o := fun v9 h9 hk9 => x_iload_n C j d hi hj (k v9 h9 hk9)
theorem dx_iload (C : Cx p s m args c G own cc nL z) (j : Nat) {i : Nat} {x : Int32} (d : decode cc pc = .ok (.iload i, 2)) (hj : lo[j]? = some (i, .int x)) (k : DX p l e R s m args below meth c G z nL n Z Ok (pc + 2) lo (.int x :: st) w o) : DX p l e R s m args below meth c G z nL n Z Ok pc lo st w o := fun v9 h9 hk9 => x_iload C j d hj (k v9 h9 hk9)
theorem dx_istore_n (C : Cx p s m args c G own cc nL z) (lo2 : List (Nat × Value)) {k0 : Fin 4} {i : Nat} {x : Int32} (d : decode cc pc = .ok (.istore_n k0, 1)) (hi : (k0 : Nat) = i) (hn : i < nL) (h2 : (i, Value.int x) :: lo.filter (fun q => !(q.1 == i) && !(q.1 + 1 == i && q.2.category == 2)) = lo2) (k : DX p l e R s m args below meth c G z nL n Z Ok (pc + 1) lo2 st w o) : DX p l e R s m args below meth c G z nL n Z Ok pc lo (.int x :: st) w o := fun v9 h9 hk9 => x_istore_n C lo2 d hi hn h2 (k v9 h9 hk9)
theorem dx_istore (C : Cx p s m args c G own cc nL z) (lo2 : List (Nat × Value)) {i : Nat} {x : Int32} (d : decode cc pc = .ok (.istore i, 2)) (hn : i < nL) (h2 : (i, Value.int x) :: lo.filter (fun q => !(q.1 == i) && !(q.1 + 1 == i && q.2.category == 2)) = lo2) (k : DX p l e R s m args below meth c G z nL n Z Ok (pc + 2) lo2 st w o) : DX p l e R s m args below meth c G z nL n Z Ok pc lo (.int x :: st) w o := fun v9 h9 hk9 => x_istore C lo2 d hn h2 (k v9 h9 hk9)
theorem dx_lload_n (C : Cx p s m args c G own cc nL z) (j : Nat) {k0 : Fin 4} {i : Nat} {x : Int64} (d : decode cc pc = .ok (.lload_n k0, 1)) (hi : (k0 : Nat) = i) (hj : lo[j]? = some (i, .long x)) (k : DX p l e R s m args below meth c G z nL n Z Ok (pc + 1) lo (.long x :: st) w o) : DX p l e R s m args below meth c G z nL n Z Ok pc lo st w o := fun v9 h9 hk9 => x_lload_n C j d hi hj (k v9 h9 hk9)
theorem dx_lload (C : Cx p s m args c G own cc nL z) (j : Nat) {i : Nat} {x : Int64} (d : decode cc pc = .ok (.lload i, 2)) (hj : lo[j]? = some (i, .long x)) (k : DX p l e R s m args below meth c G z nL n Z Ok (pc + 2) lo (.long x :: st) w o) : DX p l e R s m args below meth c G z nL n Z Ok pc lo st w o := fun v9 h9 hk9 => x_lload C j d hj (k v9 h9 hk9)
theorem dx_lstore_n (C : Cx p s m args c G own cc nL z) (lo2 : List (Nat × Value)) {k0 : Fin 4} {i : Nat} {x : Int64} (d : decode cc pc = .ok (.lstore_n k0, 1)) (hi : (k0 : Nat) = i) (hn : i + 1 < nL) (h2 : (i, Value.long x) :: lo.filter (fun q => !(q.1 == i) && (!(q.1 == i + 1) && !(q.1 + 1 == i && q.2.category == 2))) = lo2) (k : DX p l e R s m args below meth c G z nL n Z Ok (pc + 1) lo2 st w o) : DX p l e R s m args below meth c G z nL n Z Ok pc lo (.long x :: st) w o := fun v9 h9 hk9 => x_lstore_n C lo2 d hi hn h2 (k v9 h9 hk9)
theorem dx_lstore (C : Cx p s m args c G own cc nL z) (lo2 : List (Nat × Value)) {i : Nat} {x : Int64} (d : decode cc pc = .ok (.lstore i, 2)) (hn : i + 1 < nL) (h2 : (i, Value.long x) :: lo.filter (fun q => !(q.1 == i) && (!(q.1 == i + 1) && !(q.1 + 1 == i && q.2.category == 2))) = lo2) (k : DX p l e R s m args below meth c G z nL n Z Ok (pc + 2) lo2 st w o) : DX p l e R s m args below meth c G z nL n Z Ok pc lo (.long x :: st) w o := fun v9 h9 hk9 => x_lstore C lo2 d hn h2 (k v9 h9 hk9)
theorem dx_aload_n (C : Cx p s m args c G own cc nL z) (j : Nat) {k0 : Fin 4} {i : Nat} {x : Nat} (d : decode cc pc = .ok (.aload_n k0, 1)) (hi : (k0 : Nat) = i) (hj : lo[j]? = some (i, .ref x)) (k : DX p l e R s m args below meth c G z nL n Z Ok (pc + 1) lo (.ref x :: st) w o) : DX p l e R s m args below meth c G z nL n Z Ok pc lo st w o := fun v9 h9 hk9 => x_aload_n C j d hi hj (k v9 h9 hk9)
theorem dx_aload (C : Cx p s m args c G own cc nL z) (j : Nat) {i : Nat} {x : Nat} (d : decode cc pc = .ok (.aload i, 2)) (hj : lo[j]? = some (i, .ref x)) (k : DX p l e R s m args below meth c G z nL n Z Ok (pc + 2) lo (.ref x :: st) w o) : DX p l e R s m args below meth c G z nL n Z Ok pc lo st w o := fun v9 h9 hk9 => x_aload C j d hj (k v9 h9 hk9)
theorem dx_astore_n (C : Cx p s m args c G own cc nL z) (lo2 : List (Nat × Value)) {k0 : Fin 4} {i : Nat} {x : Nat} (d : decode cc pc = .ok (.astore_n k0, 1)) (hi : (k0 : Nat) = i) (hn : i < nL) (h2 : (i, Value.ref x) :: lo.filter (fun q => !(q.1 == i) && !(q.1 + 1 == i && q.2.category == 2)) = lo2) (k : DX p l e R s m args below meth c G z nL n Z Ok (pc + 1) lo2 st w o) : DX p l e R s m args below meth c G z nL n Z Ok pc lo (.ref x :: st) w o := fun v9 h9 hk9 => x_astore_n C lo2 d hi hn h2 (k v9 h9 hk9)
theorem dx_astore (C : Cx p s m args c G own cc nL z) (lo2 : List (Nat × Value)) {i : Nat} {x : Nat} (d : decode cc pc = .ok (.astore i, 2)) (hn : i < nL) (h2 : (i, Value.ref x) :: lo.filter (fun q => !(q.1 == i) && !(q.1 + 1 == i && q.2.category == 2)) = lo2) (k : DX p l e R s m args below meth c G z nL n Z Ok (pc + 2) lo2 st w o) : DX p l e R s m args below meth c G z nL n Z Ok pc lo (.ref x :: st) w o := fun v9 h9 hk9 => x_astore C lo2 d hn h2 (k v9 h9 hk9)
theorem dx_iinc (C : Cx p s m args c G own cc nL z) (j : Nat) (lo2 : List (Nat × Value)) {i : Nat} {k0 : Int} {x v : Int32} (d : decode cc pc = .ok (.iinc i k0, 3)) (hj : lo[j]? = some (i, .int x)) (hv : x + Int32.ofInt k0 = v) (hn : i < nL) (h2 : (i, Value.int v) :: lo.filter (fun q => !(q.1 == i) && !(q.1 + 1 == i && q.2.category == 2)) = lo2) (k : DX p l e R s m args below meth c G z nL n Z Ok (pc + 3) lo2 st w o) : DX p l e R s m args below meth c G z nL n Z Ok pc lo st w o := fun v9 h9 hk9 => x_iinc C j lo2 d hj hv hn h2 (k v9 h9 hk9)
theorem dx_goto (C : Cx p s m args c G own cc nL z) {off : Int} (tgt : Nat) (d : decode cc pc = .ok (.goto off, 3)) (ht : (pc : Int) + off = (tgt : Int)) (k : DX p l e R s m args below meth c G z nL n Z Ok tgt lo st w o) : DX p l e R s m args below meth c G z nL n Z Ok pc lo st w o := fun v9 h9 hk9 => x_goto C tgt d ht (k v9 h9 hk9)
theorem dx_ldc (C : Cx p s m args c G own cc nL z) {index : Nat} {v : Int32} (hw : Cond.constant own index v ∈ lw_good) (d : decode cc pc = .ok (.ldc index, 2)) (k : DX p l e R s m args below meth c G z nL n Z Ok (pc + 2) lo (.int v :: st) w o) : DX p l e R s m args below meth c G z nL n Z Ok pc lo st w o := fun v9 h9 hk9 => x_ldc C hw d (k v9 h9 hk9)
theorem dx_ldcw (C : Cx p s m args c G own cc nL z) {index : Nat} {v : Int32} (hw : Cond.constant own index v ∈ lw_good) (d : decode cc pc = .ok (.ldc_w index, 3)) (k : DX p l e R s m args below meth c G z nL n Z Ok (pc + 3) lo (.int v :: st) w o) : DX p l e R s m args below meth c G z nL n Z Ok pc lo st w o := fun v9 h9 hk9 => x_ldcw C hw d (k v9 h9 hk9)
theorem dx_ldc2 (C : Cx p s m args c G own cc nL z) {index : Nat} {v : Int64} (hw : Cond.constantLong own index v ∈ lw_good) (d : decode cc pc = .ok (.ldc2_w index, 3)) (k : DX p l e R s m args below meth c G z nL n Z Ok (pc + 3) lo (.long v :: st) w o) : DX p l e R s m args below meth c G z nL n Z Ok pc lo st w o := fun v9 h9 hk9 => x_ldc2 C hw d (k v9 h9 hk9)
theorem dx_mv {lo2 : List (Nat × Value)} (ks' : List Nat) (hl : lv_pick lo ks' = lo2) (k : DX p l e R s m args below meth c G z nL n Z Ok pc lo2 st w o) : DX p l e R s m args below meth c G z nL n Z Ok pc lo st w o := fun v9 h9 hk9 => x_mv ks' hl (k v9 h9 hk9)
theorem dx_tableIn (C : Cx p s m args c G own cc nL z) {dflt lo1 hi : Int} {offs : Array Int} {len : Nat} {x : Int32} {off : Int} (tgt : Nat) (d : decode cc pc = .ok (.tableswitch dflt lo1 hi offs, len)) (h1 : ¬ x.toInt < lo1) (h2 : ¬ hi < x.toInt) (ho : offs[(x.toInt - lo1).toNat]? = some off) (ht : (pc : Int) + off = (tgt : Int)) (k : DX p l e R s m args below meth c G z nL n Z Ok tgt lo st w o) : DX p l e R s m args below meth c G z nL n Z Ok pc lo (.int x :: st) w o := fun v9 h9 hk9 => x_tableIn C tgt d h1 h2 ho ht (k v9 h9 hk9)
theorem dx_tableOut (C : Cx p s m args c G own cc nL z) {dflt lo1 hi : Int} {offs : Array Int} {len : Nat} {x : Int32} (tgt : Nat) (d : decode cc pc = .ok (.tableswitch dflt lo1 hi offs, len)) (h : x.toInt < lo1 ∨ hi < x.toInt) (ht : (pc : Int) + dflt = (tgt : Int)) (k : DX p l e R s m args below meth c G z nL n Z Ok tgt lo st w o) : DX p l e R s m args below meth c G z nL n Z Ok pc lo (.int x :: st) w o := fun v9 h9 hk9 => x_tableOut C tgt d h ht (k v9 h9 hk9)
theorem dx_max (C : Cx p s m args c G own cc nL z) {index : Nat} (hlk : Cond.methodLink own index Lib.Math.max.name ∈ lw_good) (hw2 : Cond.static Lib.Math.max.name ∈ lw_good) (hw3 : Cond.initialized "java/lang/Math" ∈ lw_good) (hw4 : Cond.code Lib.Math.max.name Lib.Math.max.code 2 (some .int) ∈ lw_good) (hfr : 1 ≤ R.frames) (hlo : (st.map fun v => v.category).sum + 13 ≤ R.locals) {x y : Int32} (d : decode cc pc = .ok (.invokestatic index, 3)) (kk : DX p l e R s m args below meth c G z nL n Z Ok (pc + 3) lo (.int (if x < y then y else x) :: st) w o) : DX p l e R s m args below meth c G z nL n Z Ok pc lo (.int y :: .int x :: st) w o := fun v9 h9 hk9 => x_max C hlk hw2 hw3 hw4 hfr hlo (Nat.zero_le _) (Nat.zero_le _) d (kk v9 h9 hk9)
theorem dx_min (C : Cx p s m args c G own cc nL z) {index : Nat} (hlk : Cond.methodLink own index Lib.Math.min.name ∈ lw_good) (hw2 : Cond.static Lib.Math.min.name ∈ lw_good) (hw3 : Cond.initialized "java/lang/Math" ∈ lw_good) (hw4 : Cond.code Lib.Math.min.name Lib.Math.min.code 2 (some .int) ∈ lw_good) (hfr : 1 ≤ R.frames) (hlo : (st.map fun v => v.category).sum + 13 ≤ R.locals) {x y : Int32} (d : decode cc pc = .ok (.invokestatic index, 3)) (kk : DX p l e R s m args below meth c G z nL n Z Ok (pc + 3) lo (.int (if y < x then y else x) :: st) w o) : DX p l e R s m args below meth c G z nL n Z Ok pc lo (.int y :: .int x :: st) w o := fun v9 h9 hk9 => x_min C hlk hw2 hw3 hw4 hfr hlo (Nat.zero_le _) (Nat.zero_le _) d (kk v9 h9 hk9)
theorem dx_idiv (C : Cx p s m args c G own cc nL z) {x y : Int32} (d : decode cc pc = .ok (.idiv, 1)) (hne : ¬ y = 0) (k : DX p l e R s m args below meth c G z nL n Z Ok (pc + 1) lo (.int (x / y) :: st) w o) : DX p l e R s m args below meth c G z nL n Z Ok pc lo (.int y :: .int x :: st) w o := fun v h hk => x_idiv C d hne (k v h hk)
theorem dx_irem (C : Cx p s m args c G own cc nL z) {x y : Int32} (d : decode cc pc = .ok (.irem, 1)) (hne : ¬ y = 0) (k : DX p l e R s m args below meth c G z nL n Z Ok (pc + 1) lo (.int (x - x / y * y) :: st) w o) : DX p l e R s m args below meth c G z nL n Z Ok pc lo (.int y :: .int x :: st) w o := fun v h hk => x_irem C d hne (k v h hk)
theorem dx_ldiv (C : Cx p s m args c G own cc nL z) {x y : Int64} (d : decode cc pc = .ok (.ldiv, 1)) (hne : ¬ y = 0) (k : DX p l e R s m args below meth c G z nL n Z Ok (pc + 1) lo (.long (x / y) :: st) w o) : DX p l e R s m args below meth c G z nL n Z Ok pc lo (.long y :: .long x :: st) w o := fun v h hk => x_ldiv C d hne (k v h hk)
theorem dx_lrem (C : Cx p s m args c G own cc nL z) {x y : Int64} (d : decode cc pc = .ok (.lrem, 1)) (hne : ¬ y = 0) (k : DX p l e R s m args below meth c G z nL n Z Ok (pc + 1) lo (.long (x - x / y * y) :: st) w o) : DX p l e R s m args below meth c G z nL n Z Ok pc lo (.long y :: .long x :: st) w o := fun v h hk => x_lrem C d hne (k v h hk)
theorem dx_nz {y : Int32} (k : ¬ y = 0 → DX p l e R s m args below meth c G z nL n Z Ok pc lo st w o) : DX p l e R s m args below meth c G z nL n Z Ok pc lo st w (nz y o) := by
  intro v h hk
  unfold nz at h
  by_cases hb : y = 0
  · rw [if_pos hb] at h; cases h
  · rw [if_neg hb] at h; exact k hb v h hk
theorem dx_nzl {y : Int64} (k : ¬ y = 0 → DX p l e R s m args below meth c G z nL n Z Ok pc lo st w o) : DX p l e R s m args below meth c G z nL n Z Ok pc lo st w (nzl y o) := by
  intro v h hk
  unfold nzl at h
  by_cases hb : y = 0
  · rw [if_pos hb] at h; cases h
  · rw [if_neg hb] at h; exact k hb v h hk
theorem dx_zr {y : Int32} (k : (y = 0 ∨ y = 1) → DX p l e R s m args below meth c G z nL n Z Ok pc lo st w o) : DX p l e R s m args below meth c G z nL n Z Ok pc lo st w (zr y o) := by
  intro v h hk
  unfold zr at h
  by_cases hb : y = 0 ∨ y = 1
  · rw [if_pos hb] at h; exact k hb v h hk
  · rw [if_neg hb] at h; cases h
theorem dx_lt {x : Int32} {K : Int32 → Option α} (k : ∀ y, DX p l e R s m args below meth c G z nL n Z Ok pc lo (.int y :: st) w (K y)) : DX p l e R s m args below meth c G z nL n Z Ok pc lo (.int x :: st) w (lt x K) := k x
theorem dx_ltl {x : Int64} {K : Int64 → Option α} (k : ∀ y, DX p l e R s m args below meth c G z nL n Z Ok pc lo (.long y :: st) w (K y)) : DX p l e R s m args below meth c G z nL n Z Ok pc lo (.long x :: st) w (ltl x K) := k x
theorem dx_ite {P : Prop} [Decidable P] {A B : Option α} (kt : P → DX p l e R s m args below meth c G z nL n Z Ok pc lo st w A) (kf : ¬ P → DX p l e R s m args below meth c G z nL n Z Ok pc lo st w B) : DX p l e R s m args below meth c G z nL n Z Ok pc lo st w (if P then A else B) := by
  intro v h hk
  by_cases hb : P
  · rw [if_pos hb] at h; exact kt hb v h hk
  · rw [if_neg hb] at h; exact kf hb v h hk
theorem dx_end {a : α} (hk : Ok a → Xw p l e R s m args below meth c G z nL Z pc lo st (hp G z w) n 0 0) : DX p l e R s m args below meth c G z nL n Z Ok pc lo st w (some a) := fun v h hv => hk (by cases h; exact hv)
theorem dx_bind {β : Type} {A : Option β} {K : β → Option α} (pcJ : Nat) (loJ : β → List (Nat × Value)) (stJ : β → List Value) (wJ : β → Mem) (hJ : ∀ v, DX p l e R s m args below meth c G z nL n Z Ok pcJ (loJ v) (stJ v) (wJ v) (K v))
    (hX : DX p l e R s m args below meth c G z nL n Z (fun v => Xw p l e R s m args below meth c G z nL Z pcJ (loJ v) (stJ v) (hp G z (wJ v)) n 0 0) pc lo st w A) : DX p l e R s m args below meth c G z nL n Z Ok pc lo st w (A.bind K) := by
  intro r h hk
  obtain ⟨v, h1, h2⟩ := Option.bind_eq_some_iff.mp h
  exact hX v h1 (hJ v r h2 hk)
theorem dx_lp {S T : Type} {Ok : T → Prop} {f : S → Option (Sum S T)} (loH : S → List (Nat × Value)) (stH : List Value) (wH : S → Mem)
    (hb : ∀ q, DX p l e R s m args below meth c G z nL n Z (okL (fun q2 => Xw p l e R s m args below meth c G z nL Z pc (loH q2) stH (hp G z (wH q2)) n 0 0) Ok) pc (loH q) stH (wH q) (f q)) : ∀ (k : Nat) (q : S), DX p l e R s m args below meth c G z nL n Z Ok pc (loH q) stH (wH q) (lp f k q) := by
  intro k
  induction k with
  | zero => intro q v h; cases h
  | succ k ih =>
    intro q v h hk
    unfold lp at h
    match hf : f q with
    | none => rw [hf] at h; cases h
    | some (Sum.inl q2) => rw [hf] at h; exact hb q (Sum.inl q2) hf (ih q2 v h hk)
    | some (Sum.inr r) => rw [hf] at h; cases h; exact hb q (Sum.inr _) hf hk
theorem dx_rd (C : Cx p s m args c G own cc nL z) {a N : Nat} {i : Int32} {K : Int32 → Option α} (hl : (lay G z)[a]? = some (aI G N)) (d : decode cc pc = .ok (.iaload, 1)) (k : ∀ v, DX p l e R s m args below meth c G z nL n Z Ok (pc + 1) lo (.int v :: st) w (K v)) : DX p l e R s m args below meth c G z nL n Z Ok pc lo (.int i :: .ref (z + a) :: st) w (rd N (w a) i K) := by
  intro v h hk
  unfold rd at h
  by_cases hb : 0 ≤ i.toInt ∧ i.toInt < N
  · rw [if_pos hb] at h
    exact x_iald C (hp_of hl) (vp_in_iff.mpr hb) d (k _ v h hk)
  · rw [if_neg hb] at h; cases h
theorem dx_rdz (C : Cx p s m args c G own cc nL z) {a N : Nat} {i : Int32} {K : Int32 → Option α} (hl : (lay G z)[a]? = some (aZ G N)) (d : decode cc pc = .ok (.baload, 1)) (k : ∀ v, DX p l e R s m args below meth c G z nL n Z Ok (pc + 1) lo (.int v :: st) w (K v)) : DX p l e R s m args below meth c G z nL n Z Ok pc lo (.int i :: .ref (z + a) :: st) w (rd N (w a) i K) := by
  intro v h hk
  unfold rd at h
  by_cases hb : 0 ≤ i.toInt ∧ i.toInt < N
  · rw [if_pos hb] at h
    exact x_zald C (hp_of hl) (vp_in_iff.mpr hb) d (k _ v h hk)
  · rw [if_neg hb] at h; cases h
theorem dx_rdl (C : Cx p s m args c G own cc nL z) {a N : Nat} {i : Int32} {K : Int64 → Option α} (hl : (lay G z)[a]? = some (fun g => aL G N (fun i => (g i).toInt64))) (d : decode cc pc = .ok (.laload, 1)) (k : ∀ v, DX p l e R s m args below meth c G z nL n Z Ok (pc + 1) lo (.long v :: st) w (K v)) : DX p l e R s m args below meth c G z nL n Z Ok pc lo (.int i :: .ref (z + a) :: st) w (rdl N (w a) i K) := by
  intro v h hk
  unfold rdl at h
  by_cases hb : 0 ≤ i.toInt ∧ i.toInt < N
  · rw [if_pos hb] at h
    exact x_lald C (hp_of hl) (vp_in_iff.mpr hb) d (k _ v h hk)
  · rw [if_neg hb] at h; cases h
theorem dx_wr (C : Cx p s m args c G own cc nL z) {a N : Nat} {i x : Int32} {K : Mem → Option α} (hl : (lay G z)[a]? = some (aI G N)) (d : decode cc pc = .ok (.iastore, 1)) (k : ∀ w2, DX p l e R s m args below meth c G z nL n Z Ok (pc + 1) lo st w2 (K w2)) : DX p l e R s m args below meth c G z nL n Z Ok pc lo (.int x :: .int i :: .ref (z + a) :: st) w (wr N a i x w K) := by
  intro v h hk
  unfold wr at h
  by_cases hb : 0 ≤ i.toInt ∧ i.toInt < N
  · rw [if_pos hb] at h
    exact x_iast C (hp_of hl) (vp_in_iff.mpr hb) d (x_heap (hup_wu hl rfl) (k _ v h hk))
  · rw [if_neg hb] at h; cases h
theorem dx_wrz (C : Cx p s m args c G own cc nL z) {a N : Nat} {i x : Int32} {K : Mem → Option α} (hl : (lay G z)[a]? = some (aZ G N)) (d : decode cc pc = .ok (.bastore, 1)) (hx : vp_nar .boolean x = x) (k : ∀ w2, DX p l e R s m args below meth c G z nL n Z Ok (pc + 1) lo st w2 (K w2)) : DX p l e R s m args below meth c G z nL n Z Ok pc lo (.int x :: .int i :: .ref (z + a) :: st) w (wr N a i x w K) := by
  intro v h hk
  unfold wr at h
  by_cases hb : 0 ≤ i.toInt ∧ i.toInt < N
  · rw [if_pos hb] at h
    exact x_zast C (hp_of hl) (vp_in_iff.mpr hb) d (by rw [hx]; exact x_heap (hup_wu hl rfl) (k _ v h hk))
  · rw [if_neg hb] at h; cases h
theorem updL_eq {g : Nat → Int32} {i : Nat} {x : Int64} (h : x.toInt32.toInt64 = x) : vp_updL (fun j => (g j).toInt64) i x = fun j => (upd g i x.toInt32 j).toInt64 := by
  funext j
  unfold upd vp_updL
  by_cases e : j = i
  · simp [e, h]
  · simp [e]
theorem dx_wrl (C : Cx p s m args c G own cc nL z) {a N : Nat} {i : Int32} {x : Int64} {K : Mem → Option α} (hl : (lay G z)[a]? = some (fun g => aL G N (fun i => (g i).toInt64))) (d : decode cc pc = .ok (.lastore, 1)) (k : ∀ w2, DX p l e R s m args below meth c G z nL n Z Ok (pc + 1) lo st w2 (K w2)) : DX p l e R s m args below meth c G z nL n Z Ok pc lo (.long x :: .int i :: .ref (z + a) :: st) w (wrl N a i x w K) := by
  intro v h hk
  unfold wrl at h
  by_cases hb : (0 ≤ i.toInt ∧ i.toInt < N) ∧ x.toInt32.toInt64 = x
  · rw [if_pos hb] at h
    exact x_last C (hp_of hl) (vp_in_iff.mpr hb.1) d (x_heap (hup_wu hl (by rw [updL_eq hb.2])) (k _ v h hk))
  · rw [if_neg hb] at h; cases h
theorem dx_ring (C : Cx p s m args c G own cc nL z) {i : Int32} {K : Nat → Option α} (d : decode cc pc = .ok (.aaload, 1)) (k : ∀ v, EvO v → DX p l e R s m args below meth c G z nL n Z Ok (pc + 1) lo (.ref (z + v) :: st) w (K v)) : DX p l e R s m args below meth c G z nL n Z Ok pc lo (.int i :: .ref (z + 7) :: st) w (rg i K) := by
  intro v h hk
  unfold rg at h
  by_cases hb : 0 ≤ i.toInt ∧ i.toInt < 30
  · rw [if_pos hb] at h
    exact x_aaldE C (hp_of ly_7) (vp_in_iff.mpr hb) (if_pos (i_cl0 hb.1 hb.2)) d (k _ (Or.inr (Or.inr (Or.inr ⟨_, i_cl0 hb.1 hb.2, rfl⟩))) v h hk)
  · rw [if_neg hb] at h; cases h
theorem dx_imgs (C : Cx p s m args c G own cc nL z) {i : Int32} {K : Nat → Option α} (d : decode cc pc = .ok (.aaload, 1)) (k : ∀ v, ImO v → DX p l e R s m args below meth c G z nL n Z Ok (pc + 1) lo (.ref (z + v) :: st) w (K v)) : DX p l e R s m args below meth c G z nL n Z Ok pc lo (.int i :: .ref (z + 98) :: st) w (ri i K) := by
  intro v h hk
  unfold ri at h
  by_cases hb : 0 ≤ i.toInt ∧ i.toInt < 2
  · rw [if_pos hb] at h
    exact x_aaldM C (hp_of ly_98) (vp_in_iff.mpr hb) (if_pos (i_cl0 hb.1 hb.2)) d (k _ (by have := i_cl0 (n := 2) hb.1 hb.2; show _ = _ ∨ _ = _; omega) v h hk)
  · rw [if_neg hb] at h; cases h
theorem dx_alen (C : Cx p s m args c G own cc nL z) (t0 : Nat) {a : Nat} {f : (Nat → Int32) → va_E} {cA : ClassId} {x : vp_A} {ty : FieldType} (hl : (lay G z)[a]? = some f) (hf : f (w a) = .inl (cA, x)) (ht : (gtys G)[t0]? = some (cA, ty)) {v : Int32} (hv : Int32.ofNat x.1 = v) (d : decode cc pc = .ok (.arraylength, 1)) (k : DX p l e R s m args below meth c G z nL n Z Ok (pc + 1) lo (.int v :: st) w o) : DX p l e R s m args below meth c G z nL n Z Ok pc lo (.ref (z + a) :: st) w o := fun q h hk => x_alen C t0 ((hp_of hl).trans (congrArg some hf)) ht hv d (k q h hk)
theorem dx_iret1 (C : Cx p s m args c G own cc nL z) {x r : Int32} {mc ms : Nat} {a : α} (hr : meth.sig.returnType = some .int) (hlk : meth.locks = false) (d : decode cc pc = .ok (.ireturn, 1)) (hq : Ok a → x = r) : DX p l e R s m args below meth c G z nL n (MQ below (Qm G z (some (.int r)) (hp G z w) n) args s mc ms (zA z)) Ok pc lo [.int x] w (some a) := fun v h hk => x_iret C hr hlk (Nat.zero_le _) (Nat.zero_le _) d (by cases h; rw [hq hk]) rfl rfl
theorem dx_zret1 (C : Cx p s m args c G own cc nL z) {x r : Int32} {mc ms : Nat} {a : α} (hr : meth.sig.returnType = some .boolean) (hlk : meth.locks = false) (hb : x = 0 ∨ x = 1) (d : decode cc pc = .ok (.ireturn, 1)) (hq : Ok a → x = r) : DX p l e R s m args below meth c G z nL n (MQ below (Qm G z (some (.int r)) (hp G z w) n) args s mc ms (zA z)) Ok pc lo [.int x] w (some a) := fun v h hk => x_zret C hr hlk (Nat.zero_le _) (Nat.zero_le _) d (by rcases hb with e1 | e1 <;> rw [e1] <;> rfl) (by cases h; rw [hq hk]) rfl rfl
theorem dx_iret2 (C : Cx p s m args c G own cc nL z) {x : Int32} {q : Int32 × Mem} {mc ms : Nat} {a : α} (hr : meth.sig.returnType = some .int) (hlk : meth.locks = false) (d : decode cc pc = .ok (.ireturn, 1)) (hq : Ok a → (x, w) = q) : DX p l e R s m args below meth c G z nL n (MQ below (Qm G z (some (.int q.1)) (hp G z q.2) n) args s mc ms (zA z)) Ok pc lo [.int x] w (some a) := fun v h hk => x_iret C hr hlk (Nat.zero_le _) (Nat.zero_le _) d (by cases h; rw [← hq hk]) (by cases h; rw [← hq hk]) rfl
theorem dx_zret2 (C : Cx p s m args c G own cc nL z) {x : Int32} {q : Int32 × Mem} {mc ms : Nat} {a : α} (hr : meth.sig.returnType = some .boolean) (hlk : meth.locks = false) (hb : x = 0 ∨ x = 1) (d : decode cc pc = .ok (.ireturn, 1)) (hq : Ok a → (x, w) = q) : DX p l e R s m args below meth c G z nL n (MQ below (Qm G z (some (.int q.1)) (hp G z q.2) n) args s mc ms (zA z)) Ok pc lo [.int x] w (some a) := fun v h hk => x_zret C hr hlk (Nat.zero_le _) (Nat.zero_le _) d (by rcases hb with e1 | e1 <;> rw [e1] <;> rfl) (by cases h; rw [← hq hk]) (by cases h; rw [← hq hk]) rfl
theorem dx_vret (C : Cx p s m args c G own cc nL z) {q : Mem} {mc ms : Nat} {a : α} (hr : meth.sig.returnType = none) (hlk : meth.locks = false) (d : decode cc pc = .ok (.return_, 1)) (hq : Ok a → w = q) : DX p l e R s m args below meth c G z nL n (MQ below (Qm G z none (hp G z q) n) args s mc ms (zA z)) Ok pc lo [] w (some a) := fun v h hk => x_vret C hr hlk (Nat.zero_le _) (Nat.zero_le _) d rfl (by cases h; rw [hq hk]) rfl
theorem dx_icmp_eq (C : Cx p s m args c G own cc nL z) {x y : Int32} {off : Int} {A B : Option α} (tgt : Nat) (d : decode cc pc = .ok (.if_icmp .eq off, 3)) (ht : (pc : Int) + off = (tgt : Int)) (kt : DX p l e R s m args below meth c G z nL n Z Ok tgt lo st w A) (kf : DX p l e R s m args below meth c G z nL n Z Ok (pc + 3) lo st w B) : DX p l e R s m args below meth c G z nL n Z Ok pc lo (.int y :: .int x :: st) w (if x = y then A else B) := by
  intro v h hk
  refine x_icmp_eq C tgt d ht (fun h1 => ?_) (fun h1 => ?_)
  · rw [if_pos h1] at h; exact kt v h hk
  · rw [if_neg h1] at h; exact kf v h hk
theorem dx_icmp_ne (C : Cx p s m args c G own cc nL z) {x y : Int32} {off : Int} {A B : Option α} (tgt : Nat) (d : decode cc pc = .ok (.if_icmp .ne off, 3)) (ht : (pc : Int) + off = (tgt : Int)) (kt : DX p l e R s m args below meth c G z nL n Z Ok tgt lo st w B) (kf : DX p l e R s m args below meth c G z nL n Z Ok (pc + 3) lo st w A) : DX p l e R s m args below meth c G z nL n Z Ok pc lo (.int y :: .int x :: st) w (if x = y then A else B) := by
  intro v h hk
  refine x_icmp_ne C tgt d ht (fun h1 => ?_) (fun h1 => ?_)
  · rw [if_neg h1] at h; exact kt v h hk
  · rw [if_pos h1] at h; exact kf v h hk
theorem dx_icmp_lt (C : Cx p s m args c G own cc nL z) {x y : Int32} {off : Int} {A B : Option α} (tgt : Nat) (d : decode cc pc = .ok (.if_icmp .lt off, 3)) (ht : (pc : Int) + off = (tgt : Int)) (kt : DX p l e R s m args below meth c G z nL n Z Ok tgt lo st w A) (kf : DX p l e R s m args below meth c G z nL n Z Ok (pc + 3) lo st w B) : DX p l e R s m args below meth c G z nL n Z Ok pc lo (.int y :: .int x :: st) w (if x < y then A else B) := by
  intro v h hk
  refine x_icmp_lt C tgt d ht (fun h1 => ?_) (fun h1 => ?_)
  · rw [if_pos h1] at h; exact kt v h hk
  · rw [if_neg h1] at h; exact kf v h hk
theorem dx_icmp_ge (C : Cx p s m args c G own cc nL z) {x y : Int32} {off : Int} {A B : Option α} (tgt : Nat) (d : decode cc pc = .ok (.if_icmp .ge off, 3)) (ht : (pc : Int) + off = (tgt : Int)) (kt : DX p l e R s m args below meth c G z nL n Z Ok tgt lo st w B) (kf : DX p l e R s m args below meth c G z nL n Z Ok (pc + 3) lo st w A) : DX p l e R s m args below meth c G z nL n Z Ok pc lo (.int y :: .int x :: st) w (if x < y then A else B) := by
  intro v h hk
  refine x_icmp_ge C tgt d ht (fun h1 => ?_) (fun h1 => ?_)
  · rw [if_neg (by rw [Int32.le_iff_toInt_le] at h1; rw [Int32.lt_iff_toInt_lt]; omega)] at h; exact kt v h hk
  · rw [if_pos (by rw [Int32.le_iff_toInt_le] at h1; rw [Int32.lt_iff_toInt_lt]; omega)] at h; exact kf v h hk
theorem dx_icmp_gt (C : Cx p s m args c G own cc nL z) {x y : Int32} {off : Int} {A B : Option α} (tgt : Nat) (d : decode cc pc = .ok (.if_icmp .gt off, 3)) (ht : (pc : Int) + off = (tgt : Int)) (kt : DX p l e R s m args below meth c G z nL n Z Ok tgt lo st w A) (kf : DX p l e R s m args below meth c G z nL n Z Ok (pc + 3) lo st w B) : DX p l e R s m args below meth c G z nL n Z Ok pc lo (.int y :: .int x :: st) w (if y < x then A else B) := by
  intro v h hk
  refine x_icmp_gt C tgt d ht (fun h1 => ?_) (fun h1 => ?_)
  · rw [if_pos h1] at h; exact kt v h hk
  · rw [if_neg h1] at h; exact kf v h hk
theorem dx_icmp_le (C : Cx p s m args c G own cc nL z) {x y : Int32} {off : Int} {A B : Option α} (tgt : Nat) (d : decode cc pc = .ok (.if_icmp .le off, 3)) (ht : (pc : Int) + off = (tgt : Int)) (kt : DX p l e R s m args below meth c G z nL n Z Ok tgt lo st w B) (kf : DX p l e R s m args below meth c G z nL n Z Ok (pc + 3) lo st w A) : DX p l e R s m args below meth c G z nL n Z Ok pc lo (.int y :: .int x :: st) w (if y < x then A else B) := by
  intro v h hk
  refine x_icmp_le C tgt d ht (fun h1 => ?_) (fun h1 => ?_)
  · rw [if_neg (by rw [Int32.le_iff_toInt_le] at h1; rw [Int32.lt_iff_toInt_lt]; omega)] at h; exact kt v h hk
  · rw [if_pos (by rw [Int32.le_iff_toInt_le] at h1; rw [Int32.lt_iff_toInt_lt]; omega)] at h; exact kf v h hk
theorem dx_if_eq (C : Cx p s m args c G own cc nL z) {x : Int32} {off : Int} {A B : Option α} (tgt : Nat) (d : decode cc pc = .ok (.ifCond .eq off, 3)) (ht : (pc : Int) + off = (tgt : Int)) (kt : DX p l e R s m args below meth c G z nL n Z Ok tgt lo st w A) (kf : DX p l e R s m args below meth c G z nL n Z Ok (pc + 3) lo st w B) : DX p l e R s m args below meth c G z nL n Z Ok pc lo (.int x :: st) w (if x = 0 then A else B) := by
  intro v h hk
  refine x_if_eq C tgt d ht (fun h1 => ?_) (fun h1 => ?_)
  · rw [if_pos h1] at h; exact kt v h hk
  · rw [if_neg h1] at h; exact kf v h hk
theorem dx_if_ne (C : Cx p s m args c G own cc nL z) {x : Int32} {off : Int} {A B : Option α} (tgt : Nat) (d : decode cc pc = .ok (.ifCond .ne off, 3)) (ht : (pc : Int) + off = (tgt : Int)) (kt : DX p l e R s m args below meth c G z nL n Z Ok tgt lo st w B) (kf : DX p l e R s m args below meth c G z nL n Z Ok (pc + 3) lo st w A) : DX p l e R s m args below meth c G z nL n Z Ok pc lo (.int x :: st) w (if x = 0 then A else B) := by
  intro v h hk
  refine x_if_ne C tgt d ht (fun h1 => ?_) (fun h1 => ?_)
  · rw [if_neg h1] at h; exact kt v h hk
  · rw [if_pos h1] at h; exact kf v h hk
theorem dx_if_lt (C : Cx p s m args c G own cc nL z) {x : Int32} {off : Int} {A B : Option α} (tgt : Nat) (d : decode cc pc = .ok (.ifCond .lt off, 3)) (ht : (pc : Int) + off = (tgt : Int)) (kt : DX p l e R s m args below meth c G z nL n Z Ok tgt lo st w A) (kf : DX p l e R s m args below meth c G z nL n Z Ok (pc + 3) lo st w B) : DX p l e R s m args below meth c G z nL n Z Ok pc lo (.int x :: st) w (if x < 0 then A else B) := by
  intro v h hk
  refine x_if_lt C tgt d ht (fun h1 => ?_) (fun h1 => ?_)
  · rw [if_pos h1] at h; exact kt v h hk
  · rw [if_neg h1] at h; exact kf v h hk
theorem dx_if_ge (C : Cx p s m args c G own cc nL z) {x : Int32} {off : Int} {A B : Option α} (tgt : Nat) (d : decode cc pc = .ok (.ifCond .ge off, 3)) (ht : (pc : Int) + off = (tgt : Int)) (kt : DX p l e R s m args below meth c G z nL n Z Ok tgt lo st w B) (kf : DX p l e R s m args below meth c G z nL n Z Ok (pc + 3) lo st w A) : DX p l e R s m args below meth c G z nL n Z Ok pc lo (.int x :: st) w (if x < 0 then A else B) := by
  intro v h hk
  refine x_if_ge C tgt d ht (fun h1 => ?_) (fun h1 => ?_)
  · rw [if_neg (by rw [Int32.le_iff_toInt_le] at h1; rw [Int32.lt_iff_toInt_lt]; omega)] at h; exact kt v h hk
  · rw [if_pos (by rw [Int32.le_iff_toInt_le] at h1; rw [Int32.lt_iff_toInt_lt]; omega)] at h; exact kf v h hk
theorem dx_if_gt (C : Cx p s m args c G own cc nL z) {x : Int32} {off : Int} {A B : Option α} (tgt : Nat) (d : decode cc pc = .ok (.ifCond .gt off, 3)) (ht : (pc : Int) + off = (tgt : Int)) (kt : DX p l e R s m args below meth c G z nL n Z Ok tgt lo st w A) (kf : DX p l e R s m args below meth c G z nL n Z Ok (pc + 3) lo st w B) : DX p l e R s m args below meth c G z nL n Z Ok pc lo (.int x :: st) w (if 0 < x then A else B) := by
  intro v h hk
  refine x_if_gt C tgt d ht (fun h1 => ?_) (fun h1 => ?_)
  · rw [if_pos h1] at h; exact kt v h hk
  · rw [if_neg h1] at h; exact kf v h hk
theorem dx_if_le (C : Cx p s m args c G own cc nL z) {x : Int32} {off : Int} {A B : Option α} (tgt : Nat) (d : decode cc pc = .ok (.ifCond .le off, 3)) (ht : (pc : Int) + off = (tgt : Int)) (kt : DX p l e R s m args below meth c G z nL n Z Ok tgt lo st w B) (kf : DX p l e R s m args below meth c G z nL n Z Ok (pc + 3) lo st w A) : DX p l e R s m args below meth c G z nL n Z Ok pc lo (.int x :: st) w (if 0 < x then A else B) := by
  intro v h hk
  refine x_if_le C tgt d ht (fun h1 => ?_) (fun h1 => ?_)
  · rw [if_neg (by rw [Int32.le_iff_toInt_le] at h1; rw [Int32.lt_iff_toInt_lt]; omega)] at h; exact kt v h hk
  · rw [if_pos (by rw [Int32.le_iff_toInt_le] at h1; rw [Int32.lt_iff_toInt_lt]; omega)] at h; exact kf v h hk
theorem dx_callV1 (C : Cx p s m args c G own cc nL z) {y : MethodName} {bc : ByteArray} {mL k : Nat} {rt : Option FieldType} (hC : ClV y bc mL rt k) {index : Nat} (hw : Cond.methodLink own index y ∈ lw_good) {fr lc : Nat} {b ci : Nat} {T : u_T} {N : Nat} {fs : List Value} {As rest st0 : List Value} {F : Option Int32} {K : Int32 → Option α} (hcl : vwCl[ci]? = some (y.cls, T, N)) (hu : hp G z w b = some (.inr (ci, fs))) (hM : ∀ q, F = some q → Mt G l z y bc mL rt { frames := fr, cells := 0, slots := 0, locals := lc } (.ref (z + b) :: As) (hp G z w) n (some (.int q)) (hp G z w) n) (hst : st0 = As.reverse ++ .ref (z + b) :: rest) (hlen : As.length = k) (hcat : (rest.map fun v => v.category).sum ≤ 8) (hR : fr + 1 ≤ R.frames ∧ 8 + (mL + 11) + lc ≤ R.locals) (d : decode cc pc = .ok (.invokevirtual index, 3)) (kk : ∀ q, DX p l e R s m args below meth c G z nL n Z Ok (pc + 3) lo (.int q :: rest) w (K q)) : DX p l e R s m args below meth c G z nL n Z Ok pc lo st0 w (F.bind K) := by
  intro v h hk
  obtain ⟨q, h1, h2⟩ := Option.bind_eq_some_iff.mp h
  exact x_callV C hC hw hcl hu (hM q h1) hst hlen hcat hR ⟨Nat.zero_le _, Nat.zero_le _⟩ d (kk q v h2 hk)
theorem dx_callV2 (C : Cx p s m args c G own cc nL z) {y : MethodName} {bc : ByteArray} {mL k : Nat} {rt : Option FieldType} (hC : ClV y bc mL rt k) {index : Nat} (hw : Cond.methodLink own index y ∈ lw_good) {fr lc : Nat} {b ci : Nat} {T : u_T} {N : Nat} {fs : List Value} {As rest st0 : List Value} {F : Option (Int32 × Mem)} {K : (Int32 × Mem) → Option α} (hcl : vwCl[ci]? = some (y.cls, T, N)) (hu : hp G z w b = some (.inr (ci, fs))) (hM : ∀ q, F = some q → Mt G l z y bc mL rt { frames := fr, cells := 0, slots := 0, locals := lc } (.ref (z + b) :: As) (hp G z w) n (some (.int q.1)) (hp G z q.2) n) (hst : st0 = As.reverse ++ .ref (z + b) :: rest) (hlen : As.length = k) (hcat : (rest.map fun v => v.category).sum ≤ 8) (hR : fr + 1 ≤ R.frames ∧ 8 + (mL + 11) + lc ≤ R.locals) (d : decode cc pc = .ok (.invokevirtual index, 3)) (kk : ∀ q, DX p l e R s m args below meth c G z nL n Z Ok (pc + 3) lo (.int q.1 :: rest) q.2 (K q)) : DX p l e R s m args below meth c G z nL n Z Ok pc lo st0 w (F.bind K) := by
  intro v h hk
  obtain ⟨q, h1, h2⟩ := Option.bind_eq_some_iff.mp h
  exact x_callV C hC hw hcl hu (hM q h1) hst hlen hcat hR ⟨Nat.zero_le _, Nat.zero_le _⟩ d (kk q v h2 hk)
theorem dx_callV3 (C : Cx p s m args c G own cc nL z) {y : MethodName} {bc : ByteArray} {mL k : Nat} {rt : Option FieldType} (hC : ClV y bc mL rt k) {index : Nat} (hw : Cond.methodLink own index y ∈ lw_good) {fr lc : Nat} {b ci : Nat} {T : u_T} {N : Nat} {fs : List Value} {As rest st0 : List Value} {F : Option Mem} {K : Mem → Option α} (hcl : vwCl[ci]? = some (y.cls, T, N)) (hu : hp G z w b = some (.inr (ci, fs))) (hM : ∀ q, F = some q → Mt G l z y bc mL rt { frames := fr, cells := 0, slots := 0, locals := lc } (.ref (z + b) :: As) (hp G z w) n none (hp G z q) n) (hst : st0 = As.reverse ++ .ref (z + b) :: rest) (hlen : As.length = k) (hcat : (rest.map fun v => v.category).sum ≤ 8) (hR : fr + 1 ≤ R.frames ∧ 8 + (mL + 11) + lc ≤ R.locals) (d : decode cc pc = .ok (.invokevirtual index, 3)) (kk : ∀ q, DX p l e R s m args below meth c G z nL n Z Ok (pc + 3) lo rest q (K q)) : DX p l e R s m args below meth c G z nL n Z Ok pc lo st0 w (F.bind K) := by
  intro v h hk
  obtain ⟨q, h1, h2⟩ := Option.bind_eq_some_iff.mp h
  exact x_callV C hC hw hcl hu (hM q h1) hst hlen hcat hR ⟨Nat.zero_le _, Nat.zero_le _⟩ d (kk q v h2 hk)
theorem dx_callS1 (C : Cx p s m args c G own cc nL z) {y : MethodName} {bc : ByteArray} {mL k : Nat} {rt : Option FieldType} (hC : ClS y bc mL rt k) {index : Nat} (hw : Cond.methodLink own index y ∈ lw_good) {fr lc : Nat} {As rest st0 : List Value} {F : Option Int32} {K : Int32 → Option α} (hM : ∀ q, F = some q → Mt G l z y bc mL rt { frames := fr, cells := 0, slots := 0, locals := lc } As (hp G z w) n (some (.int q)) (hp G z w) n) (hst : st0 = As.reverse ++ rest) (hlen : As.length = k) (hcat : (rest.map fun v => v.category).sum ≤ 8) (hR : fr + 1 ≤ R.frames ∧ 8 + (mL + 11) + lc ≤ R.locals) (d : decode cc pc = .ok (.invokestatic index, 3)) (kk : ∀ q, DX p l e R s m args below meth c G z nL n Z Ok (pc + 3) lo (.int q :: rest) w (K q)) : DX p l e R s m args below meth c G z nL n Z Ok pc lo st0 w (F.bind K) := by
  intro v h hk
  obtain ⟨q, h1, h2⟩ := Option.bind_eq_some_iff.mp h
  exact x_callS C hC hw (hM q h1) hst hlen hcat hR ⟨Nat.zero_le _, Nat.zero_le _⟩ d (kk q v h2 hk)
theorem dx_callS2 (C : Cx p s m args c G own cc nL z) {y : MethodName} {bc : ByteArray} {mL k : Nat} {rt : Option FieldType} (hC : ClS y bc mL rt k) {index : Nat} (hw : Cond.methodLink own index y ∈ lw_good) {fr lc : Nat} {As rest st0 : List Value} {F : Option (Int32 × Mem)} {K : (Int32 × Mem) → Option α} (hM : ∀ q, F = some q → Mt G l z y bc mL rt { frames := fr, cells := 0, slots := 0, locals := lc } As (hp G z w) n (some (.int q.1)) (hp G z q.2) n) (hst : st0 = As.reverse ++ rest) (hlen : As.length = k) (hcat : (rest.map fun v => v.category).sum ≤ 8) (hR : fr + 1 ≤ R.frames ∧ 8 + (mL + 11) + lc ≤ R.locals) (d : decode cc pc = .ok (.invokestatic index, 3)) (kk : ∀ q, DX p l e R s m args below meth c G z nL n Z Ok (pc + 3) lo (.int q.1 :: rest) q.2 (K q)) : DX p l e R s m args below meth c G z nL n Z Ok pc lo st0 w (F.bind K) := by
  intro v h hk
  obtain ⟨q, h1, h2⟩ := Option.bind_eq_some_iff.mp h
  exact x_callS C hC hw (hM q h1) hst hlen hcat hR ⟨Nat.zero_le _, Nat.zero_le _⟩ d (kk q v h2 hk)
theorem dx_callS3 (C : Cx p s m args c G own cc nL z) {y : MethodName} {bc : ByteArray} {mL k : Nat} {rt : Option FieldType} (hC : ClS y bc mL rt k) {index : Nat} (hw : Cond.methodLink own index y ∈ lw_good) {fr lc : Nat} {As rest st0 : List Value} {F : Option Mem} {K : Mem → Option α} (hM : ∀ q, F = some q → Mt G l z y bc mL rt { frames := fr, cells := 0, slots := 0, locals := lc } As (hp G z w) n none (hp G z q) n) (hst : st0 = As.reverse ++ rest) (hlen : As.length = k) (hcat : (rest.map fun v => v.category).sum ≤ 8) (hR : fr + 1 ≤ R.frames ∧ 8 + (mL + 11) + lc ≤ R.locals) (d : decode cc pc = .ok (.invokestatic index, 3)) (kk : ∀ q, DX p l e R s m args below meth c G z nL n Z Ok (pc + 3) lo rest q (K q)) : DX p l e R s m args below meth c G z nL n Z Ok pc lo st0 w (F.bind K) := by
  intro v h hk
  obtain ⟨q, h1, h2⟩ := Option.bind_eq_some_iff.mp h
  exact x_callS C hC hw (hM q h1) hst hlen hcat hR ⟨Nat.zero_le _, Nat.zero_le _⟩ d (kk q v h2 hk)
theorem dx_callSN1 (C : Cx p s m args c G own cc nL z) {y : MethodName} {bc : ByteArray} {mL k : Nat} {rt : Option FieldType} (hC : ClS y bc mL rt k) {index : Nat} {host : String} (hw : Cond.methodLinkNest own index y host ∈ lw_tbl) {fr lc : Nat} {As rest st0 : List Value} {F : Option Int32} {K : Int32 → Option α} (hM : ∀ q, F = some q → Mt G l z y bc mL rt { frames := fr, cells := 0, slots := 0, locals := lc } As (hp G z w) n (some (.int q)) (hp G z w) n) (hst : st0 = As.reverse ++ rest) (hlen : As.length = k) (hcat : (rest.map fun v => v.category).sum ≤ 8) (hR : fr + 1 ≤ R.frames ∧ 8 + (mL + 11) + lc ≤ R.locals) (d : decode cc pc = .ok (.invokestatic index, 3)) (kk : ∀ q, DX p l e R s m args below meth c G z nL n Z Ok (pc + 3) lo (.int q :: rest) w (K q)) : DX p l e R s m args below meth c G z nL n Z Ok pc lo st0 w (F.bind K) := by
  intro v h hk
  obtain ⟨q, h1, h2⟩ := Option.bind_eq_some_iff.mp h
  exact x_callSN C hC hw (hM q h1) hst hlen hcat hR ⟨Nat.zero_le _, Nat.zero_le _⟩ d (kk q v h2 hk)
theorem dx_callSN2 (C : Cx p s m args c G own cc nL z) {y : MethodName} {bc : ByteArray} {mL k : Nat} {rt : Option FieldType} (hC : ClS y bc mL rt k) {index : Nat} {host : String} (hw : Cond.methodLinkNest own index y host ∈ lw_tbl) {fr lc : Nat} {As rest st0 : List Value} {F : Option (Int32 × Mem)} {K : (Int32 × Mem) → Option α} (hM : ∀ q, F = some q → Mt G l z y bc mL rt { frames := fr, cells := 0, slots := 0, locals := lc } As (hp G z w) n (some (.int q.1)) (hp G z q.2) n) (hst : st0 = As.reverse ++ rest) (hlen : As.length = k) (hcat : (rest.map fun v => v.category).sum ≤ 8) (hR : fr + 1 ≤ R.frames ∧ 8 + (mL + 11) + lc ≤ R.locals) (d : decode cc pc = .ok (.invokestatic index, 3)) (kk : ∀ q, DX p l e R s m args below meth c G z nL n Z Ok (pc + 3) lo (.int q.1 :: rest) q.2 (K q)) : DX p l e R s m args below meth c G z nL n Z Ok pc lo st0 w (F.bind K) := by
  intro v h hk
  obtain ⟨q, h1, h2⟩ := Option.bind_eq_some_iff.mp h
  exact x_callSN C hC hw (hM q h1) hst hlen hcat hR ⟨Nat.zero_le _, Nat.zero_le _⟩ d (kk q v h2 hk)
theorem dx_callSN3 (C : Cx p s m args c G own cc nL z) {y : MethodName} {bc : ByteArray} {mL k : Nat} {rt : Option FieldType} (hC : ClS y bc mL rt k) {index : Nat} {host : String} (hw : Cond.methodLinkNest own index y host ∈ lw_tbl) {fr lc : Nat} {As rest st0 : List Value} {F : Option Mem} {K : Mem → Option α} (hM : ∀ q, F = some q → Mt G l z y bc mL rt { frames := fr, cells := 0, slots := 0, locals := lc } As (hp G z w) n none (hp G z q) n) (hst : st0 = As.reverse ++ rest) (hlen : As.length = k) (hcat : (rest.map fun v => v.category).sum ≤ 8) (hR : fr + 1 ≤ R.frames ∧ 8 + (mL + 11) + lc ≤ R.locals) (d : decode cc pc = .ok (.invokestatic index, 3)) (kk : ∀ q, DX p l e R s m args below meth c G z nL n Z Ok (pc + 3) lo rest q (K q)) : DX p l e R s m args below meth c G z nL n Z Ok pc lo st0 w (F.bind K) := by
  intro v h hk
  obtain ⟨q, h1, h2⟩ := Option.bind_eq_some_iff.mp h
  exact x_callSN C hC hw (hM q h1) hst hlen hcat hR ⟨Nat.zero_le _, Nat.zero_le _⟩ d (kk q v h2 hk)
theorem dgX7_9 (C : Cx p s m args c G RX7 cc nL z) (d : decode cc pc = .ok (.getfield 9, 3)) (k : DX p l e R s m args below meth c G z nL n Z Ok (pc + 3) lo (.ref (z + 2) :: st) w o) : DX p l e R s m args below meth c G z nL n Z Ok pc lo (.ref (z + 1) :: st) w o := fun v h hk => gfX7_9 C d (hp_of ly_1) rfl (k v h hk)
theorem dgX7_15 (C : Cx p s m args c G RX7 cc nL z) (d : decode cc pc = .ok (.getfield 15, 3)) (k : DX p l e R s m args below meth c G z nL n Z Ok (pc + 3) lo (.int (w 1 1) :: st) w o) : DX p l e R s m args below meth c G z nL n Z Ok pc lo (.ref (z + 1) :: st) w o := fun v h hk => gfX7_15 C d (hp_of ly_1) rfl (k v h hk)
theorem dpX7_15 {x : Int32} {K : Mem → Option α} (C : Cx p s m args c G RX7 cc nL z) (d : decode cc pc = .ok (.putfield 15, 3)) (k : ∀ w2, DX p l e R s m args below meth c G z nL n Z Ok (pc + 3) lo st w2 (K w2)) : DX p l e R s m args below meth c G z nL n Z Ok pc lo (.int x :: .ref (z + 1) :: st) w (pw 1 1 x w K) := fun v h hk => pfX7_15 C d (hp_of ly_1) (Nat.le_of_ble_eq_true rfl) rfl (hup_wu (i := 1) (v := x) ly_1 rfl) (k _ v h hk)
theorem dgX9_85 (C : Cx p s m args c G RX9 cc nL z) (d : decode cc pc = .ok (.getfield 85, 3)) (k : DX p l e R s m args below meth c G z nL n Z Ok (pc + 3) lo (.int (w 1 1) :: st) w o) : DX p l e R s m args below meth c G z nL n Z Ok pc lo (.ref (z + 1) :: st) w o := fun v h hk => gfX9_85 C d (hp_of ly_1) rfl (k v h hk)
theorem dpX9_85 {x : Int32} {K : Mem → Option α} (C : Cx p s m args c G RX9 cc nL z) (d : decode cc pc = .ok (.putfield 85, 3)) (k : ∀ w2, DX p l e R s m args below meth c G z nL n Z Ok (pc + 3) lo st w2 (K w2)) : DX p l e R s m args below meth c G z nL n Z Ok pc lo (.int x :: .ref (z + 1) :: st) w (pw 1 1 x w K) := fun v h hk => pfX9_85 C d (hp_of ly_1) (Nat.le_of_ble_eq_true rfl) rfl (hup_wu (i := 1) (v := x) ly_1 rfl) (k _ v h hk)
theorem dgX7_19 (C : Cx p s m args c G RX7 cc nL z) (d : decode cc pc = .ok (.getfield 19, 3)) (k : DX p l e R s m args below meth c G z nL n Z Ok (pc + 3) lo (.int (w 1 2) :: st) w o) : DX p l e R s m args below meth c G z nL n Z Ok pc lo (.ref (z + 1) :: st) w o := fun v h hk => gfX7_19 C d (hp_of ly_1) rfl (k v h hk)
theorem dpX7_19 {x : Int32} {K : Mem → Option α} (C : Cx p s m args c G RX7 cc nL z) (d : decode cc pc = .ok (.putfield 19, 3)) (k : ∀ w2, DX p l e R s m args below meth c G z nL n Z Ok (pc + 3) lo st w2 (K w2)) : DX p l e R s m args below meth c G z nL n Z Ok pc lo (.int x :: .ref (z + 1) :: st) w (pw 1 2 x w K) := fun v h hk => pfX7_19 C d (hp_of ly_1) (Nat.le_of_ble_eq_true rfl) rfl (hup_wu (i := 2) (v := x) ly_1 rfl) (k _ v h hk)
theorem dgX7_22 (C : Cx p s m args c G RX7 cc nL z) (d : decode cc pc = .ok (.getfield 22, 3)) (k : DX p l e R s m args below meth c G z nL n Z Ok (pc + 3) lo (.int (w 1 3) :: st) w o) : DX p l e R s m args below meth c G z nL n Z Ok pc lo (.ref (z + 1) :: st) w o := fun v h hk => gfX7_22 C d (hp_of ly_1) rfl (k v h hk)
theorem dpX7_22 {x : Int32} {K : Mem → Option α} (C : Cx p s m args c G RX7 cc nL z) (d : decode cc pc = .ok (.putfield 22, 3)) (k : ∀ w2, DX p l e R s m args below meth c G z nL n Z Ok (pc + 3) lo st w2 (K w2)) : DX p l e R s m args below meth c G z nL n Z Ok pc lo (.int x :: .ref (z + 1) :: st) w (pw 1 3 x w K) := fun v h hk => pfX7_22 C d (hp_of ly_1) (Nat.le_of_ble_eq_true rfl) rfl (hup_wu (i := 3) (v := x) ly_1 rfl) (k _ v h hk)
theorem dgX9_97 (C : Cx p s m args c G RX9 cc nL z) (d : decode cc pc = .ok (.getfield 97, 3)) (k : DX p l e R s m args below meth c G z nL n Z Ok (pc + 3) lo (.int (w 1 3) :: st) w o) : DX p l e R s m args below meth c G z nL n Z Ok pc lo (.ref (z + 1) :: st) w o := fun v h hk => gfX9_97 C d (hp_of ly_1) rfl (k v h hk)
theorem dpX9_97 {x : Int32} {K : Mem → Option α} (C : Cx p s m args c G RX9 cc nL z) (d : decode cc pc = .ok (.putfield 97, 3)) (k : ∀ w2, DX p l e R s m args below meth c G z nL n Z Ok (pc + 3) lo st w2 (K w2)) : DX p l e R s m args below meth c G z nL n Z Ok pc lo (.int x :: .ref (z + 1) :: st) w (pw 1 3 x w K) := fun v h hk => pfX9_97 C d (hp_of ly_1) (Nat.le_of_ble_eq_true rfl) rfl (hup_wu (i := 3) (v := x) ly_1 rfl) (k _ v h hk)
theorem dgX7_25 (C : Cx p s m args c G RX7 cc nL z) (d : decode cc pc = .ok (.getfield 25, 3)) (k : DX p l e R s m args below meth c G z nL n Z Ok (pc + 3) lo (.int (w 1 4) :: st) w o) : DX p l e R s m args below meth c G z nL n Z Ok pc lo (.ref (z + 1) :: st) w o := fun v h hk => gfX7_25 C d (hp_of ly_1) rfl (k v h hk)
theorem dpX7_25 {x : Int32} {K : Mem → Option α} (C : Cx p s m args c G RX7 cc nL z) (d : decode cc pc = .ok (.putfield 25, 3)) (k : ∀ w2, DX p l e R s m args below meth c G z nL n Z Ok (pc + 3) lo st w2 (K w2)) : DX p l e R s m args below meth c G z nL n Z Ok pc lo (.int x :: .ref (z + 1) :: st) w (pw 1 4 x w K) := fun v h hk => pfX7_25 C d (hp_of ly_1) (Nat.le_of_ble_eq_true rfl) rfl (hup_wu (i := 4) (v := x) ly_1 rfl) (k _ v h hk)
theorem dgX9_96 (C : Cx p s m args c G RX9 cc nL z) (d : decode cc pc = .ok (.getfield 96, 3)) (k : DX p l e R s m args below meth c G z nL n Z Ok (pc + 3) lo (.int (w 1 4) :: st) w o) : DX p l e R s m args below meth c G z nL n Z Ok pc lo (.ref (z + 1) :: st) w o := fun v h hk => gfX9_96 C d (hp_of ly_1) rfl (k v h hk)
theorem dpX9_96 {x : Int32} {K : Mem → Option α} (C : Cx p s m args c G RX9 cc nL z) (d : decode cc pc = .ok (.putfield 96, 3)) (k : ∀ w2, DX p l e R s m args below meth c G z nL n Z Ok (pc + 3) lo st w2 (K w2)) : DX p l e R s m args below meth c G z nL n Z Ok pc lo (.int x :: .ref (z + 1) :: st) w (pw 1 4 x w K) := fun v h hk => pfX9_96 C d (hp_of ly_1) (Nat.le_of_ble_eq_true rfl) rfl (hup_wu (i := 4) (v := x) ly_1 rfl) (k _ v h hk)
theorem dgX3_9 (C : Cx p s m args c G RX3 cc nL z) {b : Nat} (hb : EvO b) (d : decode cc pc = .ok (.getfield 9, 3)) (k : DX p l e R s m args below meth c G z nL n Z Ok (pc + 3) lo (.int (w b 0) :: st) w o) : DX p l e R s m args below meth c G z nL n Z Ok pc lo (.ref (z + b) :: st) w o := fun v h hk => gfX3_9 C d (hp_of (lyEv0 hb)) rfl (k v h hk)
theorem dpX3_9 {x : Int32} {K : Mem → Option α} (C : Cx p s m args c G RX3 cc nL z) {b : Nat} (hb : EvO b) (d : decode cc pc = .ok (.putfield 9, 3)) (k : ∀ w2, DX p l e R s m args below meth c G z nL n Z Ok (pc + 3) lo st w2 (K w2)) : DX p l e R s m args below meth c G z nL n Z Ok pc lo (.int x :: .ref (z + b) :: st) w (pw b 0 x w K) := fun v h hk => pfX3_9 C d (hp_of (lyEv0 hb)) (Nat.le_of_ble_eq_true rfl) rfl (hup_wu (i := 0) (v := x) (lyEv0 hb) rfl) (k _ v h hk)
theorem dgX9_149 (C : Cx p s m args c G RX9 cc nL z) {b : Nat} (hb : EvO b) (d : decode cc pc = .ok (.getfield 149, 3)) (k : DX p l e R s m args below meth c G z nL n Z Ok (pc + 3) lo (.int (w b 0) :: st) w o) : DX p l e R s m args below meth c G z nL n Z Ok pc lo (.ref (z + b) :: st) w o := fun v h hk => gfX9_149 C d (hp_of (lyEv0 hb)) rfl (k v h hk)
theorem dpX9_149 {x : Int32} {K : Mem → Option α} (C : Cx p s m args c G RX9 cc nL z) {b : Nat} (hb : EvO b) (d : decode cc pc = .ok (.putfield 149, 3)) (k : ∀ w2, DX p l e R s m args below meth c G z nL n Z Ok (pc + 3) lo st w2 (K w2)) : DX p l e R s m args below meth c G z nL n Z Ok pc lo (.int x :: .ref (z + b) :: st) w (pw b 0 x w K) := fun v h hk => pfX9_149 C d (hp_of (lyEv0 hb)) (Nat.le_of_ble_eq_true rfl) rfl (hup_wu (i := 0) (v := x) (lyEv0 hb) rfl) (k _ v h hk)
theorem dgX3_15 (C : Cx p s m args c G RX3 cc nL z) {b : Nat} (hb : EvO b) (d : decode cc pc = .ok (.getfield 15, 3)) (k : DX p l e R s m args below meth c G z nL n Z Ok (pc + 3) lo (.int (w b 1) :: st) w o) : DX p l e R s m args below meth c G z nL n Z Ok pc lo (.ref (z + b) :: st) w o := fun v h hk => gfX3_15 C d (hp_of (lyEv0 hb)) rfl (k v h hk)
theorem dpX3_15 {x : Int32} {K : Mem → Option α} (C : Cx p s m args c G RX3 cc nL z) {b : Nat} (hb : EvO b) (d : decode cc pc = .ok (.putfield 15, 3)) (k : ∀ w2, DX p l e R s m args below meth c G z nL n Z Ok (pc + 3) lo st w2 (K w2)) : DX p l e R s m args below meth c G z nL n Z Ok pc lo (.int x :: .ref (z + b) :: st) w (pw b 1 x w K) := fun v h hk => pfX3_15 C d (hp_of (lyEv0 hb)) (Nat.le_of_ble_eq_true rfl) rfl (hup_wu (i := 1) (v := x) (lyEv0 hb) rfl) (k _ v h hk)
theorem dgX9_152 (C : Cx p s m args c G RX9 cc nL z) {b : Nat} (hb : EvO b) (d : decode cc pc = .ok (.getfield 152, 3)) (k : DX p l e R s m args below meth c G z nL n Z Ok (pc + 3) lo (.int (w b 1) :: st) w o) : DX p l e R s m args below meth c G z nL n Z Ok pc lo (.ref (z + b) :: st) w o := fun v h hk => gfX9_152 C d (hp_of (lyEv0 hb)) rfl (k v h hk)
theorem dpX9_152 {x : Int32} {K : Mem → Option α} (C : Cx p s m args c G RX9 cc nL z) {b : Nat} (hb : EvO b) (d : decode cc pc = .ok (.putfield 152, 3)) (k : ∀ w2, DX p l e R s m args below meth c G z nL n Z Ok (pc + 3) lo st w2 (K w2)) : DX p l e R s m args below meth c G z nL n Z Ok pc lo (.int x :: .ref (z + b) :: st) w (pw b 1 x w K) := fun v h hk => pfX9_152 C d (hp_of (lyEv0 hb)) (Nat.le_of_ble_eq_true rfl) rfl (hup_wu (i := 1) (v := x) (lyEv0 hb) rfl) (k _ v h hk)
theorem dgX3_18 (C : Cx p s m args c G RX3 cc nL z) {b : Nat} (hb : EvO b) (d : decode cc pc = .ok (.getfield 18, 3)) (k : DX p l e R s m args below meth c G z nL n Z Ok (pc + 3) lo (.int (w b 2) :: st) w o) : DX p l e R s m args below meth c G z nL n Z Ok pc lo (.ref (z + b) :: st) w o := fun v h hk => gfX3_18 C d (hp_of (lyEv0 hb)) rfl (k v h hk)
theorem dpX3_18 {x : Int32} {K : Mem → Option α} (C : Cx p s m args c G RX3 cc nL z) {b : Nat} (hb : EvO b) (d : decode cc pc = .ok (.putfield 18, 3)) (k : ∀ w2, DX p l e R s m args below meth c G z nL n Z Ok (pc + 3) lo st w2 (K w2)) : DX p l e R s m args below meth c G z nL n Z Ok pc lo (.int x :: .ref (z + b) :: st) w (pw b 2 x w K) := fun v h hk => pfX3_18 C d (hp_of (lyEv0 hb)) (Nat.le_of_ble_eq_true rfl) rfl (hup_wu (i := 2) (v := x) (lyEv0 hb) rfl) (k _ v h hk)
theorem dgX9_155 (C : Cx p s m args c G RX9 cc nL z) {b : Nat} (hb : EvO b) (d : decode cc pc = .ok (.getfield 155, 3)) (k : DX p l e R s m args below meth c G z nL n Z Ok (pc + 3) lo (.int (w b 2) :: st) w o) : DX p l e R s m args below meth c G z nL n Z Ok pc lo (.ref (z + b) :: st) w o := fun v h hk => gfX9_155 C d (hp_of (lyEv0 hb)) rfl (k v h hk)
theorem dpX9_155 {x : Int32} {K : Mem → Option α} (C : Cx p s m args c G RX9 cc nL z) {b : Nat} (hb : EvO b) (d : decode cc pc = .ok (.putfield 155, 3)) (k : ∀ w2, DX p l e R s m args below meth c G z nL n Z Ok (pc + 3) lo st w2 (K w2)) : DX p l e R s m args below meth c G z nL n Z Ok pc lo (.int x :: .ref (z + b) :: st) w (pw b 2 x w K) := fun v h hk => pfX9_155 C d (hp_of (lyEv0 hb)) (Nat.le_of_ble_eq_true rfl) rfl (hup_wu (i := 2) (v := x) (lyEv0 hb) rfl) (k _ v h hk)
theorem dgX3_21 (C : Cx p s m args c G RX3 cc nL z) {b : Nat} (hb : EvO b) (d : decode cc pc = .ok (.getfield 21, 3)) (k : DX p l e R s m args below meth c G z nL n Z Ok (pc + 3) lo (.int (w b 3) :: st) w o) : DX p l e R s m args below meth c G z nL n Z Ok pc lo (.ref (z + b) :: st) w o := fun v h hk => gfX3_21 C d (hp_of (lyEv0 hb)) rfl (k v h hk)
theorem dpX3_21 {x : Int32} {K : Mem → Option α} (C : Cx p s m args c G RX3 cc nL z) {b : Nat} (hb : EvO b) (d : decode cc pc = .ok (.putfield 21, 3)) (k : ∀ w2, DX p l e R s m args below meth c G z nL n Z Ok (pc + 3) lo st w2 (K w2)) : DX p l e R s m args below meth c G z nL n Z Ok pc lo (.int x :: .ref (z + b) :: st) w (pw b 3 x w K) := fun v h hk => pfX3_21 C d (hp_of (lyEv0 hb)) (Nat.le_of_ble_eq_true rfl) rfl (hup_wu (i := 3) (v := x) (lyEv0 hb) rfl) (k _ v h hk)
theorem dgX5_48 (C : Cx p s m args c G RX5 cc nL z) {b : Nat} (hb : EvO b) (d : decode cc pc = .ok (.getfield 48, 3)) (k : DX p l e R s m args below meth c G z nL n Z Ok (pc + 3) lo (.int (w b 3) :: st) w o) : DX p l e R s m args below meth c G z nL n Z Ok pc lo (.ref (z + b) :: st) w o := fun v h hk => gfX5_48 C d (hp_of (lyEv0 hb)) rfl (k v h hk)
theorem dpX5_48 {x : Int32} {K : Mem → Option α} (C : Cx p s m args c G RX5 cc nL z) {b : Nat} (hb : EvO b) (d : decode cc pc = .ok (.putfield 48, 3)) (k : ∀ w2, DX p l e R s m args below meth c G z nL n Z Ok (pc + 3) lo st w2 (K w2)) : DX p l e R s m args below meth c G z nL n Z Ok pc lo (.int x :: .ref (z + b) :: st) w (pw b 3 x w K) := fun v h hk => pfX5_48 C d (hp_of (lyEv0 hb)) (Nat.le_of_ble_eq_true rfl) rfl (hup_wu (i := 3) (v := x) (lyEv0 hb) rfl) (k _ v h hk)
theorem dgX9_134 (C : Cx p s m args c G RX9 cc nL z) {b : Nat} (hb : EvO b) (d : decode cc pc = .ok (.getfield 134, 3)) (k : DX p l e R s m args below meth c G z nL n Z Ok (pc + 3) lo (.int (w b 3) :: st) w o) : DX p l e R s m args below meth c G z nL n Z Ok pc lo (.ref (z + b) :: st) w o := fun v h hk => gfX9_134 C d (hp_of (lyEv0 hb)) rfl (k v h hk)
theorem dpX9_134 {x : Int32} {K : Mem → Option α} (C : Cx p s m args c G RX9 cc nL z) {b : Nat} (hb : EvO b) (d : decode cc pc = .ok (.putfield 134, 3)) (k : ∀ w2, DX p l e R s m args below meth c G z nL n Z Ok (pc + 3) lo st w2 (K w2)) : DX p l e R s m args below meth c G z nL n Z Ok pc lo (.int x :: .ref (z + b) :: st) w (pw b 3 x w K) := fun v h hk => pfX9_134 C d (hp_of (lyEv0 hb)) (Nat.le_of_ble_eq_true rfl) rfl (hup_wu (i := 3) (v := x) (lyEv0 hb) rfl) (k _ v h hk)
theorem dgX3_24 (C : Cx p s m args c G RX3 cc nL z) {b : Nat} (hb : EvO b) (d : decode cc pc = .ok (.getfield 24, 3)) (k : DX p l e R s m args below meth c G z nL n Z Ok (pc + 3) lo (.int (w b 4) :: st) w o) : DX p l e R s m args below meth c G z nL n Z Ok pc lo (.ref (z + b) :: st) w o := fun v h hk => gfX3_24 C d (hp_of (lyEv0 hb)) rfl (k v h hk)
theorem dpX3_24 {x : Int32} {K : Mem → Option α} (C : Cx p s m args c G RX3 cc nL z) {b : Nat} (hb : EvO b) (d : decode cc pc = .ok (.putfield 24, 3)) (k : ∀ w2, DX p l e R s m args below meth c G z nL n Z Ok (pc + 3) lo st w2 (K w2)) : DX p l e R s m args below meth c G z nL n Z Ok pc lo (.int x :: .ref (z + b) :: st) w (pw b 4 x w K) := fun v h hk => pfX3_24 C d (hp_of (lyEv0 hb)) (Nat.le_of_ble_eq_true rfl) rfl (hup_wu (i := 4) (v := x) (lyEv0 hb) rfl) (k _ v h hk)
theorem dgX9_158 (C : Cx p s m args c G RX9 cc nL z) {b : Nat} (hb : EvO b) (d : decode cc pc = .ok (.getfield 158, 3)) (k : DX p l e R s m args below meth c G z nL n Z Ok (pc + 3) lo (.int (w b 4) :: st) w o) : DX p l e R s m args below meth c G z nL n Z Ok pc lo (.ref (z + b) :: st) w o := fun v h hk => gfX9_158 C d (hp_of (lyEv0 hb)) rfl (k v h hk)
theorem dpX9_158 {x : Int32} {K : Mem → Option α} (C : Cx p s m args c G RX9 cc nL z) {b : Nat} (hb : EvO b) (d : decode cc pc = .ok (.putfield 158, 3)) (k : ∀ w2, DX p l e R s m args below meth c G z nL n Z Ok (pc + 3) lo st w2 (K w2)) : DX p l e R s m args below meth c G z nL n Z Ok pc lo (.int x :: .ref (z + b) :: st) w (pw b 4 x w K) := fun v h hk => pfX9_158 C d (hp_of (lyEv0 hb)) (Nat.le_of_ble_eq_true rfl) rfl (hup_wu (i := 4) (v := x) (lyEv0 hb) rfl) (k _ v h hk)
theorem dgX3_27 (C : Cx p s m args c G RX3 cc nL z) {b : Nat} (hb : EvO b) (d : decode cc pc = .ok (.getfield 27, 3)) (k : DX p l e R s m args below meth c G z nL n Z Ok (pc + 3) lo (.int (w b 5) :: st) w o) : DX p l e R s m args below meth c G z nL n Z Ok pc lo (.ref (z + b) :: st) w o := fun v h hk => gfX3_27 C d (hp_of (lyEv0 hb)) rfl (k v h hk)
theorem dpX3_27 {x : Int32} {K : Mem → Option α} (C : Cx p s m args c G RX3 cc nL z) {b : Nat} (hb : EvO b) (d : decode cc pc = .ok (.putfield 27, 3)) (k : ∀ w2, DX p l e R s m args below meth c G z nL n Z Ok (pc + 3) lo st w2 (K w2)) : DX p l e R s m args below meth c G z nL n Z Ok pc lo (.int x :: .ref (z + b) :: st) w (pw b 5 x w K) := fun v h hk => pfX3_27 C d (hp_of (lyEv0 hb)) (Nat.le_of_ble_eq_true rfl) rfl (hup_wu (i := 5) (v := x) (lyEv0 hb) rfl) (k _ v h hk)
theorem dgX9_161 (C : Cx p s m args c G RX9 cc nL z) {b : Nat} (hb : EvO b) (d : decode cc pc = .ok (.getfield 161, 3)) (k : DX p l e R s m args below meth c G z nL n Z Ok (pc + 3) lo (.int (w b 5) :: st) w o) : DX p l e R s m args below meth c G z nL n Z Ok pc lo (.ref (z + b) :: st) w o := fun v h hk => gfX9_161 C d (hp_of (lyEv0 hb)) rfl (k v h hk)
theorem dpX9_161 {x : Int32} {K : Mem → Option α} (C : Cx p s m args c G RX9 cc nL z) {b : Nat} (hb : EvO b) (d : decode cc pc = .ok (.putfield 161, 3)) (k : ∀ w2, DX p l e R s m args below meth c G z nL n Z Ok (pc + 3) lo st w2 (K w2)) : DX p l e R s m args below meth c G z nL n Z Ok pc lo (.int x :: .ref (z + b) :: st) w (pw b 5 x w K) := fun v h hk => pfX9_161 C d (hp_of (lyEv0 hb)) (Nat.le_of_ble_eq_true rfl) rfl (hup_wu (i := 5) (v := x) (lyEv0 hb) rfl) (k _ v h hk)
theorem dgX3_30 (C : Cx p s m args c G RX3 cc nL z) {b : Nat} (hb : EvO b) (d : decode cc pc = .ok (.getfield 30, 3)) (k : DX p l e R s m args below meth c G z nL n Z Ok (pc + 3) lo (.int (w b 6) :: st) w o) : DX p l e R s m args below meth c G z nL n Z Ok pc lo (.ref (z + b) :: st) w o := fun v h hk => gfX3_30 C d (hp_of (lyEv0 hb)) rfl (k v h hk)
theorem dpX3_30 {x : Int32} {K : Mem → Option α} (C : Cx p s m args c G RX3 cc nL z) {b : Nat} (hb : EvO b) (d : decode cc pc = .ok (.putfield 30, 3)) (k : ∀ w2, DX p l e R s m args below meth c G z nL n Z Ok (pc + 3) lo st w2 (K w2)) : DX p l e R s m args below meth c G z nL n Z Ok pc lo (.int x :: .ref (z + b) :: st) w (pw b 6 x w K) := fun v h hk => pfX3_30 C d (hp_of (lyEv0 hb)) (Nat.le_of_ble_eq_true rfl) rfl (hup_wu (i := 6) (v := x) (lyEv0 hb) rfl) (k _ v h hk)
theorem dgX9_164 (C : Cx p s m args c G RX9 cc nL z) {b : Nat} (hb : EvO b) (d : decode cc pc = .ok (.getfield 164, 3)) (k : DX p l e R s m args below meth c G z nL n Z Ok (pc + 3) lo (.int (w b 6) :: st) w o) : DX p l e R s m args below meth c G z nL n Z Ok pc lo (.ref (z + b) :: st) w o := fun v h hk => gfX9_164 C d (hp_of (lyEv0 hb)) rfl (k v h hk)
theorem dpX9_164 {x : Int32} {K : Mem → Option α} (C : Cx p s m args c G RX9 cc nL z) {b : Nat} (hb : EvO b) (d : decode cc pc = .ok (.putfield 164, 3)) (k : ∀ w2, DX p l e R s m args below meth c G z nL n Z Ok (pc + 3) lo st w2 (K w2)) : DX p l e R s m args below meth c G z nL n Z Ok pc lo (.int x :: .ref (z + b) :: st) w (pw b 6 x w K) := fun v h hk => pfX9_164 C d (hp_of (lyEv0 hb)) (Nat.le_of_ble_eq_true rfl) rfl (hup_wu (i := 6) (v := x) (lyEv0 hb) rfl) (k _ v h hk)
theorem dgX3_33 (C : Cx p s m args c G RX3 cc nL z) {b : Nat} (hb : EvO b) (d : decode cc pc = .ok (.getfield 33, 3)) (k : DX p l e R s m args below meth c G z nL n Z Ok (pc + 3) lo (.int (w b 7) :: st) w o) : DX p l e R s m args below meth c G z nL n Z Ok pc lo (.ref (z + b) :: st) w o := fun v h hk => gfX3_33 C d (hp_of (lyEv0 hb)) rfl (k v h hk)
theorem dpX3_33 {x : Int32} {K : Mem → Option α} (C : Cx p s m args c G RX3 cc nL z) {b : Nat} (hb : EvO b) (d : decode cc pc = .ok (.putfield 33, 3)) (k : ∀ w2, DX p l e R s m args below meth c G z nL n Z Ok (pc + 3) lo st w2 (K w2)) : DX p l e R s m args below meth c G z nL n Z Ok pc lo (.int x :: .ref (z + b) :: st) w (pw b 7 x w K) := fun v h hk => pfX3_33 C d (hp_of (lyEv0 hb)) (Nat.le_of_ble_eq_true rfl) rfl (hup_wu (i := 7) (v := x) (lyEv0 hb) rfl) (k _ v h hk)
theorem dgX5_39 (C : Cx p s m args c G RX5 cc nL z) {b : Nat} (hb : EvO b) (d : decode cc pc = .ok (.getfield 39, 3)) (k : DX p l e R s m args below meth c G z nL n Z Ok (pc + 3) lo (.int (w b 7) :: st) w o) : DX p l e R s m args below meth c G z nL n Z Ok pc lo (.ref (z + b) :: st) w o := fun v h hk => gfX5_39 C d (hp_of (lyEv0 hb)) rfl (k v h hk)
theorem dpX5_39 {x : Int32} {K : Mem → Option α} (C : Cx p s m args c G RX5 cc nL z) {b : Nat} (hb : EvO b) (d : decode cc pc = .ok (.putfield 39, 3)) (k : ∀ w2, DX p l e R s m args below meth c G z nL n Z Ok (pc + 3) lo st w2 (K w2)) : DX p l e R s m args below meth c G z nL n Z Ok pc lo (.int x :: .ref (z + b) :: st) w (pw b 7 x w K) := fun v h hk => pfX5_39 C d (hp_of (lyEv0 hb)) (Nat.le_of_ble_eq_true rfl) rfl (hup_wu (i := 7) (v := x) (lyEv0 hb) rfl) (k _ v h hk)
theorem dgX9_167 (C : Cx p s m args c G RX9 cc nL z) {b : Nat} (hb : EvO b) (d : decode cc pc = .ok (.getfield 167, 3)) (k : DX p l e R s m args below meth c G z nL n Z Ok (pc + 3) lo (.int (w b 7) :: st) w o) : DX p l e R s m args below meth c G z nL n Z Ok pc lo (.ref (z + b) :: st) w o := fun v h hk => gfX9_167 C d (hp_of (lyEv0 hb)) rfl (k v h hk)
theorem dpX9_167 {x : Int32} {K : Mem → Option α} (C : Cx p s m args c G RX9 cc nL z) {b : Nat} (hb : EvO b) (d : decode cc pc = .ok (.putfield 167, 3)) (k : ∀ w2, DX p l e R s m args below meth c G z nL n Z Ok (pc + 3) lo st w2 (K w2)) : DX p l e R s m args below meth c G z nL n Z Ok pc lo (.int x :: .ref (z + b) :: st) w (pw b 7 x w K) := fun v h hk => pfX9_167 C d (hp_of (lyEv0 hb)) (Nat.le_of_ble_eq_true rfl) rfl (hup_wu (i := 7) (v := x) (lyEv0 hb) rfl) (k _ v h hk)
theorem dgX3_36 (C : Cx p s m args c G RX3 cc nL z) {b : Nat} (hb : EvO b) (d : decode cc pc = .ok (.getfield 36, 3)) (k : DX p l e R s m args below meth c G z nL n Z Ok (pc + 3) lo (.int (w b 8) :: st) w o) : DX p l e R s m args below meth c G z nL n Z Ok pc lo (.ref (z + b) :: st) w o := fun v h hk => gfX3_36 C d (hp_of (lyEv0 hb)) rfl (k v h hk)
theorem dpX3_36 {x : Int32} {K : Mem → Option α} (C : Cx p s m args c G RX3 cc nL z) {b : Nat} (hb : EvO b) (d : decode cc pc = .ok (.putfield 36, 3)) (k : ∀ w2, DX p l e R s m args below meth c G z nL n Z Ok (pc + 3) lo st w2 (K w2)) : DX p l e R s m args below meth c G z nL n Z Ok pc lo (.int x :: .ref (z + b) :: st) w (pw b 8 x w K) := fun v h hk => pfX3_36 C d (hp_of (lyEv0 hb)) (Nat.le_of_ble_eq_true rfl) rfl (hup_wu (i := 8) (v := x) (lyEv0 hb) rfl) (k _ v h hk)
theorem dgX9_170 (C : Cx p s m args c G RX9 cc nL z) {b : Nat} (hb : EvO b) (d : decode cc pc = .ok (.getfield 170, 3)) (k : DX p l e R s m args below meth c G z nL n Z Ok (pc + 3) lo (.int (w b 8) :: st) w o) : DX p l e R s m args below meth c G z nL n Z Ok pc lo (.ref (z + b) :: st) w o := fun v h hk => gfX9_170 C d (hp_of (lyEv0 hb)) rfl (k v h hk)
theorem dpX9_170 {x : Int32} {K : Mem → Option α} (C : Cx p s m args c G RX9 cc nL z) {b : Nat} (hb : EvO b) (d : decode cc pc = .ok (.putfield 170, 3)) (k : ∀ w2, DX p l e R s m args below meth c G z nL n Z Ok (pc + 3) lo st w2 (K w2)) : DX p l e R s m args below meth c G z nL n Z Ok pc lo (.int x :: .ref (z + b) :: st) w (pw b 8 x w K) := fun v h hk => pfX9_170 C d (hp_of (lyEv0 hb)) (Nat.le_of_ble_eq_true rfl) rfl (hup_wu (i := 8) (v := x) (lyEv0 hb) rfl) (k _ v h hk)
theorem dgX3_39 (C : Cx p s m args c G RX3 cc nL z) {b : Nat} (hb : EvO b) (d : decode cc pc = .ok (.getfield 39, 3)) (k : DX p l e R s m args below meth c G z nL n Z Ok (pc + 3) lo (.int (w b 9) :: st) w o) : DX p l e R s m args below meth c G z nL n Z Ok pc lo (.ref (z + b) :: st) w o := fun v h hk => gfX3_39 C d (hp_of (lyEv0 hb)) rfl (k v h hk)
theorem dpX3_39 {x : Int32} {K : Mem → Option α} (C : Cx p s m args c G RX3 cc nL z) {b : Nat} (hb : EvO b) (d : decode cc pc = .ok (.putfield 39, 3)) (k : ∀ w2, DX p l e R s m args below meth c G z nL n Z Ok (pc + 3) lo st w2 (K w2)) : DX p l e R s m args below meth c G z nL n Z Ok pc lo (.int x :: .ref (z + b) :: st) w (pw b 9 x w K) := fun v h hk => pfX3_39 C d (hp_of (lyEv0 hb)) (Nat.le_of_ble_eq_true rfl) rfl (hup_wu (i := 9) (v := x) (lyEv0 hb) rfl) (k _ v h hk)
theorem dgX9_173 (C : Cx p s m args c G RX9 cc nL z) {b : Nat} (hb : EvO b) (d : decode cc pc = .ok (.getfield 173, 3)) (k : DX p l e R s m args below meth c G z nL n Z Ok (pc + 3) lo (.int (w b 9) :: st) w o) : DX p l e R s m args below meth c G z nL n Z Ok pc lo (.ref (z + b) :: st) w o := fun v h hk => gfX9_173 C d (hp_of (lyEv0 hb)) rfl (k v h hk)
theorem dpX9_173 {x : Int32} {K : Mem → Option α} (C : Cx p s m args c G RX9 cc nL z) {b : Nat} (hb : EvO b) (d : decode cc pc = .ok (.putfield 173, 3)) (k : ∀ w2, DX p l e R s m args below meth c G z nL n Z Ok (pc + 3) lo st w2 (K w2)) : DX p l e R s m args below meth c G z nL n Z Ok pc lo (.int x :: .ref (z + b) :: st) w (pw b 9 x w K) := fun v h hk => pfX9_173 C d (hp_of (lyEv0 hb)) (Nat.le_of_ble_eq_true rfl) rfl (hup_wu (i := 9) (v := x) (lyEv0 hb) rfl) (k _ v h hk)
theorem dgX3_42 (C : Cx p s m args c G RX3 cc nL z) {b : Nat} (hb : EvO b) (d : decode cc pc = .ok (.getfield 42, 3)) (k : DX p l e R s m args below meth c G z nL n Z Ok (pc + 3) lo (.ref (z + (b + 1)) :: st) w o) : DX p l e R s m args below meth c G z nL n Z Ok pc lo (.ref (z + b) :: st) w o := fun v h hk => gfX3_42 C d (hp_of (lyEv0 hb)) rfl (k v h hk)
theorem dgX9_208 (C : Cx p s m args c G RX9 cc nL z) {b : Nat} (hb : EvO b) (d : decode cc pc = .ok (.getfield 208, 3)) (k : DX p l e R s m args below meth c G z nL n Z Ok (pc + 3) lo (.ref (z + (b + 1)) :: st) w o) : DX p l e R s m args below meth c G z nL n Z Ok pc lo (.ref (z + b) :: st) w o := fun v h hk => gfX9_208 C d (hp_of (lyEv0 hb)) rfl (k v h hk)
theorem dgX3_46 (C : Cx p s m args c G RX3 cc nL z) {b : Nat} (hb : EvO b) (d : decode cc pc = .ok (.getfield 46, 3)) (k : DX p l e R s m args below meth c G z nL n Z Ok (pc + 3) lo (.ref (z + (b + 2)) :: st) w o) : DX p l e R s m args below meth c G z nL n Z Ok pc lo (.ref (z + b) :: st) w o := fun v h hk => gfX3_46 C d (hp_of (lyEv0 hb)) rfl (k v h hk)
theorem dgX9_205 (C : Cx p s m args c G RX9 cc nL z) {b : Nat} (hb : EvO b) (d : decode cc pc = .ok (.getfield 205, 3)) (k : DX p l e R s m args below meth c G z nL n Z Ok (pc + 3) lo (.ref (z + (b + 2)) :: st) w o) : DX p l e R s m args below meth c G z nL n Z Ok pc lo (.ref (z + b) :: st) w o := fun v h hk => gfX9_205 C d (hp_of (lyEv0 hb)) rfl (k v h hk)
theorem dgX6_11 (C : Cx p s m args c G RX6 cc nL z) (d : decode cc pc = .ok (.getfield 11, 3)) (k : DX p l e R s m args below meth c G z nL n Z Ok (pc + 3) lo (.ref (z + 7) :: st) w o) : DX p l e R s m args below meth c G z nL n Z Ok pc lo (.ref (z + 6) :: st) w o := fun v h hk => gfX6_11 C d (hp_of ly_6) rfl (k v h hk)
theorem dgX6_17 (C : Cx p s m args c G RX6 cc nL z) (d : decode cc pc = .ok (.getfield 17, 3)) (k : DX p l e R s m args below meth c G z nL n Z Ok (pc + 3) lo (.int (w 6 1) :: st) w o) : DX p l e R s m args below meth c G z nL n Z Ok pc lo (.ref (z + 6) :: st) w o := fun v h hk => gfX6_17 C d (hp_of ly_6) rfl (k v h hk)
theorem dpX6_17 {x : Int32} {K : Mem → Option α} (C : Cx p s m args c G RX6 cc nL z) (d : decode cc pc = .ok (.putfield 17, 3)) (k : ∀ w2, DX p l e R s m args below meth c G z nL n Z Ok (pc + 3) lo st w2 (K w2)) : DX p l e R s m args below meth c G z nL n Z Ok pc lo (.int x :: .ref (z + 6) :: st) w (pw 6 1 x w K) := fun v h hk => pfX6_17 C d (hp_of ly_6) (Nat.le_of_ble_eq_true rfl) rfl (hup_wu (i := 1) (v := x) ly_6 rfl) (k _ v h hk)
theorem dgX9_144 (C : Cx p s m args c G RX9 cc nL z) (d : decode cc pc = .ok (.getfield 144, 3)) (k : DX p l e R s m args below meth c G z nL n Z Ok (pc + 3) lo (.int (w 6 1) :: st) w o) : DX p l e R s m args below meth c G z nL n Z Ok pc lo (.ref (z + 6) :: st) w o := fun v h hk => gfX9_144 C d (hp_of ly_6) rfl (k v h hk)
theorem dpX9_144 {x : Int32} {K : Mem → Option α} (C : Cx p s m args c G RX9 cc nL z) (d : decode cc pc = .ok (.putfield 144, 3)) (k : ∀ w2, DX p l e R s m args below meth c G z nL n Z Ok (pc + 3) lo st w2 (K w2)) : DX p l e R s m args below meth c G z nL n Z Ok pc lo (.int x :: .ref (z + 6) :: st) w (pw 6 1 x w K) := fun v h hk => pfX9_144 C d (hp_of ly_6) (Nat.le_of_ble_eq_true rfl) rfl (hup_wu (i := 1) (v := x) ly_6 rfl) (k _ v h hk)
theorem dgX6_21 (C : Cx p s m args c G RX6 cc nL z) (d : decode cc pc = .ok (.getfield 21, 3)) (k : DX p l e R s m args below meth c G z nL n Z Ok (pc + 3) lo (.int (w 6 2) :: st) w o) : DX p l e R s m args below meth c G z nL n Z Ok pc lo (.ref (z + 6) :: st) w o := fun v h hk => gfX6_21 C d (hp_of ly_6) rfl (k v h hk)
theorem dpX6_21 {x : Int32} {K : Mem → Option α} (C : Cx p s m args c G RX6 cc nL z) (d : decode cc pc = .ok (.putfield 21, 3)) (k : ∀ w2, DX p l e R s m args below meth c G z nL n Z Ok (pc + 3) lo st w2 (K w2)) : DX p l e R s m args below meth c G z nL n Z Ok pc lo (.int x :: .ref (z + 6) :: st) w (pw 6 2 x w K) := fun v h hk => pfX6_21 C d (hp_of ly_6) (Nat.le_of_ble_eq_true rfl) rfl (hup_wu (i := 2) (v := x) ly_6 rfl) (k _ v h hk)
theorem dgX8_9 (C : Cx p s m args c G RX8 cc nL z) (d : decode cc pc = .ok (.getfield 9, 3)) (k : DX p l e R s m args below meth c G z nL n Z Ok (pc + 3) lo (.ref (z + 100) :: st) w o) : DX p l e R s m args below meth c G z nL n Z Ok pc lo (.ref (z + 99) :: st) w o := fun v h hk => gfX8_9 C d (hp_of ly_99) rfl (k v h hk)
theorem dgX8_15 (C : Cx p s m args c G RX8 cc nL z) (d : decode cc pc = .ok (.getfield 15, 3)) (k : DX p l e R s m args below meth c G z nL n Z Ok (pc + 3) lo (.int (w 99 1) :: st) w o) : DX p l e R s m args below meth c G z nL n Z Ok pc lo (.ref (z + 99) :: st) w o := fun v h hk => gfX8_15 C d (hp_of ly_99) rfl (k v h hk)
theorem dpX8_15 {x : Int32} {K : Mem → Option α} (C : Cx p s m args c G RX8 cc nL z) (d : decode cc pc = .ok (.putfield 15, 3)) (k : ∀ w2, DX p l e R s m args below meth c G z nL n Z Ok (pc + 3) lo st w2 (K w2)) : DX p l e R s m args below meth c G z nL n Z Ok pc lo (.int x :: .ref (z + 99) :: st) w (pw 99 1 x w K) := fun v h hk => pfX8_15 C d (hp_of ly_99) (Nat.le_of_ble_eq_true rfl) rfl (hup_wu (i := 1) (v := x) ly_99 rfl) (k _ v h hk)
theorem dgX5_57 (C : Cx p s m args c G RX5 cc nL z) (d : decode cc pc = .ok (.getfield 57, 3)) (k : DX p l e R s m args below meth c G z nL n Z Ok (pc + 3) lo (.int (w 99 1) :: st) w o) : DX p l e R s m args below meth c G z nL n Z Ok pc lo (.ref (z + 99) :: st) w o := fun v h hk => gfX5_57 C d (hp_of ly_99) rfl (k v h hk)
theorem dpX5_57 {x : Int32} {K : Mem → Option α} (C : Cx p s m args c G RX5 cc nL z) (d : decode cc pc = .ok (.putfield 57, 3)) (k : ∀ w2, DX p l e R s m args below meth c G z nL n Z Ok (pc + 3) lo st w2 (K w2)) : DX p l e R s m args below meth c G z nL n Z Ok pc lo (.int x :: .ref (z + 99) :: st) w (pw 99 1 x w K) := fun v h hk => pfX5_57 C d (hp_of ly_99) (Nat.le_of_ble_eq_true rfl) rfl (hup_wu (i := 1) (v := x) ly_99 rfl) (k _ v h hk)
theorem dgX9_286 (C : Cx p s m args c G RX9 cc nL z) (d : decode cc pc = .ok (.getfield 286, 3)) (k : DX p l e R s m args below meth c G z nL n Z Ok (pc + 3) lo (.int (w 99 1) :: st) w o) : DX p l e R s m args below meth c G z nL n Z Ok pc lo (.ref (z + 99) :: st) w o := fun v h hk => gfX9_286 C d (hp_of ly_99) rfl (k v h hk)
theorem dpX9_286 {x : Int32} {K : Mem → Option α} (C : Cx p s m args c G RX9 cc nL z) (d : decode cc pc = .ok (.putfield 286, 3)) (k : ∀ w2, DX p l e R s m args below meth c G z nL n Z Ok (pc + 3) lo st w2 (K w2)) : DX p l e R s m args below meth c G z nL n Z Ok pc lo (.int x :: .ref (z + 99) :: st) w (pw 99 1 x w K) := fun v h hk => pfX9_286 C d (hp_of ly_99) (Nat.le_of_ble_eq_true rfl) rfl (hup_wu (i := 1) (v := x) ly_99 rfl) (k _ v h hk)
theorem dgX8_19 (C : Cx p s m args c G RX8 cc nL z) (d : decode cc pc = .ok (.getfield 19, 3)) (k : DX p l e R s m args below meth c G z nL n Z Ok (pc + 3) lo (.int (w 99 2) :: st) w o) : DX p l e R s m args below meth c G z nL n Z Ok pc lo (.ref (z + 99) :: st) w o := fun v h hk => gfX8_19 C d (hp_of ly_99) rfl (k v h hk)
theorem dpX8_19 {x : Int32} {K : Mem → Option α} (C : Cx p s m args c G RX8 cc nL z) (d : decode cc pc = .ok (.putfield 19, 3)) (k : ∀ w2, DX p l e R s m args below meth c G z nL n Z Ok (pc + 3) lo st w2 (K w2)) : DX p l e R s m args below meth c G z nL n Z Ok pc lo (.int x :: .ref (z + 99) :: st) w (pw 99 2 x w K) := fun v h hk => pfX8_19 C d (hp_of ly_99) (Nat.le_of_ble_eq_true rfl) rfl (hup_wu (i := 2) (v := x) ly_99 rfl) (k _ v h hk)
theorem dgX9_289 (C : Cx p s m args c G RX9 cc nL z) (d : decode cc pc = .ok (.getfield 289, 3)) (k : DX p l e R s m args below meth c G z nL n Z Ok (pc + 3) lo (.int (w 99 2) :: st) w o) : DX p l e R s m args below meth c G z nL n Z Ok pc lo (.ref (z + 99) :: st) w o := fun v h hk => gfX9_289 C d (hp_of ly_99) rfl (k v h hk)
theorem dpX9_289 {x : Int32} {K : Mem → Option α} (C : Cx p s m args c G RX9 cc nL z) (d : decode cc pc = .ok (.putfield 289, 3)) (k : ∀ w2, DX p l e R s m args below meth c G z nL n Z Ok (pc + 3) lo st w2 (K w2)) : DX p l e R s m args below meth c G z nL n Z Ok pc lo (.int x :: .ref (z + 99) :: st) w (pw 99 2 x w K) := fun v h hk => pfX9_289 C d (hp_of ly_99) (Nat.le_of_ble_eq_true rfl) rfl (hup_wu (i := 2) (v := x) ly_99 rfl) (k _ v h hk)
theorem dgX8_22 (C : Cx p s m args c G RX8 cc nL z) (d : decode cc pc = .ok (.getfield 22, 3)) (k : DX p l e R s m args below meth c G z nL n Z Ok (pc + 3) lo (.int (w 99 3) :: st) w o) : DX p l e R s m args below meth c G z nL n Z Ok pc lo (.ref (z + 99) :: st) w o := fun v h hk => gfX8_22 C d (hp_of ly_99) rfl (k v h hk)
theorem dpX8_22 {x : Int32} {K : Mem → Option α} (C : Cx p s m args c G RX8 cc nL z) (d : decode cc pc = .ok (.putfield 22, 3)) (k : ∀ w2, DX p l e R s m args below meth c G z nL n Z Ok (pc + 3) lo st w2 (K w2)) : DX p l e R s m args below meth c G z nL n Z Ok pc lo (.int x :: .ref (z + 99) :: st) w (pw 99 3 x w K) := fun v h hk => pfX8_22 C d (hp_of ly_99) (Nat.le_of_ble_eq_true rfl) rfl (hup_wu (i := 3) (v := x) ly_99 rfl) (k _ v h hk)
theorem dgX9_292 (C : Cx p s m args c G RX9 cc nL z) (d : decode cc pc = .ok (.getfield 292, 3)) (k : DX p l e R s m args below meth c G z nL n Z Ok (pc + 3) lo (.int (w 99 3) :: st) w o) : DX p l e R s m args below meth c G z nL n Z Ok pc lo (.ref (z + 99) :: st) w o := fun v h hk => gfX9_292 C d (hp_of ly_99) rfl (k v h hk)
theorem dpX9_292 {x : Int32} {K : Mem → Option α} (C : Cx p s m args c G RX9 cc nL z) (d : decode cc pc = .ok (.putfield 292, 3)) (k : ∀ w2, DX p l e R s m args below meth c G z nL n Z Ok (pc + 3) lo st w2 (K w2)) : DX p l e R s m args below meth c G z nL n Z Ok pc lo (.int x :: .ref (z + 99) :: st) w (pw 99 3 x w K) := fun v h hk => pfX9_292 C d (hp_of ly_99) (Nat.le_of_ble_eq_true rfl) rfl (hup_wu (i := 3) (v := x) ly_99 rfl) (k _ v h hk)
theorem dgX5_9 (C : Cx p s m args c G RX5 cc nL z) (d : decode cc pc = .ok (.getfield 9, 3)) (k : DX p l e R s m args below meth c G z nL n Z Ok (pc + 3) lo (.ref (z + 102) :: st) w o) : DX p l e R s m args below meth c G z nL n Z Ok pc lo (.ref (z + 101) :: st) w o := fun v h hk => gfX5_9 C d (hp_of ly_101) rfl (k v h hk)
theorem dgX5_15 (C : Cx p s m args c G RX5 cc nL z) (d : decode cc pc = .ok (.getfield 15, 3)) (k : DX p l e R s m args below meth c G z nL n Z Ok (pc + 3) lo (.ref (z + 103) :: st) w o) : DX p l e R s m args below meth c G z nL n Z Ok pc lo (.ref (z + 101) :: st) w o := fun v h hk => gfX5_15 C d (hp_of ly_101) rfl (k v h hk)
theorem dgX5_18 (C : Cx p s m args c G RX5 cc nL z) (d : decode cc pc = .ok (.getfield 18, 3)) (k : DX p l e R s m args below meth c G z nL n Z Ok (pc + 3) lo (.ref (z + 104) :: st) w o) : DX p l e R s m args below meth c G z nL n Z Ok pc lo (.ref (z + 101) :: st) w o := fun v h hk => gfX5_18 C d (hp_of ly_101) rfl (k v h hk)
theorem dgX5_21 (C : Cx p s m args c G RX5 cc nL z) (d : decode cc pc = .ok (.getfield 21, 3)) (k : DX p l e R s m args below meth c G z nL n Z Ok (pc + 3) lo (.ref (z + 105) :: st) w o) : DX p l e R s m args below meth c G z nL n Z Ok pc lo (.ref (z + 101) :: st) w o := fun v h hk => gfX5_21 C d (hp_of ly_101) rfl (k v h hk)
theorem dgX5_24 (C : Cx p s m args c G RX5 cc nL z) (d : decode cc pc = .ok (.getfield 24, 3)) (k : DX p l e R s m args below meth c G z nL n Z Ok (pc + 3) lo (.int (w 101 4) :: st) w o) : DX p l e R s m args below meth c G z nL n Z Ok pc lo (.ref (z + 101) :: st) w o := fun v h hk => gfX5_24 C d (hp_of ly_101) rfl (k v h hk)
theorem dpX5_24 {x : Int32} {K : Mem → Option α} (C : Cx p s m args c G RX5 cc nL z) (d : decode cc pc = .ok (.putfield 24, 3)) (k : ∀ w2, DX p l e R s m args below meth c G z nL n Z Ok (pc + 3) lo st w2 (K w2)) : DX p l e R s m args below meth c G z nL n Z Ok pc lo (.int x :: .ref (z + 101) :: st) w (pw 101 4 x w K) := fun v h hk => pfX5_24 C d (hp_of ly_101) (Nat.le_of_ble_eq_true rfl) rfl (hup_wu (i := 4) (v := x) ly_101 rfl) (k _ v h hk)
theorem dgX5_28 (C : Cx p s m args c G RX5 cc nL z) (d : decode cc pc = .ok (.getfield 28, 3)) (k : DX p l e R s m args below meth c G z nL n Z Ok (pc + 3) lo (.int (w 101 5) :: st) w o) : DX p l e R s m args below meth c G z nL n Z Ok pc lo (.ref (z + 101) :: st) w o := fun v h hk => gfX5_28 C d (hp_of ly_101) rfl (k v h hk)
theorem dpX5_28 {x : Int32} {K : Mem → Option α} (C : Cx p s m args c G RX5 cc nL z) (d : decode cc pc = .ok (.putfield 28, 3)) (k : ∀ w2, DX p l e R s m args below meth c G z nL n Z Ok (pc + 3) lo st w2 (K w2)) : DX p l e R s m args below meth c G z nL n Z Ok pc lo (.int x :: .ref (z + 101) :: st) w (pw 101 5 x w K) := fun v h hk => pfX5_28 C d (hp_of ly_101) (Nat.le_of_ble_eq_true rfl) rfl (hup_wu (i := 5) (v := x) ly_101 rfl) (k _ v h hk)
theorem dgX9_303 (C : Cx p s m args c G RX9 cc nL z) (d : decode cc pc = .ok (.getfield 303, 3)) (k : DX p l e R s m args below meth c G z nL n Z Ok (pc + 3) lo (.int (w 101 5) :: st) w o) : DX p l e R s m args below meth c G z nL n Z Ok pc lo (.ref (z + 101) :: st) w o := fun v h hk => gfX9_303 C d (hp_of ly_101) rfl (k v h hk)
theorem dpX9_303 {x : Int32} {K : Mem → Option α} (C : Cx p s m args c G RX9 cc nL z) (d : decode cc pc = .ok (.putfield 303, 3)) (k : ∀ w2, DX p l e R s m args below meth c G z nL n Z Ok (pc + 3) lo st w2 (K w2)) : DX p l e R s m args below meth c G z nL n Z Ok pc lo (.int x :: .ref (z + 101) :: st) w (pw 101 5 x w K) := fun v h hk => pfX9_303 C d (hp_of ly_101) (Nat.le_of_ble_eq_true rfl) rfl (hup_wu (i := 5) (v := x) ly_101 rfl) (k _ v h hk)
theorem dgX5_31 (C : Cx p s m args c G RX5 cc nL z) (d : decode cc pc = .ok (.getfield 31, 3)) (k : DX p l e R s m args below meth c G z nL n Z Ok (pc + 3) lo (.int (w 101 6) :: st) w o) : DX p l e R s m args below meth c G z nL n Z Ok pc lo (.ref (z + 101) :: st) w o := fun v h hk => gfX5_31 C d (hp_of ly_101) rfl (k v h hk)
theorem dpX5_31 {x : Int32} {K : Mem → Option α} (C : Cx p s m args c G RX5 cc nL z) (d : decode cc pc = .ok (.putfield 31, 3)) (k : ∀ w2, DX p l e R s m args below meth c G z nL n Z Ok (pc + 3) lo st w2 (K w2)) : DX p l e R s m args below meth c G z nL n Z Ok pc lo (.int x :: .ref (z + 101) :: st) w (pw 101 6 x w K) := fun v h hk => pfX5_31 C d (hp_of ly_101) (Nat.le_of_ble_eq_true rfl) rfl (hup_wu (i := 6) (v := x) ly_101 rfl) (k _ v h hk)
theorem dgX9_306 (C : Cx p s m args c G RX9 cc nL z) (d : decode cc pc = .ok (.getfield 306, 3)) (k : DX p l e R s m args below meth c G z nL n Z Ok (pc + 3) lo (.int (w 101 6) :: st) w o) : DX p l e R s m args below meth c G z nL n Z Ok pc lo (.ref (z + 101) :: st) w o := fun v h hk => gfX9_306 C d (hp_of ly_101) rfl (k v h hk)
theorem dpX9_306 {x : Int32} {K : Mem → Option α} (C : Cx p s m args c G RX9 cc nL z) (d : decode cc pc = .ok (.putfield 306, 3)) (k : ∀ w2, DX p l e R s m args below meth c G z nL n Z Ok (pc + 3) lo st w2 (K w2)) : DX p l e R s m args below meth c G z nL n Z Ok pc lo (.int x :: .ref (z + 101) :: st) w (pw 101 6 x w K) := fun v h hk => pfX9_306 C d (hp_of ly_101) (Nat.le_of_ble_eq_true rfl) rfl (hup_wu (i := 6) (v := x) ly_101 rfl) (k _ v h hk)
theorem dgX2_21_106 (C : Cx p s m args c G RX2 cc nL z) (d : decode cc pc = .ok (.getfield 21, 3)) (k : DX p l e R s m args below meth c G z nL n Z Ok (pc + 3) lo (.ref (z + 107) :: st) w o) : DX p l e R s m args below meth c G z nL n Z Ok pc lo (.ref (z + 106) :: st) w o := fun v h hk => gfX2_21 C d (hp_of ly_106) rfl (k v h hk)
theorem dgX2_21_109 (C : Cx p s m args c G RX2 cc nL z) (d : decode cc pc = .ok (.getfield 21, 3)) (k : DX p l e R s m args below meth c G z nL n Z Ok (pc + 3) lo (.ref (z + 110) :: st) w o) : DX p l e R s m args below meth c G z nL n Z Ok pc lo (.ref (z + 109) :: st) w o := fun v h hk => gfX2_21 C d (hp_of ly_109) rfl (k v h hk)
theorem dgX2_25_106 (C : Cx p s m args c G RX2 cc nL z) (d : decode cc pc = .ok (.getfield 25, 3)) (k : DX p l e R s m args below meth c G z nL n Z Ok (pc + 3) lo (.ref (z + 108) :: st) w o) : DX p l e R s m args below meth c G z nL n Z Ok pc lo (.ref (z + 106) :: st) w o := fun v h hk => gfX2_25 C d (hp_of ly_106) rfl (k v h hk)
theorem dgX2_25_109 (C : Cx p s m args c G RX2 cc nL z) (d : decode cc pc = .ok (.getfield 25, 3)) (k : DX p l e R s m args below meth c G z nL n Z Ok (pc + 3) lo (.ref (z + 111) :: st) w o) : DX p l e R s m args below meth c G z nL n Z Ok pc lo (.ref (z + 109) :: st) w o := fun v h hk => gfX2_25 C d (hp_of ly_109) rfl (k v h hk)
theorem dgX2_9_106 (C : Cx p s m args c G RX2 cc nL z) (d : decode cc pc = .ok (.getfield 9, 3)) (k : DX p l e R s m args below meth c G z nL n Z Ok (pc + 3) lo (.int (w 106 2) :: st) w o) : DX p l e R s m args below meth c G z nL n Z Ok pc lo (.ref (z + 106) :: st) w o := fun v h hk => gfX2_9 C d (hp_of ly_106) rfl (k v h hk)
theorem dpX2_9_106 {x : Int32} {K : Mem → Option α} (C : Cx p s m args c G RX2 cc nL z) (d : decode cc pc = .ok (.putfield 9, 3)) (k : ∀ w2, DX p l e R s m args below meth c G z nL n Z Ok (pc + 3) lo st w2 (K w2)) : DX p l e R s m args below meth c G z nL n Z Ok pc lo (.int x :: .ref (z + 106) :: st) w (pw 106 2 x w K) := fun v h hk => pfX2_9 C d (hp_of ly_106) (Nat.le_of_ble_eq_true rfl) rfl (hup_wu (i := 2) (v := x) ly_106 rfl) (k _ v h hk)
theorem dgX2_9_109 (C : Cx p s m args c G RX2 cc nL z) (d : decode cc pc = .ok (.getfield 9, 3)) (k : DX p l e R s m args below meth c G z nL n Z Ok (pc + 3) lo (.int (w 109 2) :: st) w o) : DX p l e R s m args below meth c G z nL n Z Ok pc lo (.ref (z + 109) :: st) w o := fun v h hk => gfX2_9 C d (hp_of ly_109) rfl (k v h hk)
theorem dpX2_9_109 {x : Int32} {K : Mem → Option α} (C : Cx p s m args c G RX2 cc nL z) (d : decode cc pc = .ok (.putfield 9, 3)) (k : ∀ w2, DX p l e R s m args below meth c G z nL n Z Ok (pc + 3) lo st w2 (K w2)) : DX p l e R s m args below meth c G z nL n Z Ok pc lo (.int x :: .ref (z + 109) :: st) w (pw 109 2 x w K) := fun v h hk => pfX2_9 C d (hp_of ly_109) (Nat.le_of_ble_eq_true rfl) rfl (hup_wu (i := 2) (v := x) ly_109 rfl) (k _ v h hk)
theorem dgX9_141_106 (C : Cx p s m args c G RX9 cc nL z) (d : decode cc pc = .ok (.getfield 141, 3)) (k : DX p l e R s m args below meth c G z nL n Z Ok (pc + 3) lo (.int (w 106 2) :: st) w o) : DX p l e R s m args below meth c G z nL n Z Ok pc lo (.ref (z + 106) :: st) w o := fun v h hk => gfX9_141 C d (hp_of ly_106) rfl (k v h hk)
theorem dpX9_141_106 {x : Int32} {K : Mem → Option α} (C : Cx p s m args c G RX9 cc nL z) (d : decode cc pc = .ok (.putfield 141, 3)) (k : ∀ w2, DX p l e R s m args below meth c G z nL n Z Ok (pc + 3) lo st w2 (K w2)) : DX p l e R s m args below meth c G z nL n Z Ok pc lo (.int x :: .ref (z + 106) :: st) w (pw 106 2 x w K) := fun v h hk => pfX9_141 C d (hp_of ly_106) (Nat.le_of_ble_eq_true rfl) rfl (hup_wu (i := 2) (v := x) ly_106 rfl) (k _ v h hk)
theorem dgX9_141_109 (C : Cx p s m args c G RX9 cc nL z) (d : decode cc pc = .ok (.getfield 141, 3)) (k : DX p l e R s m args below meth c G z nL n Z Ok (pc + 3) lo (.int (w 109 2) :: st) w o) : DX p l e R s m args below meth c G z nL n Z Ok pc lo (.ref (z + 109) :: st) w o := fun v h hk => gfX9_141 C d (hp_of ly_109) rfl (k v h hk)
theorem dpX9_141_109 {x : Int32} {K : Mem → Option α} (C : Cx p s m args c G RX9 cc nL z) (d : decode cc pc = .ok (.putfield 141, 3)) (k : ∀ w2, DX p l e R s m args below meth c G z nL n Z Ok (pc + 3) lo st w2 (K w2)) : DX p l e R s m args below meth c G z nL n Z Ok pc lo (.int x :: .ref (z + 109) :: st) w (pw 109 2 x w K) := fun v h hk => pfX9_141 C d (hp_of ly_109) (Nat.le_of_ble_eq_true rfl) rfl (hup_wu (i := 2) (v := x) ly_109 rfl) (k _ v h hk)
theorem dgX1_9 (C : Cx p s m args c G RX1 cc nL z) {b : Nat} (hb : BrO b) (d : decode cc pc = .ok (.getfield 9, 3)) (k : DX p l e R s m args below meth c G z nL n Z Ok (pc + 3) lo (.int (w b 0) :: st) w o) : DX p l e R s m args below meth c G z nL n Z Ok pc lo (.ref (z + b) :: st) w o := fun v h hk => gfX1_9 C d (hp_of (lyBr0 hb)) rfl (k v h hk)
theorem dpX1_9 {x : Int32} {K : Mem → Option α} (C : Cx p s m args c G RX1 cc nL z) {b : Nat} (hb : BrO b) (d : decode cc pc = .ok (.putfield 9, 3)) (k : ∀ w2, DX p l e R s m args below meth c G z nL n Z Ok (pc + 3) lo st w2 (K w2)) : DX p l e R s m args below meth c G z nL n Z Ok pc lo (.int x :: .ref (z + b) :: st) w (pw b 0 x w K) := fun v h hk => pfX1_9 C d (hp_of (lyBr0 hb)) (Nat.le_of_ble_eq_true rfl) rfl (hup_wu (i := 0) (v := x) (lyBr0 hb) rfl) (k _ v h hk)
theorem dgX9_117 (C : Cx p s m args c G RX9 cc nL z) {b : Nat} (hb : BrO b) (d : decode cc pc = .ok (.getfield 117, 3)) (k : DX p l e R s m args below meth c G z nL n Z Ok (pc + 3) lo (.int (w b 0) :: st) w o) : DX p l e R s m args below meth c G z nL n Z Ok pc lo (.ref (z + b) :: st) w o := fun v h hk => gfX9_117 C d (hp_of (lyBr0 hb)) rfl (k v h hk)
theorem dpX9_117 {x : Int32} {K : Mem → Option α} (C : Cx p s m args c G RX9 cc nL z) {b : Nat} (hb : BrO b) (d : decode cc pc = .ok (.putfield 117, 3)) (k : ∀ w2, DX p l e R s m args below meth c G z nL n Z Ok (pc + 3) lo st w2 (K w2)) : DX p l e R s m args below meth c G z nL n Z Ok pc lo (.int x :: .ref (z + b) :: st) w (pw b 0 x w K) := fun v h hk => pfX9_117 C d (hp_of (lyBr0 hb)) (Nat.le_of_ble_eq_true rfl) rfl (hup_wu (i := 0) (v := x) (lyBr0 hb) rfl) (k _ v h hk)
theorem dgX7_81 (C : Cx p s m args c G RX7 cc nL z) {b : Nat} (hb : BrO b) (d : decode cc pc = .ok (.getfield 81, 3)) (k : DX p l e R s m args below meth c G z nL n Z Ok (pc + 3) lo (.int (w b 0) :: st) w o) : DX p l e R s m args below meth c G z nL n Z Ok pc lo (.ref (z + b) :: st) w o := fun v h hk => gfX7_81 C d (hp_of (lyBr0 hb)) rfl (k v h hk)
theorem dpX7_81 {x : Int32} {K : Mem → Option α} (C : Cx p s m args c G RX7 cc nL z) {b : Nat} (hb : BrO b) (d : decode cc pc = .ok (.putfield 81, 3)) (k : ∀ w2, DX p l e R s m args below meth c G z nL n Z Ok (pc + 3) lo st w2 (K w2)) : DX p l e R s m args below meth c G z nL n Z Ok pc lo (.int x :: .ref (z + b) :: st) w (pw b 0 x w K) := fun v h hk => pfX7_81 C d (hp_of (lyBr0 hb)) (Nat.le_of_ble_eq_true rfl) rfl (hup_wu (i := 0) (v := x) (lyBr0 hb) rfl) (k _ v h hk)
theorem dgX1_15 (C : Cx p s m args c G RX1 cc nL z) {b : Nat} (hb : BrO b) (d : decode cc pc = .ok (.getfield 15, 3)) (k : DX p l e R s m args below meth c G z nL n Z Ok (pc + 3) lo (.int (w b 1) :: st) w o) : DX p l e R s m args below meth c G z nL n Z Ok pc lo (.ref (z + b) :: st) w o := fun v h hk => gfX1_15 C d (hp_of (lyBr0 hb)) rfl (k v h hk)
theorem dpX1_15 {x : Int32} {K : Mem → Option α} (C : Cx p s m args c G RX1 cc nL z) {b : Nat} (hb : BrO b) (d : decode cc pc = .ok (.putfield 15, 3)) (k : ∀ w2, DX p l e R s m args below meth c G z nL n Z Ok (pc + 3) lo st w2 (K w2)) : DX p l e R s m args below meth c G z nL n Z Ok pc lo (.int x :: .ref (z + b) :: st) w (pw b 1 x w K) := fun v h hk => pfX1_15 C d (hp_of (lyBr0 hb)) (Nat.le_of_ble_eq_true rfl) rfl (hup_wu (i := 1) (v := x) (lyBr0 hb) rfl) (k _ v h hk)
theorem dgX9_120 (C : Cx p s m args c G RX9 cc nL z) {b : Nat} (hb : BrO b) (d : decode cc pc = .ok (.getfield 120, 3)) (k : DX p l e R s m args below meth c G z nL n Z Ok (pc + 3) lo (.int (w b 1) :: st) w o) : DX p l e R s m args below meth c G z nL n Z Ok pc lo (.ref (z + b) :: st) w o := fun v h hk => gfX9_120 C d (hp_of (lyBr0 hb)) rfl (k v h hk)
theorem dpX9_120 {x : Int32} {K : Mem → Option α} (C : Cx p s m args c G RX9 cc nL z) {b : Nat} (hb : BrO b) (d : decode cc pc = .ok (.putfield 120, 3)) (k : ∀ w2, DX p l e R s m args below meth c G z nL n Z Ok (pc + 3) lo st w2 (K w2)) : DX p l e R s m args below meth c G z nL n Z Ok pc lo (.int x :: .ref (z + b) :: st) w (pw b 1 x w K) := fun v h hk => pfX9_120 C d (hp_of (lyBr0 hb)) (Nat.le_of_ble_eq_true rfl) rfl (hup_wu (i := 1) (v := x) (lyBr0 hb) rfl) (k _ v h hk)
theorem dgX7_84 (C : Cx p s m args c G RX7 cc nL z) {b : Nat} (hb : BrO b) (d : decode cc pc = .ok (.getfield 84, 3)) (k : DX p l e R s m args below meth c G z nL n Z Ok (pc + 3) lo (.int (w b 1) :: st) w o) : DX p l e R s m args below meth c G z nL n Z Ok pc lo (.ref (z + b) :: st) w o := fun v h hk => gfX7_84 C d (hp_of (lyBr0 hb)) rfl (k v h hk)
theorem dpX7_84 {x : Int32} {K : Mem → Option α} (C : Cx p s m args c G RX7 cc nL z) {b : Nat} (hb : BrO b) (d : decode cc pc = .ok (.putfield 84, 3)) (k : ∀ w2, DX p l e R s m args below meth c G z nL n Z Ok (pc + 3) lo st w2 (K w2)) : DX p l e R s m args below meth c G z nL n Z Ok pc lo (.int x :: .ref (z + b) :: st) w (pw b 1 x w K) := fun v h hk => pfX7_84 C d (hp_of (lyBr0 hb)) (Nat.le_of_ble_eq_true rfl) rfl (hup_wu (i := 1) (v := x) (lyBr0 hb) rfl) (k _ v h hk)
theorem dgX1_18 (C : Cx p s m args c G RX1 cc nL z) {b : Nat} (hb : BrO b) (d : decode cc pc = .ok (.getfield 18, 3)) (k : DX p l e R s m args below meth c G z nL n Z Ok (pc + 3) lo (.int (w b 2) :: st) w o) : DX p l e R s m args below meth c G z nL n Z Ok pc lo (.ref (z + b) :: st) w o := fun v h hk => gfX1_18 C d (hp_of (lyBr0 hb)) rfl (k v h hk)
theorem dpX1_18 {x : Int32} {K : Mem → Option α} (C : Cx p s m args c G RX1 cc nL z) {b : Nat} (hb : BrO b) (d : decode cc pc = .ok (.putfield 18, 3)) (k : ∀ w2, DX p l e R s m args below meth c G z nL n Z Ok (pc + 3) lo st w2 (K w2)) : DX p l e R s m args below meth c G z nL n Z Ok pc lo (.int x :: .ref (z + b) :: st) w (pw b 2 x w K) := fun v h hk => pfX1_18 C d (hp_of (lyBr0 hb)) (Nat.le_of_ble_eq_true rfl) rfl (hup_wu (i := 2) (v := x) (lyBr0 hb) rfl) (k _ v h hk)
theorem dgX8_25 (C : Cx p s m args c G RX8 cc nL z) {b : Nat} (hb : BrO b) (d : decode cc pc = .ok (.getfield 25, 3)) (k : DX p l e R s m args below meth c G z nL n Z Ok (pc + 3) lo (.int (w b 2) :: st) w o) : DX p l e R s m args below meth c G z nL n Z Ok pc lo (.ref (z + b) :: st) w o := fun v h hk => gfX8_25 C d (hp_of (lyBr0 hb)) rfl (k v h hk)
theorem dpX8_25 {x : Int32} {K : Mem → Option α} (C : Cx p s m args c G RX8 cc nL z) {b : Nat} (hb : BrO b) (d : decode cc pc = .ok (.putfield 25, 3)) (k : ∀ w2, DX p l e R s m args below meth c G z nL n Z Ok (pc + 3) lo st w2 (K w2)) : DX p l e R s m args below meth c G z nL n Z Ok pc lo (.int x :: .ref (z + b) :: st) w (pw b 2 x w K) := fun v h hk => pfX8_25 C d (hp_of (lyBr0 hb)) (Nat.le_of_ble_eq_true rfl) rfl (hup_wu (i := 2) (v := x) (lyBr0 hb) rfl) (k _ v h hk)
theorem dgX3_49 (C : Cx p s m args c G RX3 cc nL z) {b : Nat} (hb : BrO b) (d : decode cc pc = .ok (.getfield 49, 3)) (k : DX p l e R s m args below meth c G z nL n Z Ok (pc + 3) lo (.int (w b 2) :: st) w o) : DX p l e R s m args below meth c G z nL n Z Ok pc lo (.ref (z + b) :: st) w o := fun v h hk => gfX3_49 C d (hp_of (lyBr0 hb)) rfl (k v h hk)
theorem dpX3_49 {x : Int32} {K : Mem → Option α} (C : Cx p s m args c G RX3 cc nL z) {b : Nat} (hb : BrO b) (d : decode cc pc = .ok (.putfield 49, 3)) (k : ∀ w2, DX p l e R s m args below meth c G z nL n Z Ok (pc + 3) lo st w2 (K w2)) : DX p l e R s m args below meth c G z nL n Z Ok pc lo (.int x :: .ref (z + b) :: st) w (pw b 2 x w K) := fun v h hk => pfX3_49 C d (hp_of (lyBr0 hb)) (Nat.le_of_ble_eq_true rfl) rfl (hup_wu (i := 2) (v := x) (lyBr0 hb) rfl) (k _ v h hk)
theorem dgX0_27 (C : Cx p s m args c G RX0 cc nL z) {b : Nat} (hb : BrO b) (d : decode cc pc = .ok (.getfield 27, 3)) (k : DX p l e R s m args below meth c G z nL n Z Ok (pc + 3) lo (.int (w b 2) :: st) w o) : DX p l e R s m args below meth c G z nL n Z Ok pc lo (.ref (z + b) :: st) w o := fun v h hk => gfX0_27 C d (hp_of (lyBr0 hb)) rfl (k v h hk)
theorem dpX0_27 {x : Int32} {K : Mem → Option α} (C : Cx p s m args c G RX0 cc nL z) {b : Nat} (hb : BrO b) (d : decode cc pc = .ok (.putfield 27, 3)) (k : ∀ w2, DX p l e R s m args below meth c G z nL n Z Ok (pc + 3) lo st w2 (K w2)) : DX p l e R s m args below meth c G z nL n Z Ok pc lo (.int x :: .ref (z + b) :: st) w (pw b 2 x w K) := fun v h hk => pfX0_27 C d (hp_of (lyBr0 hb)) (Nat.le_of_ble_eq_true rfl) rfl (hup_wu (i := 2) (v := x) (lyBr0 hb) rfl) (k _ v h hk)
theorem dgX2_28 (C : Cx p s m args c G RX2 cc nL z) {b : Nat} (hb : BrO b) (d : decode cc pc = .ok (.getfield 28, 3)) (k : DX p l e R s m args below meth c G z nL n Z Ok (pc + 3) lo (.int (w b 2) :: st) w o) : DX p l e R s m args below meth c G z nL n Z Ok pc lo (.ref (z + b) :: st) w o := fun v h hk => gfX2_28 C d (hp_of (lyBr0 hb)) rfl (k v h hk)
theorem dpX2_28 {x : Int32} {K : Mem → Option α} (C : Cx p s m args c G RX2 cc nL z) {b : Nat} (hb : BrO b) (d : decode cc pc = .ok (.putfield 28, 3)) (k : ∀ w2, DX p l e R s m args below meth c G z nL n Z Ok (pc + 3) lo st w2 (K w2)) : DX p l e R s m args below meth c G z nL n Z Ok pc lo (.int x :: .ref (z + b) :: st) w (pw b 2 x w K) := fun v h hk => pfX2_28 C d (hp_of (lyBr0 hb)) (Nat.le_of_ble_eq_true rfl) rfl (hup_wu (i := 2) (v := x) (lyBr0 hb) rfl) (k _ v h hk)
theorem dgX9_123 (C : Cx p s m args c G RX9 cc nL z) {b : Nat} (hb : BrO b) (d : decode cc pc = .ok (.getfield 123, 3)) (k : DX p l e R s m args below meth c G z nL n Z Ok (pc + 3) lo (.int (w b 2) :: st) w o) : DX p l e R s m args below meth c G z nL n Z Ok pc lo (.ref (z + b) :: st) w o := fun v h hk => gfX9_123 C d (hp_of (lyBr0 hb)) rfl (k v h hk)
theorem dpX9_123 {x : Int32} {K : Mem → Option α} (C : Cx p s m args c G RX9 cc nL z) {b : Nat} (hb : BrO b) (d : decode cc pc = .ok (.putfield 123, 3)) (k : ∀ w2, DX p l e R s m args below meth c G z nL n Z Ok (pc + 3) lo st w2 (K w2)) : DX p l e R s m args below meth c G z nL n Z Ok pc lo (.int x :: .ref (z + b) :: st) w (pw b 2 x w K) := fun v h hk => pfX9_123 C d (hp_of (lyBr0 hb)) (Nat.le_of_ble_eq_true rfl) rfl (hup_wu (i := 2) (v := x) (lyBr0 hb) rfl) (k _ v h hk)
theorem dgX7_68 (C : Cx p s m args c G RX7 cc nL z) {b : Nat} (hb : BrO b) (d : decode cc pc = .ok (.getfield 68, 3)) (k : DX p l e R s m args below meth c G z nL n Z Ok (pc + 3) lo (.int (w b 2) :: st) w o) : DX p l e R s m args below meth c G z nL n Z Ok pc lo (.ref (z + b) :: st) w o := fun v h hk => gfX7_68 C d (hp_of (lyBr0 hb)) rfl (k v h hk)
theorem dpX7_68 {x : Int32} {K : Mem → Option α} (C : Cx p s m args c G RX7 cc nL z) {b : Nat} (hb : BrO b) (d : decode cc pc = .ok (.putfield 68, 3)) (k : ∀ w2, DX p l e R s m args below meth c G z nL n Z Ok (pc + 3) lo st w2 (K w2)) : DX p l e R s m args below meth c G z nL n Z Ok pc lo (.int x :: .ref (z + b) :: st) w (pw b 2 x w K) := fun v h hk => pfX7_68 C d (hp_of (lyBr0 hb)) (Nat.le_of_ble_eq_true rfl) rfl (hup_wu (i := 2) (v := x) (lyBr0 hb) rfl) (k _ v h hk)
theorem dgX1_21 (C : Cx p s m args c G RX1 cc nL z) {b : Nat} (hb : BrO b) (d : decode cc pc = .ok (.getfield 21, 3)) (k : DX p l e R s m args below meth c G z nL n Z Ok (pc + 3) lo (.int (w b 3) :: st) w o) : DX p l e R s m args below meth c G z nL n Z Ok pc lo (.ref (z + b) :: st) w o := fun v h hk => gfX1_21 C d (hp_of (lyBr0 hb)) rfl (k v h hk)
theorem dpX1_21 {x : Int32} {K : Mem → Option α} (C : Cx p s m args c G RX1 cc nL z) {b : Nat} (hb : BrO b) (d : decode cc pc = .ok (.putfield 21, 3)) (k : ∀ w2, DX p l e R s m args below meth c G z nL n Z Ok (pc + 3) lo st w2 (K w2)) : DX p l e R s m args below meth c G z nL n Z Ok pc lo (.int x :: .ref (z + b) :: st) w (pw b 3 x w K) := fun v h hk => pfX1_21 C d (hp_of (lyBr0 hb)) (Nat.le_of_ble_eq_true rfl) rfl (hup_wu (i := 3) (v := x) (lyBr0 hb) rfl) (k _ v h hk)
theorem dgX5_34 (C : Cx p s m args c G RX5 cc nL z) {b : Nat} (hb : BrO b) (d : decode cc pc = .ok (.getfield 34, 3)) (k : DX p l e R s m args below meth c G z nL n Z Ok (pc + 3) lo (.int (w b 3) :: st) w o) : DX p l e R s m args below meth c G z nL n Z Ok pc lo (.ref (z + b) :: st) w o := fun v h hk => gfX5_34 C d (hp_of (lyBr0 hb)) rfl (k v h hk)
theorem dpX5_34 {x : Int32} {K : Mem → Option α} (C : Cx p s m args c G RX5 cc nL z) {b : Nat} (hb : BrO b) (d : decode cc pc = .ok (.putfield 34, 3)) (k : ∀ w2, DX p l e R s m args below meth c G z nL n Z Ok (pc + 3) lo st w2 (K w2)) : DX p l e R s m args below meth c G z nL n Z Ok pc lo (.int x :: .ref (z + b) :: st) w (pw b 3 x w K) := fun v h hk => pfX5_34 C d (hp_of (lyBr0 hb)) (Nat.le_of_ble_eq_true rfl) rfl (hup_wu (i := 3) (v := x) (lyBr0 hb) rfl) (k _ v h hk)
theorem dgX0_15 (C : Cx p s m args c G RX0 cc nL z) {b : Nat} (hb : BrO b) (d : decode cc pc = .ok (.getfield 15, 3)) (k : DX p l e R s m args below meth c G z nL n Z Ok (pc + 3) lo (.int (w b 3) :: st) w o) : DX p l e R s m args below meth c G z nL n Z Ok pc lo (.ref (z + b) :: st) w o := fun v h hk => gfX0_15 C d (hp_of (lyBr0 hb)) rfl (k v h hk)
theorem dpX0_15 {x : Int32} {K : Mem → Option α} (C : Cx p s m args c G RX0 cc nL z) {b : Nat} (hb : BrO b) (d : decode cc pc = .ok (.putfield 15, 3)) (k : ∀ w2, DX p l e R s m args below meth c G z nL n Z Ok (pc + 3) lo st w2 (K w2)) : DX p l e R s m args below meth c G z nL n Z Ok pc lo (.int x :: .ref (z + b) :: st) w (pw b 3 x w K) := fun v h hk => pfX0_15 C d (hp_of (lyBr0 hb)) (Nat.le_of_ble_eq_true rfl) rfl (hup_wu (i := 3) (v := x) (lyBr0 hb) rfl) (k _ v h hk)
theorem dgX3_61 (C : Cx p s m args c G RX3 cc nL z) {b : Nat} (hb : BrO b) (d : decode cc pc = .ok (.getfield 61, 3)) (k : DX p l e R s m args below meth c G z nL n Z Ok (pc + 3) lo (.int (w b 3) :: st) w o) : DX p l e R s m args below meth c G z nL n Z Ok pc lo (.ref (z + b) :: st) w o := fun v h hk => gfX3_61 C d (hp_of (lyBr0 hb)) rfl (k v h hk)
theorem dpX3_61 {x : Int32} {K : Mem → Option α} (C : Cx p s m args c G RX3 cc nL z) {b : Nat} (hb : BrO b) (d : decode cc pc = .ok (.putfield 61, 3)) (k : ∀ w2, DX p l e R s m args below meth c G z nL n Z Ok (pc + 3) lo st w2 (K w2)) : DX p l e R s m args below meth c G z nL n Z Ok pc lo (.int x :: .ref (z + b) :: st) w (pw b 3 x w K) := fun v h hk => pfX3_61 C d (hp_of (lyBr0 hb)) (Nat.le_of_ble_eq_true rfl) rfl (hup_wu (i := 3) (v := x) (lyBr0 hb) rfl) (k _ v h hk)
theorem dgX9_103 (C : Cx p s m args c G RX9 cc nL z) {b : Nat} (hb : BrO b) (d : decode cc pc = .ok (.getfield 103, 3)) (k : DX p l e R s m args below meth c G z nL n Z Ok (pc + 3) lo (.int (w b 3) :: st) w o) : DX p l e R s m args below meth c G z nL n Z Ok pc lo (.ref (z + b) :: st) w o := fun v h hk => gfX9_103 C d (hp_of (lyBr0 hb)) rfl (k v h hk)
theorem dpX9_103 {x : Int32} {K : Mem → Option α} (C : Cx p s m args c G RX9 cc nL z) {b : Nat} (hb : BrO b) (d : decode cc pc = .ok (.putfield 103, 3)) (k : ∀ w2, DX p l e R s m args below meth c G z nL n Z Ok (pc + 3) lo st w2 (K w2)) : DX p l e R s m args below meth c G z nL n Z Ok pc lo (.int x :: .ref (z + b) :: st) w (pw b 3 x w K) := fun v h hk => pfX9_103 C d (hp_of (lyBr0 hb)) (Nat.le_of_ble_eq_true rfl) rfl (hup_wu (i := 3) (v := x) (lyBr0 hb) rfl) (k _ v h hk)
theorem dgX8_53 (C : Cx p s m args c G RX8 cc nL z) {b : Nat} (hb : BrO b) (d : decode cc pc = .ok (.getfield 53, 3)) (k : DX p l e R s m args below meth c G z nL n Z Ok (pc + 3) lo (.int (w b 3) :: st) w o) : DX p l e R s m args below meth c G z nL n Z Ok pc lo (.ref (z + b) :: st) w o := fun v h hk => gfX8_53 C d (hp_of (lyBr0 hb)) rfl (k v h hk)
theorem dpX8_53 {x : Int32} {K : Mem → Option α} (C : Cx p s m args c G RX8 cc nL z) {b : Nat} (hb : BrO b) (d : decode cc pc = .ok (.putfield 53, 3)) (k : ∀ w2, DX p l e R s m args below meth c G z nL n Z Ok (pc + 3) lo st w2 (K w2)) : DX p l e R s m args below meth c G z nL n Z Ok pc lo (.int x :: .ref (z + b) :: st) w (pw b 3 x w K) := fun v h hk => pfX8_53 C d (hp_of (lyBr0 hb)) (Nat.le_of_ble_eq_true rfl) rfl (hup_wu (i := 3) (v := x) (lyBr0 hb) rfl) (k _ v h hk)
theorem dgX7_71 (C : Cx p s m args c G RX7 cc nL z) {b : Nat} (hb : BrO b) (d : decode cc pc = .ok (.getfield 71, 3)) (k : DX p l e R s m args below meth c G z nL n Z Ok (pc + 3) lo (.int (w b 3) :: st) w o) : DX p l e R s m args below meth c G z nL n Z Ok pc lo (.ref (z + b) :: st) w o := fun v h hk => gfX7_71 C d (hp_of (lyBr0 hb)) rfl (k v h hk)
theorem dpX7_71 {x : Int32} {K : Mem → Option α} (C : Cx p s m args c G RX7 cc nL z) {b : Nat} (hb : BrO b) (d : decode cc pc = .ok (.putfield 71, 3)) (k : ∀ w2, DX p l e R s m args below meth c G z nL n Z Ok (pc + 3) lo st w2 (K w2)) : DX p l e R s m args below meth c G z nL n Z Ok pc lo (.int x :: .ref (z + b) :: st) w (pw b 3 x w K) := fun v h hk => pfX7_71 C d (hp_of (lyBr0 hb)) (Nat.le_of_ble_eq_true rfl) rfl (hup_wu (i := 3) (v := x) (lyBr0 hb) rfl) (k _ v h hk)
theorem dgX1_24 (C : Cx p s m args c G RX1 cc nL z) {b : Nat} (hb : BrO b) (d : decode cc pc = .ok (.getfield 24, 3)) (k : DX p l e R s m args below meth c G z nL n Z Ok (pc + 3) lo (.ref (z + (b + 1)) :: st) w o) : DX p l e R s m args below meth c G z nL n Z Ok pc lo (.ref (z + b) :: st) w o := fun v h hk => gfX1_24 C d (hp_of (lyBr0 hb)) rfl (k v h hk)
theorem dgX9_180 (C : Cx p s m args c G RX9 cc nL z) {b : Nat} (hb : BrO b) (d : decode cc pc = .ok (.getfield 180, 3)) (k : DX p l e R s m args below meth c G z nL n Z Ok (pc + 3) lo (.ref (z + (b + 1)) :: st) w o) : DX p l e R s m args below meth c G z nL n Z Ok pc lo (.ref (z + b) :: st) w o := fun v h hk => gfX9_180 C d (hp_of (lyBr0 hb)) rfl (k v h hk)
theorem dgX1_28 (C : Cx p s m args c G RX1 cc nL z) {b : Nat} (hb : BrO b) (d : decode cc pc = .ok (.getfield 28, 3)) (k : DX p l e R s m args below meth c G z nL n Z Ok (pc + 3) lo (.ref (z + (b + 2)) :: st) w o) : DX p l e R s m args below meth c G z nL n Z Ok pc lo (.ref (z + b) :: st) w o := fun v h hk => gfX1_28 C d (hp_of (lyBr0 hb)) rfl (k v h hk)
theorem dgX9_184 (C : Cx p s m args c G RX9 cc nL z) {b : Nat} (hb : BrO b) (d : decode cc pc = .ok (.getfield 184, 3)) (k : DX p l e R s m args below meth c G z nL n Z Ok (pc + 3) lo (.ref (z + (b + 2)) :: st) w o) : DX p l e R s m args below meth c G z nL n Z Ok pc lo (.ref (z + b) :: st) w o := fun v h hk => gfX9_184 C d (hp_of (lyBr0 hb)) rfl (k v h hk)
theorem dgX3_95 (C : Cx p s m args c G RX3 cc nL z) {b : Nat} (hb : BrO b) (d : decode cc pc = .ok (.getfield 95, 3)) (k : DX p l e R s m args below meth c G z nL n Z Ok (pc + 3) lo (.ref (z + (b + 2)) :: st) w o) : DX p l e R s m args below meth c G z nL n Z Ok pc lo (.ref (z + b) :: st) w o := fun v h hk => gfX3_95 C d (hp_of (lyBr0 hb)) rfl (k v h hk)
theorem dgX1_31 (C : Cx p s m args c G RX1 cc nL z) {b : Nat} (hb : BrO b) (d : decode cc pc = .ok (.getfield 31, 3)) (k : DX p l e R s m args below meth c G z nL n Z Ok (pc + 3) lo (.ref (z + (b + 3)) :: st) w o) : DX p l e R s m args below meth c G z nL n Z Ok pc lo (.ref (z + b) :: st) w o := fun v h hk => gfX1_31 C d (hp_of (lyBr0 hb)) rfl (k v h hk)
theorem dgX9_196 (C : Cx p s m args c G RX9 cc nL z) {b : Nat} (hb : BrO b) (d : decode cc pc = .ok (.getfield 196, 3)) (k : DX p l e R s m args below meth c G z nL n Z Ok (pc + 3) lo (.ref (z + (b + 3)) :: st) w o) : DX p l e R s m args below meth c G z nL n Z Ok pc lo (.ref (z + b) :: st) w o := fun v h hk => gfX9_196 C d (hp_of (lyBr0 hb)) rfl (k v h hk)
theorem dgX1_34 (C : Cx p s m args c G RX1 cc nL z) {b : Nat} (hb : BrO b) (d : decode cc pc = .ok (.getfield 34, 3)) (k : DX p l e R s m args below meth c G z nL n Z Ok (pc + 3) lo (.ref (z + (b + 4)) :: st) w o) : DX p l e R s m args below meth c G z nL n Z Ok pc lo (.ref (z + b) :: st) w o := fun v h hk => gfX1_34 C d (hp_of (lyBr0 hb)) rfl (k v h hk)
theorem dgX9_199 (C : Cx p s m args c G RX9 cc nL z) {b : Nat} (hb : BrO b) (d : decode cc pc = .ok (.getfield 199, 3)) (k : DX p l e R s m args below meth c G z nL n Z Ok (pc + 3) lo (.ref (z + (b + 4)) :: st) w o) : DX p l e R s m args below meth c G z nL n Z Ok pc lo (.ref (z + b) :: st) w o := fun v h hk => gfX9_199 C d (hp_of (lyBr0 hb)) rfl (k v h hk)
theorem dgX1_37 (C : Cx p s m args c G RX1 cc nL z) {b : Nat} (hb : BrO b) (d : decode cc pc = .ok (.getfield 37, 3)) (k : DX p l e R s m args below meth c G z nL n Z Ok (pc + 3) lo (.ref (z + (b + 5)) :: st) w o) : DX p l e R s m args below meth c G z nL n Z Ok pc lo (.ref (z + b) :: st) w o := fun v h hk => gfX1_37 C d (hp_of (lyBr0 hb)) rfl (k v h hk)
theorem dgX9_202 (C : Cx p s m args c G RX9 cc nL z) {b : Nat} (hb : BrO b) (d : decode cc pc = .ok (.getfield 202, 3)) (k : DX p l e R s m args below meth c G z nL n Z Ok (pc + 3) lo (.ref (z + (b + 5)) :: st) w o) : DX p l e R s m args below meth c G z nL n Z Ok pc lo (.ref (z + b) :: st) w o := fun v h hk => gfX9_202 C d (hp_of (lyBr0 hb)) rfl (k v h hk)
theorem dgX3_110 (C : Cx p s m args c G RX3 cc nL z) {b : Nat} (hb : BrO b) (d : decode cc pc = .ok (.getfield 110, 3)) (k : DX p l e R s m args below meth c G z nL n Z Ok (pc + 3) lo (.ref (z + (b + 5)) :: st) w o) : DX p l e R s m args below meth c G z nL n Z Ok pc lo (.ref (z + b) :: st) w o := fun v h hk => gfX3_110 C d (hp_of (lyBr0 hb)) rfl (k v h hk)
theorem dgX1_40 (C : Cx p s m args c G RX1 cc nL z) {b : Nat} (hb : BrO b) (d : decode cc pc = .ok (.getfield 40, 3)) (k : DX p l e R s m args below meth c G z nL n Z Ok (pc + 3) lo (.ref (z + (b + 6)) :: st) w o) : DX p l e R s m args below meth c G z nL n Z Ok pc lo (.ref (z + b) :: st) w o := fun v h hk => gfX1_40 C d (hp_of (lyBr0 hb)) rfl (k v h hk)
theorem dgX8_41 (C : Cx p s m args c G RX8 cc nL z) {b : Nat} (hb : BrO b) (d : decode cc pc = .ok (.getfield 41, 3)) (k : DX p l e R s m args below meth c G z nL n Z Ok (pc + 3) lo (.ref (z + (b + 6)) :: st) w o) : DX p l e R s m args below meth c G z nL n Z Ok pc lo (.ref (z + b) :: st) w o := fun v h hk => gfX8_41 C d (hp_of (lyBr0 hb)) rfl (k v h hk)
theorem dgX4_10 (C : Cx p s m args c G RX4 cc nL z) {b : Nat} (hb : ImO b) (d : decode cc pc = .ok (.getfield 10, 3)) (k : DX p l e R s m args below meth c G z nL n Z Ok (pc + 3) lo (.ref (z + (b + 1)) :: st) w o) : DX p l e R s m args below meth c G z nL n Z Ok pc lo (.ref (z + b) :: st) w o := fun v h hk => gfX4_10 C d (hp_of (lyIm0 hb)) rfl (k v h hk)
theorem dgX9_327 (C : Cx p s m args c G RX9 cc nL z) {b : Nat} (hb : ImO b) (d : decode cc pc = .ok (.getfield 327, 3)) (k : DX p l e R s m args below meth c G z nL n Z Ok (pc + 3) lo (.ref (z + (b + 1)) :: st) w o) : DX p l e R s m args below meth c G z nL n Z Ok pc lo (.ref (z + b) :: st) w o := fun v h hk => gfX9_327 C d (hp_of (lyIm0 hb)) rfl (k v h hk)
theorem dgX4_16 (C : Cx p s m args c G RX4 cc nL z) {b : Nat} (hb : ImO b) (d : decode cc pc = .ok (.getfield 16, 3)) (k : DX p l e R s m args below meth c G z nL n Z Ok (pc + 3) lo (.int (w b 1) :: st) w o) : DX p l e R s m args below meth c G z nL n Z Ok pc lo (.ref (z + b) :: st) w o := fun v h hk => gfX4_16 C d (hp_of (lyIm0 hb)) rfl (k v h hk)
theorem dpX4_16 {x : Int32} {K : Mem → Option α} (C : Cx p s m args c G RX4 cc nL z) {b : Nat} (hb : ImO b) (d : decode cc pc = .ok (.putfield 16, 3)) (k : ∀ w2, DX p l e R s m args below meth c G z nL n Z Ok (pc + 3) lo st w2 (K w2)) : DX p l e R s m args below meth c G z nL n Z Ok pc lo (.int x :: .ref (z + b) :: st) w (pw b 1 x w K) := fun v h hk => pfX4_16 C d (hp_of (lyIm0 hb)) (Nat.le_of_ble_eq_true rfl) rfl (hup_wu (i := 1) (v := x) (lyIm0 hb) rfl) (k _ v h hk)
theorem dgX9_331 (C : Cx p s m args c G RX9 cc nL z) {b : Nat} (hb : ImO b) (d : decode cc pc = .ok (.getfield 331, 3)) (k : DX p l e R s m args below meth c G z nL n Z Ok (pc + 3) lo (.int (w b 1) :: st) w o) : DX p l e R s m args below meth c G z nL n Z Ok pc lo (.ref (z + b) :: st) w o := fun v h hk => gfX9_331 C d (hp_of (lyIm0 hb)) rfl (k v h hk)
theorem dpX9_331 {x : Int32} {K : Mem → Option α} (C : Cx p s m args c G RX9 cc nL z) {b : Nat} (hb : ImO b) (d : decode cc pc = .ok (.putfield 331, 3)) (k : ∀ w2, DX p l e R s m args below meth c G z nL n Z Ok (pc + 3) lo st w2 (K w2)) : DX p l e R s m args below meth c G z nL n Z Ok pc lo (.int x :: .ref (z + b) :: st) w (pw b 1 x w K) := fun v h hk => pfX9_331 C d (hp_of (lyIm0 hb)) (Nat.le_of_ble_eq_true rfl) rfl (hup_wu (i := 1) (v := x) (lyIm0 hb) rfl) (k _ v h hk)
theorem dgX4_20 (C : Cx p s m args c G RX4 cc nL z) {b : Nat} (hb : ImO b) (d : decode cc pc = .ok (.getfield 20, 3)) (k : DX p l e R s m args below meth c G z nL n Z Ok (pc + 3) lo (.int (w b 2) :: st) w o) : DX p l e R s m args below meth c G z nL n Z Ok pc lo (.ref (z + b) :: st) w o := fun v h hk => gfX4_20 C d (hp_of (lyIm0 hb)) rfl (k v h hk)
theorem dpX4_20 {x : Int32} {K : Mem → Option α} (C : Cx p s m args c G RX4 cc nL z) {b : Nat} (hb : ImO b) (d : decode cc pc = .ok (.putfield 20, 3)) (hb1 : narrow .boolean (.int x) = .int x) (hb2 : fits .boolean (.int x) = true) (k : ∀ w2, DX p l e R s m args below meth c G z nL n Z Ok (pc + 3) lo st w2 (K w2)) : DX p l e R s m args below meth c G z nL n Z Ok pc lo (.int x :: .ref (z + b) :: st) w (pw b 2 x w K) := fun v h hk => pfX4_20 C d hb1 hb2 (hp_of (lyIm0 hb)) (Nat.le_of_ble_eq_true rfl) rfl (hup_wu (i := 2) (v := x) (lyIm0 hb) rfl) (k _ v h hk)
theorem dgX9_113 (C : Cx p s m args c G RX9 cc nL z) {b : Nat} (hb : ImO b) (d : decode cc pc = .ok (.getfield 113, 3)) (k : DX p l e R s m args below meth c G z nL n Z Ok (pc + 3) lo (.int (w b 2) :: st) w o) : DX p l e R s m args below meth c G z nL n Z Ok pc lo (.ref (z + b) :: st) w o := fun v h hk => gfX9_113 C d (hp_of (lyIm0 hb)) rfl (k v h hk)
theorem dpX9_113 {x : Int32} {K : Mem → Option α} (C : Cx p s m args c G RX9 cc nL z) {b : Nat} (hb : ImO b) (d : decode cc pc = .ok (.putfield 113, 3)) (hb1 : narrow .boolean (.int x) = .int x) (hb2 : fits .boolean (.int x) = true) (k : ∀ w2, DX p l e R s m args below meth c G z nL n Z Ok (pc + 3) lo st w2 (K w2)) : DX p l e R s m args below meth c G z nL n Z Ok pc lo (.int x :: .ref (z + b) :: st) w (pw b 2 x w K) := fun v h hk => pfX9_113 C d hb1 hb2 (hp_of (lyIm0 hb)) (Nat.le_of_ble_eq_true rfl) rfl (hup_wu (i := 2) (v := x) (lyIm0 hb) rfl) (k _ v h hk)
theorem dgX9_10 (C : Cx p s m args c G RX9 cc nL z) (d : decode cc pc = .ok (.getfield 10, 3)) (k : DX p l e R s m args below meth c G z nL n Z Ok (pc + 3) lo (.ref (z + 1) :: st) w o) : DX p l e R s m args below meth c G z nL n Z Ok pc lo (.ref (z + 0) :: st) w o := fun v h hk => gfX9_10 C d (hp_of ly_0) rfl (k v h hk)
theorem dgX9_19 (C : Cx p s m args c G RX9 cc nL z) (d : decode cc pc = .ok (.getfield 19, 3)) (k : DX p l e R s m args below meth c G z nL n Z Ok (pc + 3) lo (.ref (z + 3) :: st) w o) : DX p l e R s m args below meth c G z nL n Z Ok pc lo (.ref (z + 0) :: st) w o := fun v h hk => gfX9_19 C d (hp_of ly_0) rfl (k v h hk)
theorem dgX9_26 (C : Cx p s m args c G RX9 cc nL z) (d : decode cc pc = .ok (.getfield 26, 3)) (k : DX p l e R s m args below meth c G z nL n Z Ok (pc + 3) lo (.ref (z + 6) :: st) w o) : DX p l e R s m args below meth c G z nL n Z Ok pc lo (.ref (z + 0) :: st) w o := fun v h hk => gfX9_26 C d (hp_of ly_0) rfl (k v h hk)
theorem dgX9_32 (C : Cx p s m args c G RX9 cc nL z) (d : decode cc pc = .ok (.getfield 32, 3)) (k : DX p l e R s m args below meth c G z nL n Z Ok (pc + 3) lo (.ref (z + 98) :: st) w o) : DX p l e R s m args below meth c G z nL n Z Ok pc lo (.ref (z + 0) :: st) w o := fun v h hk => gfX9_32 C d (hp_of ly_0) rfl (k v h hk)
theorem dgX9_39 (C : Cx p s m args c G RX9 cc nL z) (d : decode cc pc = .ok (.getfield 39, 3)) (k : DX p l e R s m args below meth c G z nL n Z Ok (pc + 3) lo (.ref (z + 99) :: st) w o) : DX p l e R s m args below meth c G z nL n Z Ok pc lo (.ref (z + 0) :: st) w o := fun v h hk => gfX9_39 C d (hp_of ly_0) rfl (k v h hk)
theorem dgX9_46 (C : Cx p s m args c G RX9 cc nL z) (d : decode cc pc = .ok (.getfield 46, 3)) (k : DX p l e R s m args below meth c G z nL n Z Ok (pc + 3) lo (.ref (z + 101) :: st) w o) : DX p l e R s m args below meth c G z nL n Z Ok pc lo (.ref (z + 0) :: st) w o := fun v h hk => gfX9_46 C d (hp_of ly_0) rfl (k v h hk)
theorem dgX9_55 (C : Cx p s m args c G RX9 cc nL z) (d : decode cc pc = .ok (.getfield 55, 3)) (k : DX p l e R s m args below meth c G z nL n Z Ok (pc + 3) lo (.ref (z + 106) :: st) w o) : DX p l e R s m args below meth c G z nL n Z Ok pc lo (.ref (z + 0) :: st) w o := fun v h hk => gfX9_55 C d (hp_of ly_0) rfl (k v h hk)
theorem dgX9_59 (C : Cx p s m args c G RX9 cc nL z) (d : decode cc pc = .ok (.getfield 59, 3)) (k : DX p l e R s m args below meth c G z nL n Z Ok (pc + 3) lo (.ref (z + 109) :: st) w o) : DX p l e R s m args below meth c G z nL n Z Ok pc lo (.ref (z + 0) :: st) w o := fun v h hk => gfX9_59 C d (hp_of ly_0) rfl (k v h hk)
theorem dgX9_65 (C : Cx p s m args c G RX9 cc nL z) (d : decode cc pc = .ok (.getfield 65, 3)) (k : DX p l e R s m args below meth c G z nL n Z Ok (pc + 3) lo (.ref (z + brp (w 0 8)) :: st) w o) : DX p l e R s m args below meth c G z nL n Z Ok pc lo (.ref (z + 0) :: st) w o := fun v h hk => gfX9_65 C d (hp_of ly_0) rfl (k v h hk)
theorem dpX9_65 {x : Nat} {K : Mem → Option α} (C : Cx p s m args c G RX9 cc nL z) (d : decode cc pc = .ok (.putfield 65, 3)) (k : ∀ w2, DX p l e R s m args below meth c G z nL n Z Ok (pc + 3) lo st w2 (K w2)) : DX p l e R s m args below meth c G z nL n Z Ok pc lo (.ref (z + x) :: .ref (z + 0) :: st) w (pr 0 8 x w K) := by
  intro v h hk
  unfold pr at h
  by_cases hb : x = 112 ∨ x = 119
  · rw [if_pos hb] at h
    refine pfX9_65 C d (hp_of ly_0) (Nat.le_of_ble_eq_true rfl) rfl (hup_wu (i := 8) (v := if x = 112 then 0 else 1) ly_0 ?_) (k _ v h hk)
    rcases hb with rfl | rfl <;> rfl
  · rw [if_neg hb] at h; cases h
theorem dgX9_69 (C : Cx p s m args c G RX9 cc nL z) (d : decode cc pc = .ok (.getfield 69, 3)) (k : DX p l e R s m args below meth c G z nL n Z Ok (pc + 3) lo (.ref (z + brp (w 0 9)) :: st) w o) : DX p l e R s m args below meth c G z nL n Z Ok pc lo (.ref (z + 0) :: st) w o := fun v h hk => gfX9_69 C d (hp_of ly_0) rfl (k v h hk)
theorem dpX9_69 {x : Nat} {K : Mem → Option α} (C : Cx p s m args c G RX9 cc nL z) (d : decode cc pc = .ok (.putfield 69, 3)) (k : ∀ w2, DX p l e R s m args below meth c G z nL n Z Ok (pc + 3) lo st w2 (K w2)) : DX p l e R s m args below meth c G z nL n Z Ok pc lo (.ref (z + x) :: .ref (z + 0) :: st) w (pr 0 9 x w K) := by
  intro v h hk
  unfold pr at h
  by_cases hb : x = 112 ∨ x = 119
  · rw [if_pos hb] at h
    refine pfX9_69 C d (hp_of ly_0) (Nat.le_of_ble_eq_true rfl) rfl (hup_wu (i := 9) (v := if x = 112 then 0 else 1) ly_0 ?_) (k _ v h hk)
    rcases hb with rfl | rfl <;> rfl
  · rw [if_neg hb] at h; cases h
theorem dgX9_72 (C : Cx p s m args c G RX9 cc nL z) (d : decode cc pc = .ok (.getfield 72, 3)) (k : DX p l e R s m args below meth c G z nL n Z Ok (pc + 3) lo (.int (w 0 10) :: st) w o) : DX p l e R s m args below meth c G z nL n Z Ok pc lo (.ref (z + 0) :: st) w o := fun v h hk => gfX9_72 C d (hp_of ly_0) rfl (k v h hk)
theorem dpX9_72 {x : Int32} {K : Mem → Option α} (C : Cx p s m args c G RX9 cc nL z) (d : decode cc pc = .ok (.putfield 72, 3)) (k : ∀ w2, DX p l e R s m args below meth c G z nL n Z Ok (pc + 3) lo st w2 (K w2)) : DX p l e R s m args below meth c G z nL n Z Ok pc lo (.int x :: .ref (z + 0) :: st) w (pw 0 10 x w K) := fun v h hk => pfX9_72 C d (hp_of ly_0) (Nat.le_of_ble_eq_true rfl) rfl (hup_wu (i := 10) (v := x) ly_0 rfl) (k _ v h hk)
theorem dgX9_76 (C : Cx p s m args c G RX9 cc nL z) (d : decode cc pc = .ok (.getfield 76, 3)) (k : DX p l e R s m args below meth c G z nL n Z Ok (pc + 3) lo (.int (w 0 11) :: st) w o) : DX p l e R s m args below meth c G z nL n Z Ok pc lo (.ref (z + 0) :: st) w o := fun v h hk => gfX9_76 C d (hp_of ly_0) rfl (k v h hk)
theorem dpX9_76 {x : Int32} {K : Mem → Option α} (C : Cx p s m args c G RX9 cc nL z) (d : decode cc pc = .ok (.putfield 76, 3)) (k : ∀ w2, DX p l e R s m args below meth c G z nL n Z Ok (pc + 3) lo st w2 (K w2)) : DX p l e R s m args below meth c G z nL n Z Ok pc lo (.int x :: .ref (z + 0) :: st) w (pw 0 11 x w K) := fun v h hk => pfX9_76 C d (hp_of ly_0) (Nat.le_of_ble_eq_true rfl) rfl (hup_wu (i := 11) (v := x) ly_0 rfl) (k _ v h hk)
theorem dgX10_87 (C : Cx p s m args c G RX10 cc nL z) (d : decode cc pc = .ok (.getfield 87, 3)) (k : DX p l e R s m args below meth c G z nL n Z Ok (pc + 3) lo (.int (w 134 0) :: st) w o) : DX p l e R s m args below meth c G z nL n Z Ok pc lo (.ref (z + 134) :: st) w o := fun v h hk => gfX10_87 C d (hp_of ly_134) rfl (k v h hk)
theorem dpX10_87 {x : Int32} {K : Mem → Option α} (C : Cx p s m args c G RX10 cc nL z) (d : decode cc pc = .ok (.putfield 87, 3)) (k : ∀ w2, DX p l e R s m args below meth c G z nL n Z Ok (pc + 3) lo st w2 (K w2)) : DX p l e R s m args below meth c G z nL n Z Ok pc lo (.int x :: .ref (z + 134) :: st) w (pw 134 0 x w K) := fun v h hk => pfX10_87 C d (hp_of ly_134) (Nat.le_of_ble_eq_true rfl) rfl (hup_wu (i := 0) (v := x) ly_134 rfl) (k _ v h hk)
theorem dgX10_7 (C : Cx p s m args c G RX10 cc nL z) (d : decode cc pc = .ok (.getfield 7, 3)) (k : DX p l e R s m args below meth c G z nL n Z Ok (pc + 3) lo (.ref (z + 135) :: st) w o) : DX p l e R s m args below meth c G z nL n Z Ok pc lo (.ref (z + 134) :: st) w o := fun v h hk => gfX10_7 C d (hp_of ly_134) rfl (k v h hk)
theorem dgX10_91 (C : Cx p s m args c G RX10 cc nL z) (d : decode cc pc = .ok (.getfield 91, 3)) (k : DX p l e R s m args below meth c G z nL n Z Ok (pc + 3) lo (.int (w 134 2) :: st) w o) : DX p l e R s m args below meth c G z nL n Z Ok pc lo (.ref (z + 134) :: st) w o := fun v h hk => gfX10_91 C d (hp_of ly_134) rfl (k v h hk)
theorem dpX10_91 {x : Int32} {K : Mem → Option α} (C : Cx p s m args c G RX10 cc nL z) (d : decode cc pc = .ok (.putfield 91, 3)) (k : ∀ w2, DX p l e R s m args below meth c G z nL n Z Ok (pc + 3) lo st w2 (K w2)) : DX p l e R s m args below meth c G z nL n Z Ok pc lo (.int x :: .ref (z + 134) :: st) w (pw 134 2 x w K) := fun v h hk => pfX10_91 C d (hp_of ly_134) (Nat.le_of_ble_eq_true rfl) rfl (hup_wu (i := 2) (v := x) ly_134 rfl) (k _ v h hk)
theorem dgX10_109 (C : Cx p s m args c G RX10 cc nL z) (d : decode cc pc = .ok (.getfield 109, 3)) (k : DX p l e R s m args below meth c G z nL n Z Ok (pc + 3) lo (.int (w 134 3) :: st) w o) : DX p l e R s m args below meth c G z nL n Z Ok pc lo (.ref (z + 134) :: st) w o := fun v h hk => gfX10_109 C d (hp_of ly_134) rfl (k v h hk)
theorem dpX10_109 {x : Int32} {K : Mem → Option α} (C : Cx p s m args c G RX10 cc nL z) (d : decode cc pc = .ok (.putfield 109, 3)) (k : ∀ w2, DX p l e R s m args below meth c G z nL n Z Ok (pc + 3) lo st w2 (K w2)) : DX p l e R s m args below meth c G z nL n Z Ok pc lo (.int x :: .ref (z + 134) :: st) w (pw 134 3 x w K) := fun v h hk => pfX10_109 C d (hp_of ly_134) (Nat.le_of_ble_eq_true rfl) rfl (hup_wu (i := 3) (v := x) ly_134 rfl) (k _ v h hk)
theorem dgX10_98 (C : Cx p s m args c G RX10 cc nL z) (d : decode cc pc = .ok (.getfield 98, 3)) (k : DX p l e R s m args below meth c G z nL n Z Ok (pc + 3) lo (.int (w 134 4) :: st) w o) : DX p l e R s m args below meth c G z nL n Z Ok pc lo (.ref (z + 134) :: st) w o := fun v h hk => gfX10_98 C d (hp_of ly_134) rfl (k v h hk)
theorem dpX10_98 {x : Int32} {K : Mem → Option α} (C : Cx p s m args c G RX10 cc nL z) (d : decode cc pc = .ok (.putfield 98, 3)) (k : ∀ w2, DX p l e R s m args below meth c G z nL n Z Ok (pc + 3) lo st w2 (K w2)) : DX p l e R s m args below meth c G z nL n Z Ok pc lo (.int x :: .ref (z + 134) :: st) w (pw 134 4 x w K) := fun v h hk => pfX10_98 C d (hp_of ly_134) (Nat.le_of_ble_eq_true rfl) rfl (hup_wu (i := 4) (v := x) ly_134 rfl) (k _ v h hk)
theorem dgX10_13 (C : Cx p s m args c G RX10 cc nL z) (d : decode cc pc = .ok (.getfield 13, 3)) (k : DX p l e R s m args below meth c G z nL n Z Ok (pc + 3) lo (.int (w 134 5) :: st) w o) : DX p l e R s m args below meth c G z nL n Z Ok pc lo (.ref (z + 134) :: st) w o := fun v h hk => gfX10_13 C d (hp_of ly_134) rfl (k v h hk)
theorem dpX10_13 {x : Int32} {K : Mem → Option α} (C : Cx p s m args c G RX10 cc nL z) (d : decode cc pc = .ok (.putfield 13, 3)) (k : ∀ w2, DX p l e R s m args below meth c G z nL n Z Ok (pc + 3) lo st w2 (K w2)) : DX p l e R s m args below meth c G z nL n Z Ok pc lo (.int x :: .ref (z + 134) :: st) w (pw 134 5 x w K) := fun v h hk => pfX10_13 C d (hp_of ly_134) (Nat.le_of_ble_eq_true rfl) rfl (hup_wu (i := 5) (v := x) ly_134 rfl) (k _ v h hk)
theorem dgX10_115 (C : Cx p s m args c G RX10 cc nL z) (d : decode cc pc = .ok (.getfield 115, 3)) (k : DX p l e R s m args below meth c G z nL n Z Ok (pc + 3) lo (.int (w 134 6) :: st) w o) : DX p l e R s m args below meth c G z nL n Z Ok pc lo (.ref (z + 134) :: st) w o := fun v h hk => gfX10_115 C d (hp_of ly_134) rfl (k v h hk)
theorem dpX10_115 {x : Int32} {K : Mem → Option α} (C : Cx p s m args c G RX10 cc nL z) (d : decode cc pc = .ok (.putfield 115, 3)) (k : ∀ w2, DX p l e R s m args below meth c G z nL n Z Ok (pc + 3) lo st w2 (K w2)) : DX p l e R s m args below meth c G z nL n Z Ok pc lo (.int x :: .ref (z + 134) :: st) w (pw 134 6 x w K) := fun v h hk => pfX10_115 C d (hp_of ly_134) (Nat.le_of_ble_eq_true rfl) rfl (hup_wu (i := 6) (v := x) ly_134 rfl) (k _ v h hk)
theorem dgX10_118 (C : Cx p s m args c G RX10 cc nL z) (d : decode cc pc = .ok (.getfield 118, 3)) (k : DX p l e R s m args below meth c G z nL n Z Ok (pc + 3) lo (.int (w 134 7) :: st) w o) : DX p l e R s m args below meth c G z nL n Z Ok pc lo (.ref (z + 134) :: st) w o := fun v h hk => gfX10_118 C d (hp_of ly_134) rfl (k v h hk)
theorem dpX10_118 {x : Int32} {K : Mem → Option α} (C : Cx p s m args c G RX10 cc nL z) (d : decode cc pc = .ok (.putfield 118, 3)) (k : ∀ w2, DX p l e R s m args below meth c G z nL n Z Ok (pc + 3) lo st w2 (K w2)) : DX p l e R s m args below meth c G z nL n Z Ok pc lo (.int x :: .ref (z + 134) :: st) w (pw 134 7 x w K) := fun v h hk => pfX10_118 C d (hp_of ly_134) (Nat.le_of_ble_eq_true rfl) rfl (hup_wu (i := 7) (v := x) ly_134 rfl) (k _ v h hk)
theorem dgX10_125 (C : Cx p s m args c G RX10 cc nL z) (d : decode cc pc = .ok (.getfield 125, 3)) (k : DX p l e R s m args below meth c G z nL n Z Ok (pc + 3) lo (.int (w 134 8) :: st) w o) : DX p l e R s m args below meth c G z nL n Z Ok pc lo (.ref (z + 134) :: st) w o := fun v h hk => gfX10_125 C d (hp_of ly_134) rfl (k v h hk)
theorem dpX10_125 {x : Int32} {K : Mem → Option α} (C : Cx p s m args c G RX10 cc nL z) (d : decode cc pc = .ok (.putfield 125, 3)) (k : ∀ w2, DX p l e R s m args below meth c G z nL n Z Ok (pc + 3) lo st w2 (K w2)) : DX p l e R s m args below meth c G z nL n Z Ok pc lo (.int x :: .ref (z + 134) :: st) w (pw 134 8 x w K) := fun v h hk => pfX10_125 C d (hp_of ly_134) (Nat.le_of_ble_eq_true rfl) rfl (hup_wu (i := 8) (v := x) ly_134 rfl) (k _ v h hk)
theorem dgX10_128 (C : Cx p s m args c G RX10 cc nL z) (d : decode cc pc = .ok (.getfield 128, 3)) (k : DX p l e R s m args below meth c G z nL n Z Ok (pc + 3) lo (.int (w 134 9) :: st) w o) : DX p l e R s m args below meth c G z nL n Z Ok pc lo (.ref (z + 134) :: st) w o := fun v h hk => gfX10_128 C d (hp_of ly_134) rfl (k v h hk)
theorem dpX10_128 {x : Int32} {K : Mem → Option α} (C : Cx p s m args c G RX10 cc nL z) (d : decode cc pc = .ok (.putfield 128, 3)) (k : ∀ w2, DX p l e R s m args below meth c G z nL n Z Ok (pc + 3) lo st w2 (K w2)) : DX p l e R s m args below meth c G z nL n Z Ok pc lo (.int x :: .ref (z + 134) :: st) w (pw 134 9 x w K) := fun v h hk => pfX10_128 C d (hp_of ly_134) (Nat.le_of_ble_eq_true rfl) rfl (hup_wu (i := 9) (v := x) ly_134 rfl) (k _ v h hk)
theorem dgX10_17 (C : Cx p s m args c G RX10 cc nL z) (d : decode cc pc = .ok (.getfield 17, 3)) (k : DX p l e R s m args below meth c G z nL n Z Ok (pc + 3) lo (.ref (z + 136) :: st) w o) : DX p l e R s m args below meth c G z nL n Z Ok pc lo (.ref (z + 134) :: st) w o := fun v h hk => gfX10_17 C d (hp_of ly_134) rfl (k v h hk)
theorem dgX10_20 (C : Cx p s m args c G RX10 cc nL z) (d : decode cc pc = .ok (.getfield 20, 3)) (k : DX p l e R s m args below meth c G z nL n Z Ok (pc + 3) lo (.ref (z + 137) :: st) w o) : DX p l e R s m args below meth c G z nL n Z Ok pc lo (.ref (z + 134) :: st) w o := fun v h hk => gfX10_20 C d (hp_of ly_134) rfl (k v h hk)
theorem dgX10_23 (C : Cx p s m args c G RX10 cc nL z) (d : decode cc pc = .ok (.getfield 23, 3)) (k : DX p l e R s m args below meth c G z nL n Z Ok (pc + 3) lo (.ref (z + 138) :: st) w o) : DX p l e R s m args below meth c G z nL n Z Ok pc lo (.ref (z + 134) :: st) w o := fun v h hk => gfX10_23 C d (hp_of ly_134) rfl (k v h hk)
theorem dgX10_26 (C : Cx p s m args c G RX10 cc nL z) (d : decode cc pc = .ok (.getfield 26, 3)) (k : DX p l e R s m args below meth c G z nL n Z Ok (pc + 3) lo (.ref (z + 139) :: st) w o) : DX p l e R s m args below meth c G z nL n Z Ok pc lo (.ref (z + 134) :: st) w o := fun v h hk => gfX10_26 C d (hp_of ly_134) rfl (k v h hk)
theorem dgX10_29 (C : Cx p s m args c G RX10 cc nL z) (d : decode cc pc = .ok (.getfield 29, 3)) (k : DX p l e R s m args below meth c G z nL n Z Ok (pc + 3) lo (.ref (z + 140) :: st) w o) : DX p l e R s m args below meth c G z nL n Z Ok pc lo (.ref (z + 134) :: st) w o := fun v h hk => gfX10_29 C d (hp_of ly_134) rfl (k v h hk)
theorem dgX10_147 (C : Cx p s m args c G RX10 cc nL z) (d : decode cc pc = .ok (.getfield 147, 3)) (k : DX p l e R s m args below meth c G z nL n Z Ok (pc + 3) lo (.int (w 134 15) :: st) w o) : DX p l e R s m args below meth c G z nL n Z Ok pc lo (.ref (z + 134) :: st) w o := fun v h hk => gfX10_147 C d (hp_of ly_134) rfl (k v h hk)
theorem dpX10_147 {x : Int32} {K : Mem → Option α} (C : Cx p s m args c G RX10 cc nL z) (d : decode cc pc = .ok (.putfield 147, 3)) (k : ∀ w2, DX p l e R s m args below meth c G z nL n Z Ok (pc + 3) lo st w2 (K w2)) : DX p l e R s m args below meth c G z nL n Z Ok pc lo (.int x :: .ref (z + 134) :: st) w (pw 134 15 x w K) := fun v h hk => pfX10_147 C d (hp_of ly_134) (Nat.le_of_ble_eq_true rfl) rfl (hup_wu (i := 15) (v := x) ly_134 rfl) (k _ v h hk)
theorem dgX10_150 (C : Cx p s m args c G RX10 cc nL z) (d : decode cc pc = .ok (.getfield 150, 3)) (k : DX p l e R s m args below meth c G z nL n Z Ok (pc + 3) lo (.int (w 134 16) :: st) w o) : DX p l e R s m args below meth c G z nL n Z Ok pc lo (.ref (z + 134) :: st) w o := fun v h hk => gfX10_150 C d (hp_of ly_134) rfl (k v h hk)
theorem dpX10_150 {x : Int32} {K : Mem → Option α} (C : Cx p s m args c G RX10 cc nL z) (d : decode cc pc = .ok (.putfield 150, 3)) (k : ∀ w2, DX p l e R s m args below meth c G z nL n Z Ok (pc + 3) lo st w2 (K w2)) : DX p l e R s m args below meth c G z nL n Z Ok pc lo (.int x :: .ref (z + 134) :: st) w (pw 134 16 x w K) := fun v h hk => pfX10_150 C d (hp_of ly_134) (Nat.le_of_ble_eq_true rfl) rfl (hup_wu (i := 16) (v := x) ly_134 rfl) (k _ v h hk)
theorem dgX10_153 (C : Cx p s m args c G RX10 cc nL z) (d : decode cc pc = .ok (.getfield 153, 3)) (k : DX p l e R s m args below meth c G z nL n Z Ok (pc + 3) lo (.int (w 134 17) :: st) w o) : DX p l e R s m args below meth c G z nL n Z Ok pc lo (.ref (z + 134) :: st) w o := fun v h hk => gfX10_153 C d (hp_of ly_134) rfl (k v h hk)
theorem dpX10_153 {x : Int32} {K : Mem → Option α} (C : Cx p s m args c G RX10 cc nL z) (d : decode cc pc = .ok (.putfield 153, 3)) (k : ∀ w2, DX p l e R s m args below meth c G z nL n Z Ok (pc + 3) lo st w2 (K w2)) : DX p l e R s m args below meth c G z nL n Z Ok pc lo (.int x :: .ref (z + 134) :: st) w (pw 134 17 x w K) := fun v h hk => pfX10_153 C d (hp_of ly_134) (Nat.le_of_ble_eq_true rfl) rfl (hup_wu (i := 17) (v := x) ly_134 rfl) (k _ v h hk)
theorem dgX10_156 (C : Cx p s m args c G RX10 cc nL z) (d : decode cc pc = .ok (.getfield 156, 3)) (k : DX p l e R s m args below meth c G z nL n Z Ok (pc + 3) lo (.int (w 134 18) :: st) w o) : DX p l e R s m args below meth c G z nL n Z Ok pc lo (.ref (z + 134) :: st) w o := fun v h hk => gfX10_156 C d (hp_of ly_134) rfl (k v h hk)
theorem dpX10_156 {x : Int32} {K : Mem → Option α} (C : Cx p s m args c G RX10 cc nL z) (d : decode cc pc = .ok (.putfield 156, 3)) (k : ∀ w2, DX p l e R s m args below meth c G z nL n Z Ok (pc + 3) lo st w2 (K w2)) : DX p l e R s m args below meth c G z nL n Z Ok pc lo (.int x :: .ref (z + 134) :: st) w (pw 134 18 x w K) := fun v h hk => pfX10_156 C d (hp_of ly_134) (Nat.le_of_ble_eq_true rfl) rfl (hup_wu (i := 18) (v := x) ly_134 rfl) (k _ v h hk)
theorem dgX10_32 (C : Cx p s m args c G RX10 cc nL z) (d : decode cc pc = .ok (.getfield 32, 3)) (k : DX p l e R s m args below meth c G z nL n Z Ok (pc + 3) lo (.ref (z + 141) :: st) w o) : DX p l e R s m args below meth c G z nL n Z Ok pc lo (.ref (z + 134) :: st) w o := fun v h hk => gfX10_32 C d (hp_of ly_134) rfl (k v h hk)
theorem dgX10_35 (C : Cx p s m args c G RX10 cc nL z) (d : decode cc pc = .ok (.getfield 35, 3)) (k : DX p l e R s m args below meth c G z nL n Z Ok (pc + 3) lo (.ref (z + 142) :: st) w o) : DX p l e R s m args below meth c G z nL n Z Ok pc lo (.ref (z + 134) :: st) w o := fun v h hk => gfX10_35 C d (hp_of ly_134) rfl (k v h hk)
theorem dgX10_38 (C : Cx p s m args c G RX10 cc nL z) (d : decode cc pc = .ok (.getfield 38, 3)) (k : DX p l e R s m args below meth c G z nL n Z Ok (pc + 3) lo (.ref (z + 143) :: st) w o) : DX p l e R s m args below meth c G z nL n Z Ok pc lo (.ref (z + 134) :: st) w o := fun v h hk => gfX10_38 C d (hp_of ly_134) rfl (k v h hk)
theorem dgX10_41 (C : Cx p s m args c G RX10 cc nL z) (d : decode cc pc = .ok (.getfield 41, 3)) (k : DX p l e R s m args below meth c G z nL n Z Ok (pc + 3) lo (.ref (z + 144) :: st) w o) : DX p l e R s m args below meth c G z nL n Z Ok pc lo (.ref (z + 134) :: st) w o := fun v h hk => gfX10_41 C d (hp_of ly_134) rfl (k v h hk)
theorem dgX10_44 (C : Cx p s m args c G RX10 cc nL z) (d : decode cc pc = .ok (.getfield 44, 3)) (k : DX p l e R s m args below meth c G z nL n Z Ok (pc + 3) lo (.ref (z + 145) :: st) w o) : DX p l e R s m args below meth c G z nL n Z Ok pc lo (.ref (z + 134) :: st) w o := fun v h hk => gfX10_44 C d (hp_of ly_134) rfl (k v h hk)
theorem dgX10_47 (C : Cx p s m args c G RX10 cc nL z) (d : decode cc pc = .ok (.getfield 47, 3)) (k : DX p l e R s m args below meth c G z nL n Z Ok (pc + 3) lo (.ref (z + 146) :: st) w o) : DX p l e R s m args below meth c G z nL n Z Ok pc lo (.ref (z + 134) :: st) w o := fun v h hk => gfX10_47 C d (hp_of ly_134) rfl (k v h hk)
theorem dgX10_159 (C : Cx p s m args c G RX10 cc nL z) (d : decode cc pc = .ok (.getfield 159, 3)) (k : DX p l e R s m args below meth c G z nL n Z Ok (pc + 3) lo (.int (w 134 25) :: st) w o) : DX p l e R s m args below meth c G z nL n Z Ok pc lo (.ref (z + 134) :: st) w o := fun v h hk => gfX10_159 C d (hp_of ly_134) rfl (k v h hk)
theorem dpX10_159 {x : Int32} {K : Mem → Option α} (C : Cx p s m args c G RX10 cc nL z) (d : decode cc pc = .ok (.putfield 159, 3)) (k : ∀ w2, DX p l e R s m args below meth c G z nL n Z Ok (pc + 3) lo st w2 (K w2)) : DX p l e R s m args below meth c G z nL n Z Ok pc lo (.int x :: .ref (z + 134) :: st) w (pw 134 25 x w K) := fun v h hk => pfX10_159 C d (hp_of ly_134) (Nat.le_of_ble_eq_true rfl) rfl (hup_wu (i := 25) (v := x) ly_134 rfl) (k _ v h hk)
theorem dgX10_212 (C : Cx p s m args c G RX10 cc nL z) (d : decode cc pc = .ok (.getfield 212, 3)) (k : DX p l e R s m args below meth c G z nL n Z Ok (pc + 3) lo (.int (w 134 26) :: st) w o) : DX p l e R s m args below meth c G z nL n Z Ok pc lo (.ref (z + 134) :: st) w o := fun v h hk => gfX10_212 C d (hp_of ly_134) rfl (k v h hk)
theorem dpX10_212 {x : Int32} {K : Mem → Option α} (C : Cx p s m args c G RX10 cc nL z) (d : decode cc pc = .ok (.putfield 212, 3)) (k : ∀ w2, DX p l e R s m args below meth c G z nL n Z Ok (pc + 3) lo st w2 (K w2)) : DX p l e R s m args below meth c G z nL n Z Ok pc lo (.int x :: .ref (z + 134) :: st) w (pw 134 26 x w K) := fun v h hk => pfX10_212 C d (hp_of ly_134) (Nat.le_of_ble_eq_true rfl) rfl (hup_wu (i := 26) (v := x) ly_134 rfl) (k _ v h hk)
theorem dgX10_50 (C : Cx p s m args c G RX10 cc nL z) (d : decode cc pc = .ok (.getfield 50, 3)) (k : DX p l e R s m args below meth c G z nL n Z Ok (pc + 3) lo (.ref (z + 147) :: st) w o) : DX p l e R s m args below meth c G z nL n Z Ok pc lo (.ref (z + 134) :: st) w o := fun v h hk => gfX10_50 C d (hp_of ly_134) rfl (k v h hk)
theorem dgX10_243 (C : Cx p s m args c G RX10 cc nL z) (d : decode cc pc = .ok (.getfield 243, 3)) (k : DX p l e R s m args below meth c G z nL n Z Ok (pc + 3) lo (.long (w 134 28).toInt64 :: st) w o) : DX p l e R s m args below meth c G z nL n Z Ok pc lo (.ref (z + 134) :: st) w o := fun v h hk => gfX10_243 C d (hp_of ly_134) rfl (k v h hk)
theorem dpX10_243 {x : Int64} {K : Mem → Option α} (C : Cx p s m args c G RX10 cc nL z) (d : decode cc pc = .ok (.putfield 243, 3)) (k : ∀ w2, DX p l e R s m args below meth c G z nL n Z Ok (pc + 3) lo st w2 (K w2)) : DX p l e R s m args below meth c G z nL n Z Ok pc lo (.long x :: .ref (z + 134) :: st) w (pl 134 28 x w K) := by
  intro v h hk
  unfold pl at h
  by_cases hb : x.toInt32.toInt64 = x
  · rw [if_pos hb] at h
    exact pfX10_243 C d (hp_of ly_134) (Nat.le_of_ble_eq_true rfl) rfl (hup_wu (i := 28) (v := x.toInt32) ly_134 (by rw [show (Value.long x) = Value.long x.toInt32.toInt64 by rw [hb]]; rfl)) (k _ v h hk)
  · rw [if_neg hb] at h; cases h
theorem dgX10_53 (C : Cx p s m args c G RX10 cc nL z) (d : decode cc pc = .ok (.getfield 53, 3)) (k : DX p l e R s m args below meth c G z nL n Z Ok (pc + 3) lo (.ref (z + 148) :: st) w o) : DX p l e R s m args below meth c G z nL n Z Ok pc lo (.ref (z + 134) :: st) w o := fun v h hk => gfX10_53 C d (hp_of ly_134) rfl (k v h hk)
theorem dgX10_264 (C : Cx p s m args c G RX10 cc nL z) (d : decode cc pc = .ok (.getfield 264, 3)) (k : DX p l e R s m args below meth c G z nL n Z Ok (pc + 3) lo (.int (w 134 30) :: st) w o) : DX p l e R s m args below meth c G z nL n Z Ok pc lo (.ref (z + 134) :: st) w o := fun v h hk => gfX10_264 C d (hp_of ly_134) rfl (k v h hk)
theorem dpX10_264 {x : Int32} {K : Mem → Option α} (C : Cx p s m args c G RX10 cc nL z) (d : decode cc pc = .ok (.putfield 264, 3)) (k : ∀ w2, DX p l e R s m args below meth c G z nL n Z Ok (pc + 3) lo st w2 (K w2)) : DX p l e R s m args below meth c G z nL n Z Ok pc lo (.int x :: .ref (z + 134) :: st) w (pw 134 30 x w K) := fun v h hk => pfX10_264 C d (hp_of ly_134) (Nat.le_of_ble_eq_true rfl) rfl (hup_wu (i := 30) (v := x) ly_134 rfl) (k _ v h hk)
theorem dgX10_267 (C : Cx p s m args c G RX10 cc nL z) (d : decode cc pc = .ok (.getfield 267, 3)) (k : DX p l e R s m args below meth c G z nL n Z Ok (pc + 3) lo (.int (w 134 31) :: st) w o) : DX p l e R s m args below meth c G z nL n Z Ok pc lo (.ref (z + 134) :: st) w o := fun v h hk => gfX10_267 C d (hp_of ly_134) rfl (k v h hk)
theorem dpX10_267 {x : Int32} {K : Mem → Option α} (C : Cx p s m args c G RX10 cc nL z) (d : decode cc pc = .ok (.putfield 267, 3)) (k : ∀ w2, DX p l e R s m args below meth c G z nL n Z Ok (pc + 3) lo st w2 (K w2)) : DX p l e R s m args below meth c G z nL n Z Ok pc lo (.int x :: .ref (z + 134) :: st) w (pw 134 31 x w K) := fun v h hk => pfX10_267 C d (hp_of ly_134) (Nat.le_of_ble_eq_true rfl) rfl (hup_wu (i := 31) (v := x) ly_134 rfl) (k _ v h hk)
theorem dgX10_270 (C : Cx p s m args c G RX10 cc nL z) (d : decode cc pc = .ok (.getfield 270, 3)) (k : DX p l e R s m args below meth c G z nL n Z Ok (pc + 3) lo (.int (w 134 32) :: st) w o) : DX p l e R s m args below meth c G z nL n Z Ok pc lo (.ref (z + 134) :: st) w o := fun v h hk => gfX10_270 C d (hp_of ly_134) rfl (k v h hk)
theorem dpX10_270 {x : Int32} {K : Mem → Option α} (C : Cx p s m args c G RX10 cc nL z) (d : decode cc pc = .ok (.putfield 270, 3)) (k : ∀ w2, DX p l e R s m args below meth c G z nL n Z Ok (pc + 3) lo st w2 (K w2)) : DX p l e R s m args below meth c G z nL n Z Ok pc lo (.int x :: .ref (z + 134) :: st) w (pw 134 32 x w K) := fun v h hk => pfX10_270 C d (hp_of ly_134) (Nat.le_of_ble_eq_true rfl) rfl (hup_wu (i := 32) (v := x) ly_134 rfl) (k _ v h hk)
theorem dgX10_56 (C : Cx p s m args c G RX10 cc nL z) (d : decode cc pc = .ok (.getfield 56, 3)) (k : DX p l e R s m args below meth c G z nL n Z Ok (pc + 3) lo (.ref (z + 149) :: st) w o) : DX p l e R s m args below meth c G z nL n Z Ok pc lo (.ref (z + 134) :: st) w o := fun v h hk => gfX10_56 C d (hp_of ly_134) rfl (k v h hk)
theorem dgX10_162 (C : Cx p s m args c G RX10 cc nL z) (d : decode cc pc = .ok (.getfield 162, 3)) (k : DX p l e R s m args below meth c G z nL n Z Ok (pc + 3) lo (.int (w 134 34) :: st) w o) : DX p l e R s m args below meth c G z nL n Z Ok pc lo (.ref (z + 134) :: st) w o := fun v h hk => gfX10_162 C d (hp_of ly_134) rfl (k v h hk)
theorem dpX10_162 {x : Int32} {K : Mem → Option α} (C : Cx p s m args c G RX10 cc nL z) (d : decode cc pc = .ok (.putfield 162, 3)) (k : ∀ w2, DX p l e R s m args below meth c G z nL n Z Ok (pc + 3) lo st w2 (K w2)) : DX p l e R s m args below meth c G z nL n Z Ok pc lo (.int x :: .ref (z + 134) :: st) w (pw 134 34 x w K) := fun v h hk => pfX10_162 C d (hp_of ly_134) (Nat.le_of_ble_eq_true rfl) rfl (hup_wu (i := 34) (v := x) ly_134 rfl) (k _ v h hk)
theorem dgX10_59 (C : Cx p s m args c G RX10 cc nL z) (d : decode cc pc = .ok (.getfield 59, 3)) (k : DX p l e R s m args below meth c G z nL n Z Ok (pc + 3) lo (.ref (z + 150) :: st) w o) : DX p l e R s m args below meth c G z nL n Z Ok pc lo (.ref (z + 134) :: st) w o := fun v h hk => gfX10_59 C d (hp_of ly_134) rfl (k v h hk)
theorem dgX10_62 (C : Cx p s m args c G RX10 cc nL z) (d : decode cc pc = .ok (.getfield 62, 3)) (k : DX p l e R s m args below meth c G z nL n Z Ok (pc + 3) lo (.ref (z + 151) :: st) w o) : DX p l e R s m args below meth c G z nL n Z Ok pc lo (.ref (z + 134) :: st) w o := fun v h hk => gfX10_62 C d (hp_of ly_134) rfl (k v h hk)
theorem dgX10_165 (C : Cx p s m args c G RX10 cc nL z) (d : decode cc pc = .ok (.getfield 165, 3)) (k : DX p l e R s m args below meth c G z nL n Z Ok (pc + 3) lo (.int (w 134 37) :: st) w o) : DX p l e R s m args below meth c G z nL n Z Ok pc lo (.ref (z + 134) :: st) w o := fun v h hk => gfX10_165 C d (hp_of ly_134) rfl (k v h hk)
theorem dpX10_165 {x : Int32} {K : Mem → Option α} (C : Cx p s m args c G RX10 cc nL z) (d : decode cc pc = .ok (.putfield 165, 3)) (k : ∀ w2, DX p l e R s m args below meth c G z nL n Z Ok (pc + 3) lo st w2 (K w2)) : DX p l e R s m args below meth c G z nL n Z Ok pc lo (.int x :: .ref (z + 134) :: st) w (pw 134 37 x w K) := fun v h hk => pfX10_165 C d (hp_of ly_134) (Nat.le_of_ble_eq_true rfl) rfl (hup_wu (i := 37) (v := x) ly_134 rfl) (k _ v h hk)
theorem dgX10_65 (C : Cx p s m args c G RX10 cc nL z) (d : decode cc pc = .ok (.getfield 65, 3)) (k : DX p l e R s m args below meth c G z nL n Z Ok (pc + 3) lo (.ref (z + 152) :: st) w o) : DX p l e R s m args below meth c G z nL n Z Ok pc lo (.ref (z + 134) :: st) w o := fun v h hk => gfX10_65 C d (hp_of ly_134) rfl (k v h hk)
theorem dgX10_68 (C : Cx p s m args c G RX10 cc nL z) (d : decode cc pc = .ok (.getfield 68, 3)) (k : DX p l e R s m args below meth c G z nL n Z Ok (pc + 3) lo (.ref (z + 153) :: st) w o) : DX p l e R s m args below meth c G z nL n Z Ok pc lo (.ref (z + 134) :: st) w o := fun v h hk => gfX10_68 C d (hp_of ly_134) rfl (k v h hk)
theorem dgX10_71 (C : Cx p s m args c G RX10 cc nL z) (d : decode cc pc = .ok (.getfield 71, 3)) (k : DX p l e R s m args below meth c G z nL n Z Ok (pc + 3) lo (.ref (z + 154) :: st) w o) : DX p l e R s m args below meth c G z nL n Z Ok pc lo (.ref (z + 134) :: st) w o := fun v h hk => gfX10_71 C d (hp_of ly_134) rfl (k v h hk)
theorem dgX10_75 (C : Cx p s m args c G RX10 cc nL z) (d : decode cc pc = .ok (.getfield 75, 3)) (k : DX p l e R s m args below meth c G z nL n Z Ok (pc + 3) lo (.ref (z + 155) :: st) w o) : DX p l e R s m args below meth c G z nL n Z Ok pc lo (.ref (z + 134) :: st) w o := fun v h hk => gfX10_75 C d (hp_of ly_134) rfl (k v h hk)
theorem dgX10_78 (C : Cx p s m args c G RX10 cc nL z) (d : decode cc pc = .ok (.getfield 78, 3)) (k : DX p l e R s m args below meth c G z nL n Z Ok (pc + 3) lo (.ref (z + 156) :: st) w o) : DX p l e R s m args below meth c G z nL n Z Ok pc lo (.ref (z + 134) :: st) w o := fun v h hk => gfX10_78 C d (hp_of ly_134) rfl (k v h hk)
end DXS
