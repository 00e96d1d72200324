def w0 : Mem := fun k i => if k = 0 then (if i = 9 then 1 else if i = 11 then -1 else 0) else if k = 1 then (if i = 4 then -1 else 0) else if k = 99 then (if i = 2 then -1 else 0) else if k = 134 then (if i = 5 then -1 else 0) else if k = 146 then (if i = 4 then -1 else if i = 6 then -1 else 0) else if k = 3 ∨ k = 127 ∨ k = 131 ∨ (8 ≤ k ∧ k < 98 ∧ (k - 8) % 3 = 0) then (if i = 4 then -1 else if i = 6 then -1 else 0) else 0
theorem x_sub {p : Program} {l : Launch} {e : Env} {R : Room} {s : State} {m : MethodId} {args : Array Value} {below : List Frame} {meth : Method} {c : Code} {G : GT} {z nL : Nat} {Z : State → Prop} {pc : Nat} {lo : List (Nat × Value)} {st : List Value} {u u2 : HpT} {n kc ks : Nat} (h : ∀ k q, u2 k = some q → u k = some q) (kk : Xw p l e R s m args below meth c G z nL Z pc lo st u2 n kc ks) : Xw p l e R s m args below meth c G z nL Z pc lo st u n kc ks := fun H locs ls hl hH hS => kk H locs ls hl ⟨hH.1, fun j q hj => hH.2 j q (h j q hj)⟩ hS
theorem hp_big {G : GT} {z k : Nat} {w : Mem} (h : 157 ≤ k) : hp G z w k = none := by
  unfold hp
  rw [List.getElem?_eq_none (show (lay G z).length ≤ k from h)]
  rfl
def Fresh (G : GT) (z : Nat) (u : HpT) : Prop := u 0 = some (.inr (8, [.ref (z + 1), .ref (z + 3), .ref (z + 6), .ref (z + 98), .ref (z + 99), .ref (z + 101), .ref (z + 106), .ref (z + 109), .ref (z + 112), .ref (z + 119), .int (0 : Int32), .int (-1 : Int32)])) ∧ u 1 = some (.inr (6, [.ref (z + 2), .int (0 : Int32), .int (0 : Int32), .int (0 : Int32), .int (-1 : Int32)])) ∧ u 2 = some (aI G 240 (fun _ => 0)) ∧ u 3 = some (.inr (2, [.int (0 : Int32), .int (0 : Int32), .int (0 : Int32), .int (0 : Int32), .int (-1 : Int32), .int (0 : Int32), .int (-1 : Int32), .int (0 : Int32), .int (0 : Int32), .int (0 : Int32), .ref (z + 4), .ref (z + 5)])) ∧ u 4 = some (aI G 6 (fun _ => 0)) ∧ u 5 = some (aI G 6 (fun _ => 0)) ∧ u 6 = some (.inr (5, [.ref (z + 7), .int (0 : Int32), .int (0 : Int32)])) ∧ u 7 = some (aE G 30 (va_up (va_up (va_up (va_up (va_up (va_up (va_up (va_up (va_up (va_up (va_up (va_up (va_up (va_up (va_up (va_up (va_up (va_up (va_up (va_up (va_up (va_up (va_up (va_up (va_up (va_up (va_up (va_up (va_up (va_up (fun _ => none) 0 (some (z + 8))) 1 (some (z + 11))) 2 (some (z + 14))) 3 (some (z + 17))) 4 (some (z + 20))) 5 (some (z + 23))) 6 (some (z + 26))) 7 (some (z + 29))) 8 (some (z + 32))) 9 (some (z + 35))) 10 (some (z + 38))) 11 (some (z + 41))) 12 (some (z + 44))) 13 (some (z + 47))) 14 (some (z + 50))) 15 (some (z + 53))) 16 (some (z + 56))) 17 (some (z + 59))) 18 (some (z + 62))) 19 (some (z + 65))) 20 (some (z + 68))) 21 (some (z + 71))) 22 (some (z + 74))) 23 (some (z + 77))) 24 (some (z + 80))) 25 (some (z + 83))) 26 (some (z + 86))) 27 (some (z + 89))) 28 (some (z + 92))) 29 (some (z + 95)))) ∧ u 8 = some (.inr (2, [.int (0 : Int32), .int (0 : Int32), .int (0 : Int32), .int (0 : Int32), .int (-1 : Int32), .int (0 : Int32), .int (-1 : Int32), .int (0 : Int32), .int (0 : Int32), .int (0 : Int32), .ref (z + 9), .ref (z + 10)])) ∧ u 9 = some (aI G 6 (fun _ => 0)) ∧ u 10 = some (aI G 6 (fun _ => 0)) ∧ u 11 = some (.inr (2, [.int (0 : Int32), .int (0 : Int32), .int (0 : Int32), .int (0 : Int32), .int (-1 : Int32), .int (0 : Int32), .int (-1 : Int32), .int (0 : Int32), .int (0 : Int32), .int (0 : Int32), .ref (z + 12), .ref (z + 13)])) ∧ u 12 = some (aI G 6 (fun _ => 0)) ∧ u 13 = some (aI G 6 (fun _ => 0)) ∧ u 14 = some (.inr (2, [.int (0 : Int32), .int (0 : Int32), .int (0 : Int32), .int (0 : Int32), .int (-1 : Int32), .int (0 : Int32), .int (-1 : Int32), .int (0 : Int32), .int (0 : Int32), .int (0 : Int32), .ref (z + 15), .ref (z + 16)])) ∧ u 15 = some (aI G 6 (fun _ => 0)) ∧ u 16 = some (aI G 6 (fun _ => 0)) ∧ u 17 = some (.inr (2, [.int (0 : Int32), .int (0 : Int32), .int (0 : Int32), .int (0 : Int32), .int (-1 : Int32), .int (0 : Int32), .int (-1 : Int32), .int (0 : Int32), .int (0 : Int32), .int (0 : Int32), .ref (z + 18), .ref (z + 19)])) ∧ u 18 = some (aI G 6 (fun _ => 0)) ∧ u 19 = some (aI G 6 (fun _ => 0)) ∧ u 20 = some (.inr (2, [.int (0 : Int32), .int (0 : Int32), .int (0 : Int32), .int (0 : Int32), .int (-1 : Int32), .int (0 : Int32), .int (-1 : Int32), .int (0 : Int32), .int (0 : Int32), .int (0 : Int32), .ref (z + 21), .ref (z + 22)])) ∧ u 21 = some (aI G 6 (fun _ => 0)) ∧ u 22 = some (aI G 6 (fun _ => 0)) ∧ u 23 = some (.inr (2, [.int (0 : Int32), .int (0 : Int32), .int (0 : Int32), .int (0 : Int32), .int (-1 : Int32), .int (0 : Int32), .int (-1 : Int32), .int (0 : Int32), .int (0 : Int32), .int (0 : Int32), .ref (z + 24), .ref (z + 25)])) ∧ u 24 = some (aI G 6 (fun _ => 0)) ∧ u 25 = some (aI G 6 (fun _ => 0)) ∧ u 26 = some (.inr (2, [.int (0 : Int32), .int (0 : Int32), .int (0 : Int32), .int (0 : Int32), .int (-1 : Int32), .int (0 : Int32), .int (-1 : Int32), .int (0 : Int32), .int (0 : Int32), .int (0 : Int32), .ref (z + 27), .ref (z + 28)])) ∧ u 27 = some (aI G 6 (fun _ => 0)) ∧ u 28 = some (aI G 6 (fun _ => 0)) ∧ u 29 = some (.inr (2, [.int (0 : Int32), .int (0 : Int32), .int (0 : Int32), .int (0 : Int32), .int (-1 : Int32), .int (0 : Int32), .int (-1 : Int32), .int (0 : Int32), .int (0 : Int32), .int (0 : Int32), .ref (z + 30), .ref (z + 31)])) ∧ u 30 = some (aI G 6 (fun _ => 0)) ∧ u 31 = some (aI G 6 (fun _ => 0)) ∧ u 32 = some (.inr (2, [.int (0 : Int32), .int (0 : Int32), .int (0 : Int32), .int (0 : Int32), .int (-1 : Int32), .int (0 : Int32), .int (-1 : Int32), .int (0 : Int32), .int (0 : Int32), .int (0 : Int32), .ref (z + 33), .ref (z + 34)])) ∧ u 33 = some (aI G 6 (fun _ => 0)) ∧ u 34 = some (aI G 6 (fun _ => 0)) ∧ u 35 = some (.inr (2, [.int (0 : Int32), .int (0 : Int32), .int (0 : Int32), .int (0 : Int32), .int (-1 : Int32), .int (0 : Int32), .int (-1 : Int32), .int (0 : Int32), .int (0 : Int32), .int (0 : Int32), .ref (z + 36), .ref (z + 37)])) ∧ u 36 = some (aI G 6 (fun _ => 0)) ∧ u 37 = some (aI G 6 (fun _ => 0)) ∧ u 38 = some (.inr (2, [.int (0 : Int32), .int (0 : Int32), .int (0 : Int32), .int (0 : Int32), .int (-1 : Int32), .int (0 : Int32), .int (-1 : Int32), .int (0 : Int32), .int (0 : Int32), .int (0 : Int32), .ref (z + 39), .ref (z + 40)])) ∧ u 39 = some (aI G 6 (fun _ => 0)) ∧ u 40 = some (aI G 6 (fun _ => 0)) ∧ u 41 = some (.inr (2, [.int (0 : Int32), .int (0 : Int32), .int (0 : Int32), .int (0 : Int32), .int (-1 : Int32), .int (0 : Int32), .int (-1 : Int32), .int (0 : Int32), .int (0 : Int32), .int (0 : Int32), .ref (z + 42), .ref (z + 43)])) ∧ u 42 = some (aI G 6 (fun _ => 0)) ∧ u 43 = some (aI G 6 (fun _ => 0)) ∧ u 44 = some (.inr (2, [.int (0 : Int32), .int (0 : Int32), .int (0 : Int32), .int (0 : Int32), .int (-1 : Int32), .int (0 : Int32), .int (-1 : Int32), .int (0 : Int32), .int (0 : Int32), .int (0 : Int32), .ref (z + 45), .ref (z + 46)])) ∧ u 45 = some (aI G 6 (fun _ => 0)) ∧ u 46 = some (aI G 6 (fun _ => 0)) ∧ u 47 = some (.inr (2, [.int (0 : Int32), .int (0 : Int32), .int (0 : Int32), .int (0 : Int32), .int (-1 : Int32), .int (0 : Int32), .int (-1 : Int32), .int (0 : Int32), .int (0 : Int32), .int (0 : Int32), .ref (z + 48), .ref (z + 49)])) ∧ u 48 = some (aI G 6 (fun _ => 0)) ∧ u 49 = some (aI G 6 (fun _ => 0)) ∧ u 50 = some (.inr (2, [.int (0 : Int32), .int (0 : Int32), .int (0 : Int32), .int (0 : Int32), .int (-1 : Int32), .int (0 : Int32), .int (-1 : Int32), .int (0 : Int32), .int (0 : Int32), .int (0 : Int32), .ref (z + 51), .ref (z + 52)])) ∧ u 51 = some (aI G 6 (fun _ => 0)) ∧ u 52 = some (aI G 6 (fun _ => 0)) ∧ u 53 = some (.inr (2, [.int (0 : Int32), .int (0 : Int32), .int (0 : Int32), .int (0 : Int32), .int (-1 : Int32), .int (0 : Int32), .int (-1 : Int32), .int (0 : Int32), .int (0 : Int32), .int (0 : Int32), .ref (z + 54), .ref (z + 55)])) ∧ u 54 = some (aI G 6 (fun _ => 0)) ∧ u 55 = some (aI G 6 (fun _ => 0)) ∧ u 56 = some (.inr (2, [.int (0 : Int32), .int (0 : Int32), .int (0 : Int32), .int (0 : Int32), .int (-1 : Int32), .int (0 : Int32), .int (-1 : Int32), .int (0 : Int32), .int (0 : Int32), .int (0 : Int32), .ref (z + 57), .ref (z + 58)])) ∧ u 57 = some (aI G 6 (fun _ => 0)) ∧ u 58 = some (aI G 6 (fun _ => 0)) ∧ u 59 = some (.inr (2, [.int (0 : Int32), .int (0 : Int32), .int (0 : Int32), .int (0 : Int32), .int (-1 : Int32), .int (0 : Int32), .int (-1 : Int32), .int (0 : Int32), .int (0 : Int32), .int (0 : Int32), .ref (z + 60), .ref (z + 61)])) ∧ u 60 = some (aI G 6 (fun _ => 0)) ∧ u 61 = some (aI G 6 (fun _ => 0)) ∧ u 62 = some (.inr (2, [.int (0 : Int32), .int (0 : Int32), .int (0 : Int32), .int (0 : Int32), .int (-1 : Int32), .int (0 : Int32), .int (-1 : Int32), .int (0 : Int32), .int (0 : Int32), .int (0 : Int32), .ref (z + 63), .ref (z + 64)])) ∧ u 63 = some (aI G 6 (fun _ => 0)) ∧ u 64 = some (aI G 6 (fun _ => 0)) ∧ u 65 = some (.inr (2, [.int (0 : Int32), .int (0 : Int32), .int (0 : Int32), .int (0 : Int32), .int (-1 : Int32), .int (0 : Int32), .int (-1 : Int32), .int (0 : Int32), .int (0 : Int32), .int (0 : Int32), .ref (z + 66), .ref (z + 67)])) ∧ u 66 = some (aI G 6 (fun _ => 0)) ∧ u 67 = some (aI G 6 (fun _ => 0)) ∧ u 68 = some (.inr (2, [.int (0 : Int32), .int (0 : Int32), .int (0 : Int32), .int (0 : Int32), .int (-1 : Int32), .int (0 : Int32), .int (-1 : Int32), .int (0 : Int32), .int (0 : Int32), .int (0 : Int32), .ref (z + 69), .ref (z + 70)])) ∧ u 69 = some (aI G 6 (fun _ => 0)) ∧ u 70 = some (aI G 6 (fun _ => 0)) ∧ u 71 = some (.inr (2, [.int (0 : Int32), .int (0 : Int32), .int (0 : Int32), .int (0 : Int32), .int (-1 : Int32), .int (0 : Int32), .int (-1 : Int32), .int (0 : Int32), .int (0 : Int32), .int (0 : Int32), .ref (z + 72), .ref (z + 73)])) ∧ u 72 = some (aI G 6 (fun _ => 0)) ∧ u 73 = some (aI G 6 (fun _ => 0)) ∧ u 74 = some (.inr (2, [.int (0 : Int32), .int (0 : Int32), .int (0 : Int32), .int (0 : Int32), .int (-1 : Int32), .int (0 : Int32), .int (-1 : Int32), .int (0 : Int32), .int (0 : Int32), .int (0 : Int32), .ref (z + 75), .ref (z + 76)])) ∧ u 75 = some (aI G 6 (fun _ => 0)) ∧ u 76 = some (aI G 6 (fun _ => 0)) ∧ u 77 = some (.inr (2, [.int (0 : Int32), .int (0 : Int32), .int (0 : Int32), .int (0 : Int32), .int (-1 : Int32), .int (0 : Int32), .int (-1 : Int32), .int (0 : Int32), .int (0 : Int32), .int (0 : Int32), .ref (z + 78), .ref (z + 79)])) ∧ u 78 = some (aI G 6 (fun _ => 0)) ∧ u 79 = some (aI G 6 (fun _ => 0)) ∧ u 80 = some (.inr (2, [.int (0 : Int32), .int (0 : Int32), .int (0 : Int32), .int (0 : Int32), .int (-1 : Int32), .int (0 : Int32), .int (-1 : Int32), .int (0 : Int32), .int (0 : Int32), .int (0 : Int32), .ref (z + 81), .ref (z + 82)])) ∧ u 81 = some (aI G 6 (fun _ => 0)) ∧ u 82 = some (aI G 6 (fun _ => 0)) ∧ u 83 = some (.inr (2, [.int (0 : Int32), .int (0 : Int32), .int (0 : Int32), .int (0 : Int32), .int (-1 : Int32), .int (0 : Int32), .int (-1 : Int32), .int (0 : Int32), .int (0 : Int32), .int (0 : Int32), .ref (z + 84), .ref (z + 85)])) ∧ u 84 = some (aI G 6 (fun _ => 0)) ∧ u 85 = some (aI G 6 (fun _ => 0)) ∧ u 86 = some (.inr (2, [.int (0 : Int32), .int (0 : Int32), .int (0 : Int32), .int (0 : Int32), .int (-1 : Int32), .int (0 : Int32), .int (-1 : Int32), .int (0 : Int32), .int (0 : Int32), .int (0 : Int32), .ref (z + 87), .ref (z + 88)])) ∧ u 87 = some (aI G 6 (fun _ => 0)) ∧ u 88 = some (aI G 6 (fun _ => 0)) ∧ u 89 = some (.inr (2, [.int (0 : Int32), .int (0 : Int32), .int (0 : Int32), .int (0 : Int32), .int (-1 : Int32), .int (0 : Int32), .int (-1 : Int32), .int (0 : Int32), .int (0 : Int32), .int (0 : Int32), .ref (z + 90), .ref (z + 91)])) ∧ u 90 = some (aI G 6 (fun _ => 0)) ∧ u 91 = some (aI G 6 (fun _ => 0)) ∧ u 92 = some (.inr (2, [.int (0 : Int32), .int (0 : Int32), .int (0 : Int32), .int (0 : Int32), .int (-1 : Int32), .int (0 : Int32), .int (-1 : Int32), .int (0 : Int32), .int (0 : Int32), .int (0 : Int32), .ref (z + 93), .ref (z + 94)])) ∧ u 93 = some (aI G 6 (fun _ => 0)) ∧ u 94 = some (aI G 6 (fun _ => 0)) ∧ u 95 = some (.inr (2, [.int (0 : Int32), .int (0 : Int32), .int (0 : Int32), .int (0 : Int32), .int (-1 : Int32), .int (0 : Int32), .int (-1 : Int32), .int (0 : Int32), .int (0 : Int32), .int (0 : Int32), .ref (z + 96), .ref (z + 97)])) ∧ u 96 = some (aI G 6 (fun _ => 0)) ∧ u 97 = some (aI G 6 (fun _ => 0)) ∧ u 98 = some (aM G 2 (va_up (va_up (fun _ => none) 0 (some (z + 126))) 1 (some (z + 130)))) ∧ u 99 = some (.inr (7, [.ref (z + 100), .int (0 : Int32), .int (-1 : Int32), .int (0 : Int32)])) ∧ u 100 = some (aI G 256 (fun _ => 0)) ∧ u 101 = some (.inr (4, [.ref (z + 102), .ref (z + 103), .ref (z + 104), .ref (z + 105), .int (0 : Int32), .int (0 : Int32), .int (0 : Int32)])) ∧ u 102 = some (aI G 6 (fun _ => 0)) ∧ u 103 = some (aI G 6 (fun _ => 0)) ∧ u 104 = some (aI G 6 (fun _ => 0)) ∧ u 105 = some (aI G 6 (fun _ => 0)) ∧ u 106 = some (.inr (1, [.ref (z + 107), .ref (z + 108), .int (0 : Int32)])) ∧ u 107 = some (aI G 6 (fun _ => 0)) ∧ u 108 = some (aI G 6 (fun _ => 0)) ∧ u 109 = some (.inr (1, [.ref (z + 110), .ref (z + 111), .int (0 : Int32)])) ∧ u 110 = some (aI G 20 (fun _ => 0)) ∧ u 111 = some (aI G 20 (fun _ => 0)) ∧ u 112 = some (.inr (0, [.int (0 : Int32), .int (0 : Int32), .int (0 : Int32), .int (0 : Int32), .ref (z + 113), .ref (z + 114), .ref (z + 115), .ref (z + 116), .ref (z + 117), .ref (z + 118)])) ∧ u 113 = some (aI G 8 (fun _ => 0)) ∧ u 114 = some (aI G 8 (fun _ => 0)) ∧ u 115 = some (aI G 6 (fun _ => 0)) ∧ u 116 = some (aI G 6 (fun _ => 0)) ∧ u 117 = some (aI G 6 (fun _ => 0)) ∧ u 118 = some (aI G 256 (fun _ => 0)) ∧ u 119 = some (.inr (0, [.int (0 : Int32), .int (0 : Int32), .int (0 : Int32), .int (0 : Int32), .ref (z + 120), .ref (z + 121), .ref (z + 122), .ref (z + 123), .ref (z + 124), .ref (z + 125)])) ∧ u 120 = some (aI G 8 (fun _ => 0)) ∧ u 121 = some (aI G 8 (fun _ => 0)) ∧ u 122 = some (aI G 6 (fun _ => 0)) ∧ u 123 = some (aI G 6 (fun _ => 0)) ∧ u 124 = some (aI G 6 (fun _ => 0)) ∧ u 125 = some (aI G 256 (fun _ => 0)) ∧ u 126 = some (.inr (3, [.ref (z + 127), .int (0 : Int32), .int (0 : Int32)])) ∧ u 127 = some (.inr (2, [.int (0 : Int32), .int (0 : Int32), .int (0 : Int32), .int (0 : Int32), .int (-1 : Int32), .int (0 : Int32), .int (-1 : Int32), .int (0 : Int32), .int (0 : Int32), .int (0 : Int32), .ref (z + 128), .ref (z + 129)])) ∧ u 128 = some (aI G 6 (fun _ => 0)) ∧ u 129 = some (aI G 6 (fun _ => 0)) ∧ u 130 = some (.inr (3, [.ref (z + 131), .int (0 : Int32), .int (0 : Int32)])) ∧ u 131 = some (.inr (2, [.int (0 : Int32), .int (0 : Int32), .int (0 : Int32), .int (0 : Int32), .int (-1 : Int32), .int (0 : Int32), .int (-1 : Int32), .int (0 : Int32), .int (0 : Int32), .int (0 : Int32), .ref (z + 132), .ref (z + 133)])) ∧ u 132 = some (aI G 6 (fun _ => 0)) ∧ u 133 = some (aI G 6 (fun _ => 0)) ∧ u 134 = some (.inr (9, [.int (0 : Int32), .ref (z + 135), .int (0 : Int32), .int (0 : Int32), .int (0 : Int32), .int (-1 : Int32), .int (0 : Int32), .int (0 : Int32), .int (0 : Int32), .int (0 : Int32), .ref (z + 136), .ref (z + 137), .ref (z + 138), .ref (z + 139), .ref (z + 140), .int (0 : Int32), .int (0 : Int32), .int (0 : Int32), .int (0 : Int32), .ref (z + 141), .ref (z + 142), .ref (z + 143), .ref (z + 144), .ref (z + 145), .ref (z + 146), .int (0 : Int32), .int (0 : Int32), .ref (z + 147), .long (0 : Int64), .ref (z + 148), .int (0 : Int32), .int (0 : Int32), .int (0 : Int32), .ref (z + 149), .int (0 : Int32), .ref (z + 150), .ref (z + 151), .int (0 : Int32), .ref (z + 152), .ref (z + 153), .ref (z + 154), .ref (z + 155), .ref (z + 156)])) ∧ u 135 = some (aI G 240 (fun _ => 0)) ∧ u 136 = some (aI G 8 (fun _ => 0)) ∧ u 137 = some (aI G 8 (fun _ => 0)) ∧ u 138 = some (aI G 6 (fun _ => 0)) ∧ u 139 = some (aI G 6 (fun _ => 0)) ∧ u 140 = some (aI G 6 (fun _ => 0)) ∧ u 141 = some (aI G 8 (fun _ => 0)) ∧ u 142 = some (aI G 8 (fun _ => 0)) ∧ u 143 = some (aI G 6 (fun _ => 0)) ∧ u 144 = some (aI G 6 (fun _ => 0)) ∧ u 145 = some (aI G 6 (fun _ => 0)) ∧ u 146 = some (aI G 25 (upd (upd (fun _ => 0) 4 (-1 : Int32)) 6 (-1 : Int32))) ∧ u 147 = some (aI G 750 (fun _ => 0)) ∧ u 148 = some (aI G 2048 (fun _ => 0)) ∧ u 149 = some (aI G 6 (fun _ => 0)) ∧ u 150 = some (aI G 6 (fun _ => 0)) ∧ u 151 = some (aI G 6 (fun _ => 0)) ∧ u 152 = some (aI G 20 (fun _ => 0)) ∧ u 153 = some (aI G 20 (fun _ => 0)) ∧ u 154 = some (aZ G 2 (fun _ => 0)) ∧ u 155 = some (aI G 50 (fun _ => 0)) ∧ u 156 = some (aL G 2 (fun _ => 0))
theorem z146 : upd (upd (fun _ => (0 : Int32)) 4 (-1)) 6 (-1) = w0 146 := by
  funext i
  unfold upd
  show _ = (if i = 4 then (-1 : Int32) else if i = 6 then -1 else 0)
  by_cases h4 : i = 4
  · subst h4; rfl
  · by_cases h6 : i = 6
    · subst h6; rfl
    · simp [h4, h6]
theorem cell7 {G : GT} {z : Nat} : (aE G 30 (va_up (va_up (va_up (va_up (va_up (va_up (va_up (va_up (va_up (va_up (va_up (va_up (va_up (va_up (va_up (va_up (va_up (va_up (va_up (va_up (va_up (va_up (va_up (va_up (va_up (va_up (va_up (va_up (va_up (va_up (fun _ => none) 0 (some (z + 8))) 1 (some (z + 11))) 2 (some (z + 14))) 3 (some (z + 17))) 4 (some (z + 20))) 5 (some (z + 23))) 6 (some (z + 26))) 7 (some (z + 29))) 8 (some (z + 32))) 9 (some (z + 35))) 10 (some (z + 38))) 11 (some (z + 41))) 12 (some (z + 44))) 13 (some (z + 47))) 14 (some (z + 50))) 15 (some (z + 53))) 16 (some (z + 56))) 17 (some (z + 59))) 18 (some (z + 62))) 19 (some (z + 65))) 20 (some (z + 68))) 21 (some (z + 71))) 22 (some (z + 74))) 23 (some (z + 77))) 24 (some (z + 80))) 25 (some (z + 83))) 26 (some (z + 86))) 27 (some (z + 89))) 28 (some (z + 92))) 29 (some (z + 95)))) = aE G 30 (fun i => if i < 30 then some (z + (8 + 3 * i)) else none) := by
  refine congrArg (aE G 30) ?_
  funext i
  by_cases hi : i < 30
  · rw [if_pos hi]
    rcases (by omega : i = 0 ∨ i = 1 ∨ i = 2 ∨ i = 3 ∨ i = 4 ∨ i = 5 ∨ i = 6 ∨ i = 7 ∨ i = 8 ∨ i = 9 ∨ i = 10 ∨ i = 11 ∨ i = 12 ∨ i = 13 ∨ i = 14 ∨ i = 15 ∨ i = 16 ∨ i = 17 ∨ i = 18 ∨ i = 19 ∨ i = 20 ∨ i = 21 ∨ i = 22 ∨ i = 23 ∨ i = 24 ∨ i = 25 ∨ i = 26 ∨ i = 27 ∨ i = 28 ∨ i = 29) with rfl | rfl | rfl | rfl | rfl | rfl | rfl | rfl | rfl | rfl | rfl | rfl | rfl | rfl | rfl | rfl | rfl | rfl | rfl | rfl | rfl | rfl | rfl | rfl | rfl | rfl | rfl | rfl | rfl | rfl <;> rfl
  · rw [if_neg hi]
    unfold va_up
    simp only [show ¬ i = 0 by omega, show ¬ i = 1 by omega, show ¬ i = 2 by omega, show ¬ i = 3 by omega, show ¬ i = 4 by omega, show ¬ i = 5 by omega, show ¬ i = 6 by omega, show ¬ i = 7 by omega, show ¬ i = 8 by omega, show ¬ i = 9 by omega, show ¬ i = 10 by omega, show ¬ i = 11 by omega, show ¬ i = 12 by omega, show ¬ i = 13 by omega, show ¬ i = 14 by omega, show ¬ i = 15 by omega, show ¬ i = 16 by omega, show ¬ i = 17 by omega, show ¬ i = 18 by omega, show ¬ i = 19 by omega, show ¬ i = 20 by omega, show ¬ i = 21 by omega, show ¬ i = 22 by omega, show ¬ i = 23 by omega, show ¬ i = 24 by omega, show ¬ i = 25 by omega, show ¬ i = 26 by omega, show ¬ i = 27 by omega, show ¬ i = 28 by omega, show ¬ i = 29 by omega, if_false]
theorem cell98 {G : GT} {z : Nat} : (aM G 2 (va_up (va_up (fun _ => none) 0 (some (z + 126))) 1 (some (z + 130)))) = aM G 2 (fun i => if i < 2 then some (z + (126 + 4 * i)) else none) := by
  refine congrArg (aM G 2) ?_
  funext i
  by_cases hi : i < 2
  · rw [if_pos hi]
    rcases (by omega : i = 0 ∨ i = 1) with rfl | rfl <;> rfl
  · rw [if_neg hi]
    unfold va_up
    simp only [show ¬ i = 0 by omega, show ¬ i = 1 by omega, if_false]
set_option maxRecDepth 100000 in
set_option maxHeartbeats 4000000 in
theorem fresh_hp {G : GT} {z : Nat} {u : HpT} (hF : Fresh G z u) : ∀ k q, hp G z w0 k = some q → u k = some q := by
  obtain ⟨h0, h1, h2, h3, h4, h5, h6, h7, h8, h9, h10, h11, h12, h13, h14, h15, h16, h17, h18, h19, h20, h21, h22, h23, h24, h25, h26, h27, h28, h29, h30, h31, h32, h33, h34, h35, h36, h37, h38, h39, h40, h41, h42, h43, h44, h45, h46, h47, h48, h49, h50, h51, h52, h53, h54, h55, h56, h57, h58, h59, h60, h61, h62, h63, h64, h65, h66, h67, h68, h69, h70, h71, h72, h73, h74, h75, h76, h77, h78, h79, h80, h81, h82, h83, h84, h85, h86, h87, h88, h89, h90, h91, h92, h93, h94, h95, h96, h97, h98, h99, h100, h101, h102, h103, h104, h105, h106, h107, h108, h109, h110, h111, h112, h113, h114, h115, h116, h117, h118, h119, h120, h121, h122, h123, h124, h125, h126, h127, h128, h129, h130, h131, h132, h133, h134, h135, h136, h137, h138, h139, h140, h141, h142, h143, h144, h145, h146, h147, h148, h149, h150, h151, h152, h153, h154, h155, h156⟩ := hF
  intro k q hq
  by_cases hk : 157 ≤ k
  · rw [hp_big hk] at hq; cases hq
  match k, hk, hq with
  | 0, _, hq => exact h0.trans ((congrArg some (rfl)).trans ((hp_of ly_0).symm.trans hq))
  | 1, _, hq => exact h1.trans ((congrArg some (rfl)).trans ((hp_of ly_1).symm.trans hq))
  | 2, _, hq => exact h2.trans ((congrArg some (rfl)).trans ((hp_of ly_2).symm.trans hq))
  | 3, _, hq => exact h3.trans ((congrArg some (rfl)).trans ((hp_of ly_3).symm.trans hq))
  | 4, _, hq => exact h4.trans ((congrArg some (rfl)).trans ((hp_of ly_4).symm.trans hq))
  | 5, _, hq => exact h5.trans ((congrArg some (rfl)).trans ((hp_of ly_5).symm.trans hq))
  | 6, _, hq => exact h6.trans ((congrArg some (rfl)).trans ((hp_of ly_6).symm.trans hq))
  | 7, _, hq => exact h7.trans ((congrArg some (cell7)).trans ((hp_of ly_7).symm.trans hq))
  | 8, _, hq => exact h8.trans ((congrArg some (rfl)).trans hq)
  | 9, _, hq => exact h9.trans ((congrArg some (rfl)).trans hq)
  | 10, _, hq => exact h10.trans ((congrArg some (rfl)).trans hq)
  | 11, _, hq => exact h11.trans ((congrArg some (rfl)).trans hq)
  | 12, _, hq => exact h12.trans ((congrArg some (rfl)).trans hq)
  | 13, _, hq => exact h13.trans ((congrArg some (rfl)).trans hq)
  | 14, _, hq => exact h14.trans ((congrArg some (rfl)).trans hq)
  | 15, _, hq => exact h15.trans ((congrArg some (rfl)).trans hq)
  | 16, _, hq => exact h16.trans ((congrArg some (rfl)).trans hq)
  | 17, _, hq => exact h17.trans ((congrArg some (rfl)).trans hq)
  | 18, _, hq => exact h18.trans ((congrArg some (rfl)).trans hq)
  | 19, _, hq => exact h19.trans ((congrArg some (rfl)).trans hq)
  | 20, _, hq => exact h20.trans ((congrArg some (rfl)).trans hq)
  | 21, _, hq => exact h21.trans ((congrArg some (rfl)).trans hq)
  | 22, _, hq => exact h22.trans ((congrArg some (rfl)).trans hq)
  | 23, _, hq => exact h23.trans ((congrArg some (rfl)).trans hq)
  | 24, _, hq => exact h24.trans ((congrArg some (rfl)).trans hq)
  | 25, _, hq => exact h25.trans ((congrArg some (rfl)).trans hq)
  | 26, _, hq => exact h26.trans ((congrArg some (rfl)).trans hq)
  | 27, _, hq => exact h27.trans ((congrArg some (rfl)).trans hq)
  | 28, _, hq => exact h28.trans ((congrArg some (rfl)).trans hq)
  | 29, _, hq => exact h29.trans ((congrArg some (rfl)).trans hq)
  | 30, _, hq => exact h30.trans ((congrArg some (rfl)).trans hq)
  | 31, _, hq => exact h31.trans ((congrArg some (rfl)).trans hq)
  | 32, _, hq => exact h32.trans ((congrArg some (rfl)).trans hq)
  | 33, _, hq => exact h33.trans ((congrArg some (rfl)).trans hq)
  | 34, _, hq => exact h34.trans ((congrArg some (rfl)).trans hq)
  | 35, _, hq => exact h35.trans ((congrArg some (rfl)).trans hq)
  | 36, _, hq => exact h36.trans ((congrArg some (rfl)).trans hq)
  | 37, _, hq => exact h37.trans ((congrArg some (rfl)).trans hq)
  | 38, _, hq => exact h38.trans ((congrArg some (rfl)).trans hq)
  | 39, _, hq => exact h39.trans ((congrArg some (rfl)).trans hq)
  | 40, _, hq => exact h40.trans ((congrArg some (rfl)).trans hq)
  | 41, _, hq => exact h41.trans ((congrArg some (rfl)).trans hq)
  | 42, _, hq => exact h42.trans ((congrArg some (rfl)).trans hq)
  | 43, _, hq => exact h43.trans ((congrArg some (rfl)).trans hq)
  | 44, _, hq => exact h44.trans ((congrArg some (rfl)).trans hq)
  | 45, _, hq => exact h45.trans ((congrArg some (rfl)).trans hq)
  | 46, _, hq => exact h46.trans ((congrArg some (rfl)).trans hq)
  | 47, _, hq => exact h47.trans ((congrArg some (rfl)).trans hq)
  | 48, _, hq => exact h48.trans ((congrArg some (rfl)).trans hq)
  | 49, _, hq => exact h49.trans ((congrArg some (rfl)).trans hq)
  | 50, _, hq => exact h50.trans ((congrArg some (rfl)).trans hq)
  | 51, _, hq => exact h51.trans ((congrArg some (rfl)).trans hq)
  | 52, _, hq => exact h52.trans ((congrArg some (rfl)).trans hq)
  | 53, _, hq => exact h53.trans ((congrArg some (rfl)).trans hq)
  | 54, _, hq => exact h54.trans ((congrArg some (rfl)).trans hq)
  | 55, _, hq => exact h55.trans ((congrArg some (rfl)).trans hq)
  | 56, _, hq => exact h56.trans ((congrArg some (rfl)).trans hq)
  | 57, _, hq => exact h57.trans ((congrArg some (rfl)).trans hq)
  | 58, _, hq => exact h58.trans ((congrArg some (rfl)).trans hq)
  | 59, _, hq => exact h59.trans ((congrArg some (rfl)).trans hq)
  | 60, _, hq => exact h60.trans ((congrArg some (rfl)).trans hq)
  | 61, _, hq => exact h61.trans ((congrArg some (rfl)).trans hq)
  | 62, _, hq => exact h62.trans ((congrArg some (rfl)).trans hq)
  | 63, _, hq => exact h63.trans ((congrArg some (rfl)).trans hq)
  | 64, _, hq => exact h64.trans ((congrArg some (rfl)).trans hq)
  | 65, _, hq => exact h65.trans ((congrArg some (rfl)).trans hq)
  | 66, _, hq => exact h66.trans ((congrArg some (rfl)).trans hq)
  | 67, _, hq => exact h67.trans ((congrArg some (rfl)).trans hq)
  | 68, _, hq => exact h68.trans ((congrArg some (rfl)).trans hq)
  | 69, _, hq => exact h69.trans ((congrArg some (rfl)).trans hq)
  | 70, _, hq => exact h70.trans ((congrArg some (rfl)).trans hq)
  | 71, _, hq => exact h71.trans ((congrArg some (rfl)).trans hq)
  | 72, _, hq => exact h72.trans ((congrArg some (rfl)).trans hq)
  | 73, _, hq => exact h73.trans ((congrArg some (rfl)).trans hq)
  | 74, _, hq => exact h74.trans ((congrArg some (rfl)).trans hq)
  | 75, _, hq => exact h75.trans ((congrArg some (rfl)).trans hq)
  | 76, _, hq => exact h76.trans ((congrArg some (rfl)).trans hq)
  | 77, _, hq => exact h77.trans ((congrArg some (rfl)).trans hq)
  | 78, _, hq => exact h78.trans ((congrArg some (rfl)).trans hq)
  | 79, _, hq => exact h79.trans ((congrArg some (rfl)).trans hq)
  | 80, _, hq => exact h80.trans ((congrArg some (rfl)).trans hq)
  | 81, _, hq => exact h81.trans ((congrArg some (rfl)).trans hq)
  | 82, _, hq => exact h82.trans ((congrArg some (rfl)).trans hq)
  | 83, _, hq => exact h83.trans ((congrArg some (rfl)).trans hq)
  | 84, _, hq => exact h84.trans ((congrArg some (rfl)).trans hq)
  | 85, _, hq => exact h85.trans ((congrArg some (rfl)).trans hq)
  | 86, _, hq => exact h86.trans ((congrArg some (rfl)).trans hq)
  | 87, _, hq => exact h87.trans ((congrArg some (rfl)).trans hq)
  | 88, _, hq => exact h88.trans ((congrArg some (rfl)).trans hq)
  | 89, _, hq => exact h89.trans ((congrArg some (rfl)).trans hq)
  | 90, _, hq => exact h90.trans ((congrArg some (rfl)).trans hq)
  | 91, _, hq => exact h91.trans ((congrArg some (rfl)).trans hq)
  | 92, _, hq => exact h92.trans ((congrArg some (rfl)).trans hq)
  | 93, _, hq => exact h93.trans ((congrArg some (rfl)).trans hq)
  | 94, _, hq => exact h94.trans ((congrArg some (rfl)).trans hq)
  | 95, _, hq => exact h95.trans ((congrArg some (rfl)).trans hq)
  | 96, _, hq => exact h96.trans ((congrArg some (rfl)).trans hq)
  | 97, _, hq => exact h97.trans ((congrArg some (rfl)).trans hq)
  | 98, _, hq => exact h98.trans ((congrArg some (cell98)).trans ((hp_of ly_98).symm.trans hq))
  | 99, _, hq => exact h99.trans ((congrArg some (rfl)).trans ((hp_of ly_99).symm.trans hq))
  | 100, _, hq => exact h100.trans ((congrArg some (rfl)).trans ((hp_of ly_100).symm.trans hq))
  | 101, _, hq => exact h101.trans ((congrArg some (rfl)).trans ((hp_of ly_101).symm.trans hq))
  | 102, _, hq => exact h102.trans ((congrArg some (rfl)).trans ((hp_of ly_102).symm.trans hq))
  | 103, _, hq => exact h103.trans ((congrArg some (rfl)).trans ((hp_of ly_103).symm.trans hq))
  | 104, _, hq => exact h104.trans ((congrArg some (rfl)).trans ((hp_of ly_104).symm.trans hq))
  | 105, _, hq => exact h105.trans ((congrArg some (rfl)).trans ((hp_of ly_105).symm.trans hq))
  | 106, _, hq => exact h106.trans ((congrArg some (rfl)).trans ((hp_of ly_106).symm.trans hq))
  | 107, _, hq => exact h107.trans ((congrArg some (rfl)).trans ((hp_of ly_107).symm.trans hq))
  | 108, _, hq => exact h108.trans ((congrArg some (rfl)).trans ((hp_of ly_108).symm.trans hq))
  | 109, _, hq => exact h109.trans ((congrArg some (rfl)).trans ((hp_of ly_109).symm.trans hq))
  | 110, _, hq => exact h110.trans ((congrArg some (rfl)).trans ((hp_of ly_110).symm.trans hq))
  | 111, _, hq => exact h111.trans ((congrArg some (rfl)).trans ((hp_of ly_111).symm.trans hq))
  | 112, _, hq => exact h112.trans ((congrArg some (rfl)).trans hq)
  | 113, _, hq => exact h113.trans ((congrArg some (rfl)).trans hq)
  | 114, _, hq => exact h114.trans ((congrArg some (rfl)).trans hq)
  | 115, _, hq => exact h115.trans ((congrArg some (rfl)).trans hq)
  | 116, _, hq => exact h116.trans ((congrArg some (rfl)).trans hq)
  | 117, _, hq => exact h117.trans ((congrArg some (rfl)).trans hq)
  | 118, _, hq => exact h118.trans ((congrArg some (rfl)).trans hq)
  | 119, _, hq => exact h119.trans ((congrArg some (rfl)).trans hq)
  | 120, _, hq => exact h120.trans ((congrArg some (rfl)).trans hq)
  | 121, _, hq => exact h121.trans ((congrArg some (rfl)).trans hq)
  | 122, _, hq => exact h122.trans ((congrArg some (rfl)).trans hq)
  | 123, _, hq => exact h123.trans ((congrArg some (rfl)).trans hq)
  | 124, _, hq => exact h124.trans ((congrArg some (rfl)).trans hq)
  | 125, _, hq => exact h125.trans ((congrArg some (rfl)).trans hq)
  | 126, _, hq => exact h126.trans ((congrArg some (rfl)).trans hq)
  | 127, _, hq => exact h127.trans ((congrArg some (rfl)).trans hq)
  | 128, _, hq => exact h128.trans ((congrArg some (rfl)).trans hq)
  | 129, _, hq => exact h129.trans ((congrArg some (rfl)).trans hq)
  | 130, _, hq => exact h130.trans ((congrArg some (rfl)).trans hq)
  | 131, _, hq => exact h131.trans ((congrArg some (rfl)).trans hq)
  | 132, _, hq => exact h132.trans ((congrArg some (rfl)).trans hq)
  | 133, _, hq => exact h133.trans ((congrArg some (rfl)).trans hq)
  | 134, _, hq => exact h134.trans ((congrArg some (rfl)).trans ((hp_of ly_134).symm.trans hq))
  | 135, _, hq => exact h135.trans ((congrArg some (rfl)).trans ((hp_of ly_135).symm.trans hq))
  | 136, _, hq => exact h136.trans ((congrArg some (rfl)).trans ((hp_of ly_136).symm.trans hq))
  | 137, _, hq => exact h137.trans ((congrArg some (rfl)).trans ((hp_of ly_137).symm.trans hq))
  | 138, _, hq => exact h138.trans ((congrArg some (rfl)).trans ((hp_of ly_138).symm.trans hq))
  | 139, _, hq => exact h139.trans ((congrArg some (rfl)).trans ((hp_of ly_139).symm.trans hq))
  | 140, _, hq => exact h140.trans ((congrArg some (rfl)).trans ((hp_of ly_140).symm.trans hq))
  | 141, _, hq => exact h141.trans ((congrArg some (rfl)).trans ((hp_of ly_141).symm.trans hq))
  | 142, _, hq => exact h142.trans ((congrArg some (rfl)).trans ((hp_of ly_142).symm.trans hq))
  | 143, _, hq => exact h143.trans ((congrArg some (rfl)).trans ((hp_of ly_143).symm.trans hq))
  | 144, _, hq => exact h144.trans ((congrArg some (rfl)).trans ((hp_of ly_144).symm.trans hq))
  | 145, _, hq => exact h145.trans ((congrArg some (rfl)).trans ((hp_of ly_145).symm.trans hq))
  | 146, _, hq => exact h146.trans ((congrArg some (congrArg (aI G 25) z146)).trans ((hp_of ly_146).symm.trans hq))
  | 147, _, hq => exact h147.trans ((congrArg some (rfl)).trans ((hp_of ly_147).symm.trans hq))
  | 148, _, hq => exact h148.trans ((congrArg some (rfl)).trans ((hp_of ly_148).symm.trans hq))
  | 149, _, hq => exact h149.trans ((congrArg some (rfl)).trans ((hp_of ly_149).symm.trans hq))
  | 150, _, hq => exact h150.trans ((congrArg some (rfl)).trans ((hp_of ly_150).symm.trans hq))
  | 151, _, hq => exact h151.trans ((congrArg some (rfl)).trans ((hp_of ly_151).symm.trans hq))
  | 152, _, hq => exact h152.trans ((congrArg some (rfl)).trans ((hp_of ly_152).symm.trans hq))
  | 153, _, hq => exact h153.trans ((congrArg some (rfl)).trans ((hp_of ly_153).symm.trans hq))
  | 154, _, hq => exact h154.trans ((congrArg some (rfl)).trans ((hp_of ly_154).symm.trans hq))
  | 155, _, hq => exact h155.trans ((congrArg some (rfl)).trans ((hp_of ly_155).symm.trans hq))
  | 156, _, hq => exact h156.trans ((congrArg some (rfl)).trans ((hp_of ly_156).symm.trans hq))
  | k + 157, hk, _ => exact absurd (Nat.le_add_left 157 k) hk
