set_option maxRecDepth 20000 in
theorem p_X6_init_0 {G : GT} {l : Launch} {z : Nat} (u : HpT) (h6 : u 6 = some (.inr (5, [.null, .int (0 : Int32), .int (0 : Int32)]))) : Mt G l z yX6_init cX6_init 2 none { frames := 2, cells := 91, slots := 750, locals := 32 } [.ref (z + 6)] u 7 none (hup (hup (hup (hup (hup (hup (hup (hup (hup (hup (hup (hup (hup (hup (hup (hup (hup (hup (hup (hup (hup (hup (hup (hup (hup (hup (hup (hup (hup (hup (hup (hup (hup (hup (hup (hup (hup (hup (hup (hup (hup (hup (hup (hup (hup (hup (hup (hup (hup (hup (hup (hup (hup (hup (hup (hup (hup (hup (hup (hup (hup (hup (hup (hup (hup (hup (hup (hup (hup (hup (hup (hup (hup (hup (hup (hup (hup (hup (hup (hup (hup (hup (hup (hup (hup (hup (hup (hup (hup (hup (hup (hup (hup (hup (hup (hup (hup (hup (hup (hup (hup (hup (hup (hup (hup (hup (hup (hup (hup (hup (hup (hup (hup (hup (hup (hup (hup (hup (hup (hup (hup (hup (hup (hup (hup (hup (hup (hup (hup (hup (hup (hup (hup (hup (hup (hup (hup (hup (hup (hup (hup (hup (hup (hup (hup (hup (hup (hup (hup (hup (hup (hup (hup (hup u 7 (aE G 30 (fun _ => none))) 6 (.inr (5, [.ref (z + 7), .int (0 : Int32), .int (0 : Int32)]))) 6 (.inr (5, [.ref (z + 7), .int (0 : Int32), .int (0 : Int32)]))) 6 (.inr (5, [.ref (z + 7), .int (0 : Int32), .int (0 : Int32)]))) 8 (.inr (2, [.int (0 : Int32), .int (0 : Int32), .int (0 : Int32), .int (0 : Int32), .int (0 : Int32), .int (0 : Int32), .int (0 : Int32), .int (0 : Int32), .int (0 : Int32), .int (0 : Int32), .null, .null]))) 9 (aI G 6 (fun _ => 0))) 10 (aI G 6 (fun _ => 0))) 8 (.inr (2, [.int (0 : Int32), .int (0 : Int32), .int (0 : Int32), .int (0 : Int32), .int (-1 : Int32), .int (0 : Int32), .int (-1 : Int32), .int (0 : Int32), .int (0 : Int32), .int (0 : Int32), .ref (z + 9), .ref (z + 10)]))) 7 (aE G 30 (va_up (fun _ => none) 0 (some (z + 8))))) 11 (.inr (2, [.int (0 : Int32), .int (0 : Int32), .int (0 : Int32), .int (0 : Int32), .int (0 : Int32), .int (0 : Int32), .int (0 : Int32), .int (0 : Int32), .int (0 : Int32), .int (0 : Int32), .null, .null]))) 12 (aI G 6 (fun _ => 0))) 13 (aI G 6 (fun _ => 0))) 11 (.inr (2, [.int (0 : Int32), .int (0 : Int32), .int (0 : Int32), .int (0 : Int32), .int (-1 : Int32), .int (0 : Int32), .int (-1 : Int32), .int (0 : Int32), .int (0 : Int32), .int (0 : Int32), .ref (z + 12), .ref (z + 13)]))) 7 (aE G 30 (va_up (va_up (fun _ => none) 0 (some (z + 8))) 1 (some (z + 11))))) 14 (.inr (2, [.int (0 : Int32), .int (0 : Int32), .int (0 : Int32), .int (0 : Int32), .int (0 : Int32), .int (0 : Int32), .int (0 : Int32), .int (0 : Int32), .int (0 : Int32), .int (0 : Int32), .null, .null]))) 15 (aI G 6 (fun _ => 0))) 16 (aI G 6 (fun _ => 0))) 14 (.inr (2, [.int (0 : Int32), .int (0 : Int32), .int (0 : Int32), .int (0 : Int32), .int (-1 : Int32), .int (0 : Int32), .int (-1 : Int32), .int (0 : Int32), .int (0 : Int32), .int (0 : Int32), .ref (z + 15), .ref (z + 16)]))) 7 (aE G 30 (va_up (va_up (va_up (fun _ => none) 0 (some (z + 8))) 1 (some (z + 11))) 2 (some (z + 14))))) 17 (.inr (2, [.int (0 : Int32), .int (0 : Int32), .int (0 : Int32), .int (0 : Int32), .int (0 : Int32), .int (0 : Int32), .int (0 : Int32), .int (0 : Int32), .int (0 : Int32), .int (0 : Int32), .null, .null]))) 18 (aI G 6 (fun _ => 0))) 19 (aI G 6 (fun _ => 0))) 17 (.inr (2, [.int (0 : Int32), .int (0 : Int32), .int (0 : Int32), .int (0 : Int32), .int (-1 : Int32), .int (0 : Int32), .int (-1 : Int32), .int (0 : Int32), .int (0 : Int32), .int (0 : Int32), .ref (z + 18), .ref (z + 19)]))) 7 (aE G 30 (va_up (va_up (va_up (va_up (fun _ => none) 0 (some (z + 8))) 1 (some (z + 11))) 2 (some (z + 14))) 3 (some (z + 17))))) 20 (.inr (2, [.int (0 : Int32), .int (0 : Int32), .int (0 : Int32), .int (0 : Int32), .int (0 : Int32), .int (0 : Int32), .int (0 : Int32), .int (0 : Int32), .int (0 : Int32), .int (0 : Int32), .null, .null]))) 21 (aI G 6 (fun _ => 0))) 22 (aI G 6 (fun _ => 0))) 20 (.inr (2, [.int (0 : Int32), .int (0 : Int32), .int (0 : Int32), .int (0 : Int32), .int (-1 : Int32), .int (0 : Int32), .int (-1 : Int32), .int (0 : Int32), .int (0 : Int32), .int (0 : Int32), .ref (z + 21), .ref (z + 22)]))) 7 (aE G 30 (va_up (va_up (va_up (va_up (va_up (fun _ => none) 0 (some (z + 8))) 1 (some (z + 11))) 2 (some (z + 14))) 3 (some (z + 17))) 4 (some (z + 20))))) 23 (.inr (2, [.int (0 : Int32), .int (0 : Int32), .int (0 : Int32), .int (0 : Int32), .int (0 : Int32), .int (0 : Int32), .int (0 : Int32), .int (0 : Int32), .int (0 : Int32), .int (0 : Int32), .null, .null]))) 24 (aI G 6 (fun _ => 0))) 25 (aI G 6 (fun _ => 0))) 23 (.inr (2, [.int (0 : Int32), .int (0 : Int32), .int (0 : Int32), .int (0 : Int32), .int (-1 : Int32), .int (0 : Int32), .int (-1 : Int32), .int (0 : Int32), .int (0 : Int32), .int (0 : Int32), .ref (z + 24), .ref (z + 25)]))) 7 (aE G 30 (va_up (va_up (va_up (va_up (va_up (va_up (fun _ => none) 0 (some (z + 8))) 1 (some (z + 11))) 2 (some (z + 14))) 3 (some (z + 17))) 4 (some (z + 20))) 5 (some (z + 23))))) 26 (.inr (2, [.int (0 : Int32), .int (0 : Int32), .int (0 : Int32), .int (0 : Int32), .int (0 : Int32), .int (0 : Int32), .int (0 : Int32), .int (0 : Int32), .int (0 : Int32), .int (0 : Int32), .null, .null]))) 27 (aI G 6 (fun _ => 0))) 28 (aI G 6 (fun _ => 0))) 26 (.inr (2, [.int (0 : Int32), .int (0 : Int32), .int (0 : Int32), .int (0 : Int32), .int (-1 : Int32), .int (0 : Int32), .int (-1 : Int32), .int (0 : Int32), .int (0 : Int32), .int (0 : Int32), .ref (z + 27), .ref (z + 28)]))) 7 (aE G 30 (va_up (va_up (va_up (va_up (va_up (va_up (va_up (fun _ => none) 0 (some (z + 8))) 1 (some (z + 11))) 2 (some (z + 14))) 3 (some (z + 17))) 4 (some (z + 20))) 5 (some (z + 23))) 6 (some (z + 26))))) 29 (.inr (2, [.int (0 : Int32), .int (0 : Int32), .int (0 : Int32), .int (0 : Int32), .int (0 : Int32), .int (0 : Int32), .int (0 : Int32), .int (0 : Int32), .int (0 : Int32), .int (0 : Int32), .null, .null]))) 30 (aI G 6 (fun _ => 0))) 31 (aI G 6 (fun _ => 0))) 29 (.inr (2, [.int (0 : Int32), .int (0 : Int32), .int (0 : Int32), .int (0 : Int32), .int (-1 : Int32), .int (0 : Int32), .int (-1 : Int32), .int (0 : Int32), .int (0 : Int32), .int (0 : Int32), .ref (z + 30), .ref (z + 31)]))) 7 (aE G 30 (va_up (va_up (va_up (va_up (va_up (va_up (va_up (va_up (fun _ => none) 0 (some (z + 8))) 1 (some (z + 11))) 2 (some (z + 14))) 3 (some (z + 17))) 4 (some (z + 20))) 5 (some (z + 23))) 6 (some (z + 26))) 7 (some (z + 29))))) 32 (.inr (2, [.int (0 : Int32), .int (0 : Int32), .int (0 : Int32), .int (0 : Int32), .int (0 : Int32), .int (0 : Int32), .int (0 : Int32), .int (0 : Int32), .int (0 : Int32), .int (0 : Int32), .null, .null]))) 33 (aI G 6 (fun _ => 0))) 34 (aI G 6 (fun _ => 0))) 32 (.inr (2, [.int (0 : Int32), .int (0 : Int32), .int (0 : Int32), .int (0 : Int32), .int (-1 : Int32), .int (0 : Int32), .int (-1 : Int32), .int (0 : Int32), .int (0 : Int32), .int (0 : Int32), .ref (z + 33), .ref (z + 34)]))) 7 (aE G 30 (va_up (va_up (va_up (va_up (va_up (va_up (va_up (va_up (va_up (fun _ => none) 0 (some (z + 8))) 1 (some (z + 11))) 2 (some (z + 14))) 3 (some (z + 17))) 4 (some (z + 20))) 5 (some (z + 23))) 6 (some (z + 26))) 7 (some (z + 29))) 8 (some (z + 32))))) 35 (.inr (2, [.int (0 : Int32), .int (0 : Int32), .int (0 : Int32), .int (0 : Int32), .int (0 : Int32), .int (0 : Int32), .int (0 : Int32), .int (0 : Int32), .int (0 : Int32), .int (0 : Int32), .null, .null]))) 36 (aI G 6 (fun _ => 0))) 37 (aI G 6 (fun _ => 0))) 35 (.inr (2, [.int (0 : Int32), .int (0 : Int32), .int (0 : Int32), .int (0 : Int32), .int (-1 : Int32), .int (0 : Int32), .int (-1 : Int32), .int (0 : Int32), .int (0 : Int32), .int (0 : Int32), .ref (z + 36), .ref (z + 37)]))) 7 (aE G 30 (va_up (va_up (va_up (va_up (va_up (va_up (va_up (va_up (va_up (va_up (fun _ => none) 0 (some (z + 8))) 1 (some (z + 11))) 2 (some (z + 14))) 3 (some (z + 17))) 4 (some (z + 20))) 5 (some (z + 23))) 6 (some (z + 26))) 7 (some (z + 29))) 8 (some (z + 32))) 9 (some (z + 35))))) 38 (.inr (2, [.int (0 : Int32), .int (0 : Int32), .int (0 : Int32), .int (0 : Int32), .int (0 : Int32), .int (0 : Int32), .int (0 : Int32), .int (0 : Int32), .int (0 : Int32), .int (0 : Int32), .null, .null]))) 39 (aI G 6 (fun _ => 0))) 40 (aI G 6 (fun _ => 0))) 38 (.inr (2, [.int (0 : Int32), .int (0 : Int32), .int (0 : Int32), .int (0 : Int32), .int (-1 : Int32), .int (0 : Int32), .int (-1 : Int32), .int (0 : Int32), .int (0 : Int32), .int (0 : Int32), .ref (z + 39), .ref (z + 40)]))) 7 (aE G 30 (va_up (va_up (va_up (va_up (va_up (va_up (va_up (va_up (va_up (va_up (va_up (fun _ => none) 0 (some (z + 8))) 1 (some (z + 11))) 2 (some (z + 14))) 3 (some (z + 17))) 4 (some (z + 20))) 5 (some (z + 23))) 6 (some (z + 26))) 7 (some (z + 29))) 8 (some (z + 32))) 9 (some (z + 35))) 10 (some (z + 38))))) 41 (.inr (2, [.int (0 : Int32), .int (0 : Int32), .int (0 : Int32), .int (0 : Int32), .int (0 : Int32), .int (0 : Int32), .int (0 : Int32), .int (0 : Int32), .int (0 : Int32), .int (0 : Int32), .null, .null]))) 42 (aI G 6 (fun _ => 0))) 43 (aI G 6 (fun _ => 0))) 41 (.inr (2, [.int (0 : Int32), .int (0 : Int32), .int (0 : Int32), .int (0 : Int32), .int (-1 : Int32), .int (0 : Int32), .int (-1 : Int32), .int (0 : Int32), .int (0 : Int32), .int (0 : Int32), .ref (z + 42), .ref (z + 43)]))) 7 (aE G 30 (va_up (va_up (va_up (va_up (va_up (va_up (va_up (va_up (va_up (va_up (va_up (va_up (fun _ => none) 0 (some (z + 8))) 1 (some (z + 11))) 2 (some (z + 14))) 3 (some (z + 17))) 4 (some (z + 20))) 5 (some (z + 23))) 6 (some (z + 26))) 7 (some (z + 29))) 8 (some (z + 32))) 9 (some (z + 35))) 10 (some (z + 38))) 11 (some (z + 41))))) 44 (.inr (2, [.int (0 : Int32), .int (0 : Int32), .int (0 : Int32), .int (0 : Int32), .int (0 : Int32), .int (0 : Int32), .int (0 : Int32), .int (0 : Int32), .int (0 : Int32), .int (0 : Int32), .null, .null]))) 45 (aI G 6 (fun _ => 0))) 46 (aI G 6 (fun _ => 0))) 44 (.inr (2, [.int (0 : Int32), .int (0 : Int32), .int (0 : Int32), .int (0 : Int32), .int (-1 : Int32), .int (0 : Int32), .int (-1 : Int32), .int (0 : Int32), .int (0 : Int32), .int (0 : Int32), .ref (z + 45), .ref (z + 46)]))) 7 (aE G 30 (va_up (va_up (va_up (va_up (va_up (va_up (va_up (va_up (va_up (va_up (va_up (va_up (va_up (fun _ => none) 0 (some (z + 8))) 1 (some (z + 11))) 2 (some (z + 14))) 3 (some (z + 17))) 4 (some (z + 20))) 5 (some (z + 23))) 6 (some (z + 26))) 7 (some (z + 29))) 8 (some (z + 32))) 9 (some (z + 35))) 10 (some (z + 38))) 11 (some (z + 41))) 12 (some (z + 44))))) 47 (.inr (2, [.int (0 : Int32), .int (0 : Int32), .int (0 : Int32), .int (0 : Int32), .int (0 : Int32), .int (0 : Int32), .int (0 : Int32), .int (0 : Int32), .int (0 : Int32), .int (0 : Int32), .null, .null]))) 48 (aI G 6 (fun _ => 0))) 49 (aI G 6 (fun _ => 0))) 47 (.inr (2, [.int (0 : Int32), .int (0 : Int32), .int (0 : Int32), .int (0 : Int32), .int (-1 : Int32), .int (0 : Int32), .int (-1 : Int32), .int (0 : Int32), .int (0 : Int32), .int (0 : Int32), .ref (z + 48), .ref (z + 49)]))) 7 (aE G 30 (va_up (va_up (va_up (va_up (va_up (va_up (va_up (va_up (va_up (va_up (va_up (va_up (va_up (va_up (fun _ => none) 0 (some (z + 8))) 1 (some (z + 11))) 2 (some (z + 14))) 3 (some (z + 17))) 4 (some (z + 20))) 5 (some (z + 23))) 6 (some (z + 26))) 7 (some (z + 29))) 8 (some (z + 32))) 9 (some (z + 35))) 10 (some (z + 38))) 11 (some (z + 41))) 12 (some (z + 44))) 13 (some (z + 47))))) 50 (.inr (2, [.int (0 : Int32), .int (0 : Int32), .int (0 : Int32), .int (0 : Int32), .int (0 : Int32), .int (0 : Int32), .int (0 : Int32), .int (0 : Int32), .int (0 : Int32), .int (0 : Int32), .null, .null]))) 51 (aI G 6 (fun _ => 0))) 52 (aI G 6 (fun _ => 0))) 50 (.inr (2, [.int (0 : Int32), .int (0 : Int32), .int (0 : Int32), .int (0 : Int32), .int (-1 : Int32), .int (0 : Int32), .int (-1 : Int32), .int (0 : Int32), .int (0 : Int32), .int (0 : Int32), .ref (z + 51), .ref (z + 52)]))) 7 (aE G 30 (va_up (va_up (va_up (va_up (va_up (va_up (va_up (va_up (va_up (va_up (va_up (va_up (va_up (va_up (va_up (fun _ => none) 0 (some (z + 8))) 1 (some (z + 11))) 2 (some (z + 14))) 3 (some (z + 17))) 4 (some (z + 20))) 5 (some (z + 23))) 6 (some (z + 26))) 7 (some (z + 29))) 8 (some (z + 32))) 9 (some (z + 35))) 10 (some (z + 38))) 11 (some (z + 41))) 12 (some (z + 44))) 13 (some (z + 47))) 14 (some (z + 50))))) 53 (.inr (2, [.int (0 : Int32), .int (0 : Int32), .int (0 : Int32), .int (0 : Int32), .int (0 : Int32), .int (0 : Int32), .int (0 : Int32), .int (0 : Int32), .int (0 : Int32), .int (0 : Int32), .null, .null]))) 54 (aI G 6 (fun _ => 0))) 55 (aI G 6 (fun _ => 0))) 53 (.inr (2, [.int (0 : Int32), .int (0 : Int32), .int (0 : Int32), .int (0 : Int32), .int (-1 : Int32), .int (0 : Int32), .int (-1 : Int32), .int (0 : Int32), .int (0 : Int32), .int (0 : Int32), .ref (z + 54), .ref (z + 55)]))) 7 (aE G 30 (va_up (va_up (va_up (va_up (va_up (va_up (va_up (va_up (va_up (va_up (va_up (va_up (va_up (va_up (va_up (va_up (fun _ => none) 0 (some (z + 8))) 1 (some (z + 11))) 2 (some (z + 14))) 3 (some (z + 17))) 4 (some (z + 20))) 5 (some (z + 23))) 6 (some (z + 26))) 7 (some (z + 29))) 8 (some (z + 32))) 9 (some (z + 35))) 10 (some (z + 38))) 11 (some (z + 41))) 12 (some (z + 44))) 13 (some (z + 47))) 14 (some (z + 50))) 15 (some (z + 53))))) 56 (.inr (2, [.int (0 : Int32), .int (0 : Int32), .int (0 : Int32), .int (0 : Int32), .int (0 : Int32), .int (0 : Int32), .int (0 : Int32), .int (0 : Int32), .int (0 : Int32), .int (0 : Int32), .null, .null]))) 57 (aI G 6 (fun _ => 0))) 58 (aI G 6 (fun _ => 0))) 56 (.inr (2, [.int (0 : Int32), .int (0 : Int32), .int (0 : Int32), .int (0 : Int32), .int (-1 : Int32), .int (0 : Int32), .int (-1 : Int32), .int (0 : Int32), .int (0 : Int32), .int (0 : Int32), .ref (z + 57), .ref (z + 58)]))) 7 (aE G 30 (va_up (va_up (va_up (va_up (va_up (va_up (va_up (va_up (va_up (va_up (va_up (va_up (va_up (va_up (va_up (va_up (va_up (fun _ => none) 0 (some (z + 8))) 1 (some (z + 11))) 2 (some (z + 14))) 3 (some (z + 17))) 4 (some (z + 20))) 5 (some (z + 23))) 6 (some (z + 26))) 7 (some (z + 29))) 8 (some (z + 32))) 9 (some (z + 35))) 10 (some (z + 38))) 11 (some (z + 41))) 12 (some (z + 44))) 13 (some (z + 47))) 14 (some (z + 50))) 15 (some (z + 53))) 16 (some (z + 56))))) 59 (.inr (2, [.int (0 : Int32), .int (0 : Int32), .int (0 : Int32), .int (0 : Int32), .int (0 : Int32), .int (0 : Int32), .int (0 : Int32), .int (0 : Int32), .int (0 : Int32), .int (0 : Int32), .null, .null]))) 60 (aI G 6 (fun _ => 0))) 61 (aI G 6 (fun _ => 0))) 59 (.inr (2, [.int (0 : Int32), .int (0 : Int32), .int (0 : Int32), .int (0 : Int32), .int (-1 : Int32), .int (0 : Int32), .int (-1 : Int32), .int (0 : Int32), .int (0 : Int32), .int (0 : Int32), .ref (z + 60), .ref (z + 61)]))) 7 (aE G 30 (va_up (va_up (va_up (va_up (va_up (va_up (va_up (va_up (va_up (va_up (va_up (va_up (va_up (va_up (va_up (va_up (va_up (va_up (fun _ => none) 0 (some (z + 8))) 1 (some (z + 11))) 2 (some (z + 14))) 3 (some (z + 17))) 4 (some (z + 20))) 5 (some (z + 23))) 6 (some (z + 26))) 7 (some (z + 29))) 8 (some (z + 32))) 9 (some (z + 35))) 10 (some (z + 38))) 11 (some (z + 41))) 12 (some (z + 44))) 13 (some (z + 47))) 14 (some (z + 50))) 15 (some (z + 53))) 16 (some (z + 56))) 17 (some (z + 59))))) 62 (.inr (2, [.int (0 : Int32), .int (0 : Int32), .int (0 : Int32), .int (0 : Int32), .int (0 : Int32), .int (0 : Int32), .int (0 : Int32), .int (0 : Int32), .int (0 : Int32), .int (0 : Int32), .null, .null]))) 63 (aI G 6 (fun _ => 0))) 64 (aI G 6 (fun _ => 0))) 62 (.inr (2, [.int (0 : Int32), .int (0 : Int32), .int (0 : Int32), .int (0 : Int32), .int (-1 : Int32), .int (0 : Int32), .int (-1 : Int32), .int (0 : Int32), .int (0 : Int32), .int (0 : Int32), .ref (z + 63), .ref (z + 64)]))) 7 (aE G 30 (va_up (va_up (va_up (va_up (va_up (va_up (va_up (va_up (va_up (va_up (va_up (va_up (va_up (va_up (va_up (va_up (va_up (va_up (va_up (fun _ => none) 0 (some (z + 8))) 1 (some (z + 11))) 2 (some (z + 14))) 3 (some (z + 17))) 4 (some (z + 20))) 5 (some (z + 23))) 6 (some (z + 26))) 7 (some (z + 29))) 8 (some (z + 32))) 9 (some (z + 35))) 10 (some (z + 38))) 11 (some (z + 41))) 12 (some (z + 44))) 13 (some (z + 47))) 14 (some (z + 50))) 15 (some (z + 53))) 16 (some (z + 56))) 17 (some (z + 59))) 18 (some (z + 62))))) 65 (.inr (2, [.int (0 : Int32), .int (0 : Int32), .int (0 : Int32), .int (0 : Int32), .int (0 : Int32), .int (0 : Int32), .int (0 : Int32), .int (0 : Int32), .int (0 : Int32), .int (0 : Int32), .null, .null]))) 66 (aI G 6 (fun _ => 0))) 67 (aI G 6 (fun _ => 0))) 65 (.inr (2, [.int (0 : Int32), .int (0 : Int32), .int (0 : Int32), .int (0 : Int32), .int (-1 : Int32), .int (0 : Int32), .int (-1 : Int32), .int (0 : Int32), .int (0 : Int32), .int (0 : Int32), .ref (z + 66), .ref (z + 67)]))) 7 (aE G 30 (va_up (va_up (va_up (va_up (va_up (va_up (va_up (va_up (va_up (va_up (va_up (va_up (va_up (va_up (va_up (va_up (va_up (va_up (va_up (va_up (fun _ => none) 0 (some (z + 8))) 1 (some (z + 11))) 2 (some (z + 14))) 3 (some (z + 17))) 4 (some (z + 20))) 5 (some (z + 23))) 6 (some (z + 26))) 7 (some (z + 29))) 8 (some (z + 32))) 9 (some (z + 35))) 10 (some (z + 38))) 11 (some (z + 41))) 12 (some (z + 44))) 13 (some (z + 47))) 14 (some (z + 50))) 15 (some (z + 53))) 16 (some (z + 56))) 17 (some (z + 59))) 18 (some (z + 62))) 19 (some (z + 65))))) 68 (.inr (2, [.int (0 : Int32), .int (0 : Int32), .int (0 : Int32), .int (0 : Int32), .int (0 : Int32), .int (0 : Int32), .int (0 : Int32), .int (0 : Int32), .int (0 : Int32), .int (0 : Int32), .null, .null]))) 69 (aI G 6 (fun _ => 0))) 70 (aI G 6 (fun _ => 0))) 68 (.inr (2, [.int (0 : Int32), .int (0 : Int32), .int (0 : Int32), .int (0 : Int32), .int (-1 : Int32), .int (0 : Int32), .int (-1 : Int32), .int (0 : Int32), .int (0 : Int32), .int (0 : Int32), .ref (z + 69), .ref (z + 70)]))) 7 (aE G 30 (va_up (va_up (va_up (va_up (va_up (va_up (va_up (va_up (va_up (va_up (va_up (va_up (va_up (va_up (va_up (va_up (va_up (va_up (va_up (va_up (va_up (fun _ => none) 0 (some (z + 8))) 1 (some (z + 11))) 2 (some (z + 14))) 3 (some (z + 17))) 4 (some (z + 20))) 5 (some (z + 23))) 6 (some (z + 26))) 7 (some (z + 29))) 8 (some (z + 32))) 9 (some (z + 35))) 10 (some (z + 38))) 11 (some (z + 41))) 12 (some (z + 44))) 13 (some (z + 47))) 14 (some (z + 50))) 15 (some (z + 53))) 16 (some (z + 56))) 17 (some (z + 59))) 18 (some (z + 62))) 19 (some (z + 65))) 20 (some (z + 68))))) 71 (.inr (2, [.int (0 : Int32), .int (0 : Int32), .int (0 : Int32), .int (0 : Int32), .int (0 : Int32), .int (0 : Int32), .int (0 : Int32), .int (0 : Int32), .int (0 : Int32), .int (0 : Int32), .null, .null]))) 72 (aI G 6 (fun _ => 0))) 73 (aI G 6 (fun _ => 0))) 71 (.inr (2, [.int (0 : Int32), .int (0 : Int32), .int (0 : Int32), .int (0 : Int32), .int (-1 : Int32), .int (0 : Int32), .int (-1 : Int32), .int (0 : Int32), .int (0 : Int32), .int (0 : Int32), .ref (z + 72), .ref (z + 73)]))) 7 (aE G 30 (va_up (va_up (va_up (va_up (va_up (va_up (va_up (va_up (va_up (va_up (va_up (va_up (va_up (va_up (va_up (va_up (va_up (va_up (va_up (va_up (va_up (va_up (fun _ => none) 0 (some (z + 8))) 1 (some (z + 11))) 2 (some (z + 14))) 3 (some (z + 17))) 4 (some (z + 20))) 5 (some (z + 23))) 6 (some (z + 26))) 7 (some (z + 29))) 8 (some (z + 32))) 9 (some (z + 35))) 10 (some (z + 38))) 11 (some (z + 41))) 12 (some (z + 44))) 13 (some (z + 47))) 14 (some (z + 50))) 15 (some (z + 53))) 16 (some (z + 56))) 17 (some (z + 59))) 18 (some (z + 62))) 19 (some (z + 65))) 20 (some (z + 68))) 21 (some (z + 71))))) 74 (.inr (2, [.int (0 : Int32), .int (0 : Int32), .int (0 : Int32), .int (0 : Int32), .int (0 : Int32), .int (0 : Int32), .int (0 : Int32), .int (0 : Int32), .int (0 : Int32), .int (0 : Int32), .null, .null]))) 75 (aI G 6 (fun _ => 0))) 76 (aI G 6 (fun _ => 0))) 74 (.inr (2, [.int (0 : Int32), .int (0 : Int32), .int (0 : Int32), .int (0 : Int32), .int (-1 : Int32), .int (0 : Int32), .int (-1 : Int32), .int (0 : Int32), .int (0 : Int32), .int (0 : Int32), .ref (z + 75), .ref (z + 76)]))) 7 (aE G 30 (va_up (va_up (va_up (va_up (va_up (va_up (va_up (va_up (va_up (va_up (va_up (va_up (va_up (va_up (va_up (va_up (va_up (va_up (va_up (va_up (va_up (va_up (va_up (fun _ => none) 0 (some (z + 8))) 1 (some (z + 11))) 2 (some (z + 14))) 3 (some (z + 17))) 4 (some (z + 20))) 5 (some (z + 23))) 6 (some (z + 26))) 7 (some (z + 29))) 8 (some (z + 32))) 9 (some (z + 35))) 10 (some (z + 38))) 11 (some (z + 41))) 12 (some (z + 44))) 13 (some (z + 47))) 14 (some (z + 50))) 15 (some (z + 53))) 16 (some (z + 56))) 17 (some (z + 59))) 18 (some (z + 62))) 19 (some (z + 65))) 20 (some (z + 68))) 21 (some (z + 71))) 22 (some (z + 74))))) 77 (.inr (2, [.int (0 : Int32), .int (0 : Int32), .int (0 : Int32), .int (0 : Int32), .int (0 : Int32), .int (0 : Int32), .int (0 : Int32), .int (0 : Int32), .int (0 : Int32), .int (0 : Int32), .null, .null]))) 78 (aI G 6 (fun _ => 0))) 79 (aI G 6 (fun _ => 0))) 77 (.inr (2, [.int (0 : Int32), .int (0 : Int32), .int (0 : Int32), .int (0 : Int32), .int (-1 : Int32), .int (0 : Int32), .int (-1 : Int32), .int (0 : Int32), .int (0 : Int32), .int (0 : Int32), .ref (z + 78), .ref (z + 79)]))) 7 (aE G 30 (va_up (va_up (va_up (va_up (va_up (va_up (va_up (va_up (va_up (va_up (va_up (va_up (va_up (va_up (va_up (va_up (va_up (va_up (va_up (va_up (va_up (va_up (va_up (va_up (fun _ => none) 0 (some (z + 8))) 1 (some (z + 11))) 2 (some (z + 14))) 3 (some (z + 17))) 4 (some (z + 20))) 5 (some (z + 23))) 6 (some (z + 26))) 7 (some (z + 29))) 8 (some (z + 32))) 9 (some (z + 35))) 10 (some (z + 38))) 11 (some (z + 41))) 12 (some (z + 44))) 13 (some (z + 47))) 14 (some (z + 50))) 15 (some (z + 53))) 16 (some (z + 56))) 17 (some (z + 59))) 18 (some (z + 62))) 19 (some (z + 65))) 20 (some (z + 68))) 21 (some (z + 71))) 22 (some (z + 74))) 23 (some (z + 77))))) 80 (.inr (2, [.int (0 : Int32), .int (0 : Int32), .int (0 : Int32), .int (0 : Int32), .int (0 : Int32), .int (0 : Int32), .int (0 : Int32), .int (0 : Int32), .int (0 : Int32), .int (0 : Int32), .null, .null]))) 81 (aI G 6 (fun _ => 0))) 82 (aI G 6 (fun _ => 0))) 80 (.inr (2, [.int (0 : Int32), .int (0 : Int32), .int (0 : Int32), .int (0 : Int32), .int (-1 : Int32), .int (0 : Int32), .int (-1 : Int32), .int (0 : Int32), .int (0 : Int32), .int (0 : Int32), .ref (z + 81), .ref (z + 82)]))) 7 (aE G 30 (va_up (va_up (va_up (va_up (va_up (va_up (va_up (va_up (va_up (va_up (va_up (va_up (va_up (va_up (va_up (va_up (va_up (va_up (va_up (va_up (va_up (va_up (va_up (va_up (va_up (fun _ => none) 0 (some (z + 8))) 1 (some (z + 11))) 2 (some (z + 14))) 3 (some (z + 17))) 4 (some (z + 20))) 5 (some (z + 23))) 6 (some (z + 26))) 7 (some (z + 29))) 8 (some (z + 32))) 9 (some (z + 35))) 10 (some (z + 38))) 11 (some (z + 41))) 12 (some (z + 44))) 13 (some (z + 47))) 14 (some (z + 50))) 15 (some (z + 53))) 16 (some (z + 56))) 17 (some (z + 59))) 18 (some (z + 62))) 19 (some (z + 65))) 20 (some (z + 68))) 21 (some (z + 71))) 22 (some (z + 74))) 23 (some (z + 77))) 24 (some (z + 80))))) 83 (.inr (2, [.int (0 : Int32), .int (0 : Int32), .int (0 : Int32), .int (0 : Int32), .int (0 : Int32), .int (0 : Int32), .int (0 : Int32), .int (0 : Int32), .int (0 : Int32), .int (0 : Int32), .null, .null]))) 84 (aI G 6 (fun _ => 0))) 85 (aI G 6 (fun _ => 0))) 83 (.inr (2, [.int (0 : Int32), .int (0 : Int32), .int (0 : Int32), .int (0 : Int32), .int (-1 : Int32), .int (0 : Int32), .int (-1 : Int32), .int (0 : Int32), .int (0 : Int32), .int (0 : Int32), .ref (z + 84), .ref (z + 85)]))) 7 (aE G 30 (va_up (va_up (va_up (va_up (va_up (va_up (va_up (va_up (va_up (va_up (va_up (va_up (va_up (va_up (va_up (va_up (va_up (va_up (va_up (va_up (va_up (va_up (va_up (va_up (va_up (va_up (fun _ => none) 0 (some (z + 8))) 1 (some (z + 11))) 2 (some (z + 14))) 3 (some (z + 17))) 4 (some (z + 20))) 5 (some (z + 23))) 6 (some (z + 26))) 7 (some (z + 29))) 8 (some (z + 32))) 9 (some (z + 35))) 10 (some (z + 38))) 11 (some (z + 41))) 12 (some (z + 44))) 13 (some (z + 47))) 14 (some (z + 50))) 15 (some (z + 53))) 16 (some (z + 56))) 17 (some (z + 59))) 18 (some (z + 62))) 19 (some (z + 65))) 20 (some (z + 68))) 21 (some (z + 71))) 22 (some (z + 74))) 23 (some (z + 77))) 24 (some (z + 80))) 25 (some (z + 83))))) 86 (.inr (2, [.int (0 : Int32), .int (0 : Int32), .int (0 : Int32), .int (0 : Int32), .int (0 : Int32), .int (0 : Int32), .int (0 : Int32), .int (0 : Int32), .int (0 : Int32), .int (0 : Int32), .null, .null]))) 87 (aI G 6 (fun _ => 0))) 88 (aI G 6 (fun _ => 0))) 86 (.inr (2, [.int (0 : Int32), .int (0 : Int32), .int (0 : Int32), .int (0 : Int32), .int (-1 : Int32), .int (0 : Int32), .int (-1 : Int32), .int (0 : Int32), .int (0 : Int32), .int (0 : Int32), .ref (z + 87), .ref (z + 88)]))) 7 (aE G 30 (va_up (va_up (va_up (va_up (va_up (va_up (va_up (va_up (va_up (va_up (va_up (va_up (va_up (va_up (va_up (va_up (va_up (va_up (va_up (va_up (va_up (va_up (va_up (va_up (va_up (va_up (va_up (fun _ => none) 0 (some (z + 8))) 1 (some (z + 11))) 2 (some (z + 14))) 3 (some (z + 17))) 4 (some (z + 20))) 5 (some (z + 23))) 6 (some (z + 26))) 7 (some (z + 29))) 8 (some (z + 32))) 9 (some (z + 35))) 10 (some (z + 38))) 11 (some (z + 41))) 12 (some (z + 44))) 13 (some (z + 47))) 14 (some (z + 50))) 15 (some (z + 53))) 16 (some (z + 56))) 17 (some (z + 59))) 18 (some (z + 62))) 19 (some (z + 65))) 20 (some (z + 68))) 21 (some (z + 71))) 22 (some (z + 74))) 23 (some (z + 77))) 24 (some (z + 80))) 25 (some (z + 83))) 26 (some (z + 86))))) 89 (.inr (2, [.int (0 : Int32), .int (0 : Int32), .int (0 : Int32), .int (0 : Int32), .int (0 : Int32), .int (0 : Int32), .int (0 : Int32), .int (0 : Int32), .int (0 : Int32), .int (0 : Int32), .null, .null]))) 90 (aI G 6 (fun _ => 0))) 91 (aI G 6 (fun _ => 0))) 89 (.inr (2, [.int (0 : Int32), .int (0 : Int32), .int (0 : Int32), .int (0 : Int32), .int (-1 : Int32), .int (0 : Int32), .int (-1 : Int32), .int (0 : Int32), .int (0 : Int32), .int (0 : Int32), .ref (z + 90), .ref (z + 91)]))) 7 (aE G 30 (va_up (va_up (va_up (va_up (va_up (va_up (va_up (va_up (va_up (va_up (va_up (va_up (va_up (va_up (va_up (va_up (va_up (va_up (va_up (va_up (va_up (va_up (va_up (va_up (va_up (va_up (va_up (va_up (fun _ => none) 0 (some (z + 8))) 1 (some (z + 11))) 2 (some (z + 14))) 3 (some (z + 17))) 4 (some (z + 20))) 5 (some (z + 23))) 6 (some (z + 26))) 7 (some (z + 29))) 8 (some (z + 32))) 9 (some (z + 35))) 10 (some (z + 38))) 11 (some (z + 41))) 12 (some (z + 44))) 13 (some (z + 47))) 14 (some (z + 50))) 15 (some (z + 53))) 16 (some (z + 56))) 17 (some (z + 59))) 18 (some (z + 62))) 19 (some (z + 65))) 20 (some (z + 68))) 21 (some (z + 71))) 22 (some (z + 74))) 23 (some (z + 77))) 24 (some (z + 80))) 25 (some (z + 83))) 26 (some (z + 86))) 27 (some (z + 89))))) 92 (.inr (2, [.int (0 : Int32), .int (0 : Int32), .int (0 : Int32), .int (0 : Int32), .int (0 : Int32), .int (0 : Int32), .int (0 : Int32), .int (0 : Int32), .int (0 : Int32), .int (0 : Int32), .null, .null]))) 93 (aI G 6 (fun _ => 0))) 94 (aI G 6 (fun _ => 0))) 92 (.inr (2, [.int (0 : Int32), .int (0 : Int32), .int (0 : Int32), .int (0 : Int32), .int (-1 : Int32), .int (0 : Int32), .int (-1 : Int32), .int (0 : Int32), .int (0 : Int32), .int (0 : Int32), .ref (z + 93), .ref (z + 94)]))) 7 (aE G 30 (va_up (va_up (va_up (va_up (va_up (va_up (va_up (va_up (va_up (va_up (va_up (va_up (va_up (va_up (va_up (va_up (va_up (va_up (va_up (va_up (va_up (va_up (va_up (va_up (va_up (va_up (va_up (va_up (va_up (fun _ => none) 0 (some (z + 8))) 1 (some (z + 11))) 2 (some (z + 14))) 3 (some (z + 17))) 4 (some (z + 20))) 5 (some (z + 23))) 6 (some (z + 26))) 7 (some (z + 29))) 8 (some (z + 32))) 9 (some (z + 35))) 10 (some (z + 38))) 11 (some (z + 41))) 12 (some (z + 44))) 13 (some (z + 47))) 14 (some (z + 50))) 15 (some (z + 53))) 16 (some (z + 56))) 17 (some (z + 59))) 18 (some (z + 62))) 19 (some (z + 65))) 20 (some (z + 68))) 21 (some (z + 71))) 22 (some (z + 74))) 23 (some (z + 77))) 24 (some (z + 80))) 25 (some (z + 83))) 26 (some (z + 86))) 27 (some (z + 89))) 28 (some (z + 92))))) 95 (.inr (2, [.int (0 : Int32), .int (0 : Int32), .int (0 : Int32), .int (0 : Int32), .int (0 : Int32), .int (0 : Int32), .int (0 : Int32), .int (0 : Int32), .int (0 : Int32), .int (0 : Int32), .null, .null]))) 96 (aI G 6 (fun _ => 0))) 97 (aI G 6 (fun _ => 0))) 95 (.inr (2, [.int (0 : Int32), .int (0 : Int32), .int (0 : Int32), .int (0 : Int32), .int (-1 : Int32), .int (0 : Int32), .int (-1 : Int32), .int (0 : Int32), .int (0 : Int32), .int (0 : Int32), .ref (z + 96), .ref (z + 97)]))) 7 (aE G 30 (va_up (va_up (va_up (va_up (va_up (va_up (va_up (va_up (va_up (va_up (va_up (va_up (va_up (va_up (va_up (va_up (va_up (va_up (va_up (va_up (va_up (va_up (va_up (va_up (va_up (va_up (va_up (va_up (va_up (va_up (fun _ => none) 0 (some (z + 8))) 1 (some (z + 11))) 2 (some (z + 14))) 3 (some (z + 17))) 4 (some (z + 20))) 5 (some (z + 23))) 6 (some (z + 26))) 7 (some (z + 29))) 8 (some (z + 32))) 9 (some (z + 35))) 10 (some (z + 38))) 11 (some (z + 41))) 12 (some (z + 44))) 13 (some (z + 47))) 14 (some (z + 50))) 15 (some (z + 53))) 16 (some (z + 56))) 17 (some (z + 59))) 18 (some (z + 62))) 19 (some (z + 65))) 20 (some (z + 68))) 21 (some (z + 71))) 22 (some (z + 74))) 23 (some (z + 77))) 24 (some (z + 80))) 25 (some (z + 83))) 26 (some (z + 86))) 27 (some (z + 89))) 28 (some (z + 92))) 29 (some (z + 95))))) 98 := by
  refine mt_of (by decide +kernel) (Nat.le_of_ble_eq_true rfl) ?_
  intro p e s m below meth c C hr hlk hnm
  refine x_aload_n C 0 dX6_init_0 rfl rfl ?_
  refine x_objInit C kmX6_3 kObjI kObjC (Nat.le_of_ble_eq_true rfl) (Nat.le_of_ble_eq_true rfl) dX6_init_1 ?_
  refine x_aload_n C 0 dX6_init_4 rfl rfl ?_
  refine x_bipush (v := (30 : Int32)) C dX6_init_5 (by decide) ?_
  refine x_anew0 C 3 rfl C.2.2.2.2.2.1.2.1 koX6_9 30 (by decide) (by decide) (Nat.le_of_ble_eq_true rfl) (Nat.le_of_ble_eq_true rfl) (Nat.le_of_ble_eq_true rfl) dX6_init_7 ?_
  obtain ⟨u1, eu1⟩ : ∃ w : HpT, w = (hup u 7 (aE G 30 (fun _ => none))) := ⟨_, rfl⟩
  refine x_norm (st2 := [.ref (z + 7), .ref (z + 6)]) (kc2 := 1) (ks2 := 30) (n2 := 8) rfl rfl rfl rfl eu1.symm ?_
  have k6_1 := (congrFun eu1 6).trans (hup_n' (by decide) (h6))
  obtain ⟨u2, eu2⟩ : ∃ w : HpT, w = (hup u1 6 (.inr (5, [.ref (z + 7), .int (0 : Int32), .int (0 : Int32)]))) := ⟨_, rfl⟩
  refine pfX6_11 C dX6_init_10 hnm k6_1 (Nat.le_of_ble_eq_true rfl) rfl eu2.symm ?_
  refine x_aload_n C 0 dX6_init_13 rfl rfl ?_
  refine x_iconst (v := (0 : Int32)) C dX6_init_14 (by decide) ?_
  have k6_2 := (congrFun eu2 6).trans (hup_s _ _ _)
  obtain ⟨u3, eu3⟩ : ∃ w : HpT, w = (hup u2 6 (.inr (5, [.ref (z + 7), .int (0 : Int32), .int (0 : Int32)]))) := ⟨_, rfl⟩
  refine pfX6_17 C dX6_init_15 k6_2 (Nat.le_of_ble_eq_true rfl) rfl eu3.symm ?_
  refine x_aload_n C 0 dX6_init_18 rfl rfl ?_
  refine x_iconst (v := (0 : Int32)) C dX6_init_19 (by decide) ?_
  have k6_3 := (congrFun eu3 6).trans (hup_s _ _ _)
  obtain ⟨u4, eu4⟩ : ∃ w : HpT, w = (hup u3 6 (.inr (5, [.ref (z + 7), .int (0 : Int32), .int (0 : Int32)]))) := ⟨_, rfl⟩
  refine pfX6_21 C dX6_init_20 k6_3 (Nat.le_of_ble_eq_true rfl) rfl eu4.symm ?_
  refine x_iconst (v := (0 : Int32)) C dX6_init_23 (by decide) ?_
  refine x_istore_n C [(1, .int (0 : Int32)), (0, .ref (z + 6))] dX6_init_24 rfl (by decide) rfl ?_
  refine x_iload_n C 0 dX6_init_25 rfl rfl ?_
  refine x_aload_n C 1 dX6_init_26 rfl rfl ?_
  have k6_4 := (congrFun eu4 6).trans (hup_s _ _ _)
  refine gfX6_11 C dX6_init_27 k6_4 rfl ?_
  have k7_1 := (congrFun eu1 7).trans (hup_s _ _ _)
  have k7_2 := (congrFun eu2 7).trans (hup_n' (by decide) (k7_1))
  have k7_3 := (congrFun eu3 7).trans (hup_n' (by decide) (k7_2))
  have k7_4 := (congrFun eu4 7).trans (hup_n' (by decide) (k7_3))
  refine x_alen (v := (30 : Int32)) C 3 k7_4 rfl rfl dX6_init_30 ?_
  refine x_icmp_ge_f C 53 dX6_init_31 (by decide) (by decide) ?_
  refine x_aload_n C 1 dX6_init_34 rfl rfl ?_
  refine gfX6_11 C dX6_init_35 k6_4 rfl ?_
  refine x_iload_n C 0 dX6_init_38 rfl rfl ?_
  refine x_new C gdX3 tyX3 tyX3_ok (ci := 2) rfl koX6_9 kiX3 kzX3 [.int (0 : Int32), .int (0 : Int32), .int (0 : Int32), .int (0 : Int32), .int (0 : Int32), .int (0 : Int32), .int (0 : Int32), .int (0 : Int32), .int (0 : Int32), .int (0 : Int32), .null, .null] (by decide +kernel) (Nat.le_of_ble_eq_true rfl) (Nat.le_of_ble_eq_true rfl) dX6_init_39 ?_
  obtain ⟨u5, eu5⟩ : ∃ w : HpT, w = (hup u4 8 (.inr (2, [.int (0 : Int32), .int (0 : Int32), .int (0 : Int32), .int (0 : Int32), .int (0 : Int32), .int (0 : Int32), .int (0 : Int32), .int (0 : Int32), .int (0 : Int32), .int (0 : Int32), .null, .null]))) := ⟨_, rfl⟩
  refine x_norm (st2 := [.ref (z + 8), .int (0 : Int32), .ref (z + 7)]) (kc2 := 2) (ks2 := 42) (n2 := 9) rfl rfl rfl rfl eu5.symm ?_
  refine x_dup C dX6_init_42 rfl ?_
  have k8_5 := (congrFun eu5 8).trans (hup_s _ _ _)
  refine x_callIN C cl_X3_init knX6_24 (b := z + 8) (As := []) (rest := [.ref (z + 8), .int (0 : Int32), .ref (z + 7)]) (p_X3_init_1 u5 k8_5) rfl rfl (Nat.le_of_ble_eq_true rfl) ⟨Nat.le_of_ble_eq_true rfl, Nat.le_of_ble_eq_true rfl⟩ ⟨Nat.le_of_ble_eq_true rfl, Nat.le_of_ble_eq_true rfl⟩ dX6_init_43 ?_
  obtain ⟨u6, eu6⟩ : ∃ w : HpT, w = (hup (hup (hup u5 9 (aI G 6 (fun _ => 0))) 10 (aI G 6 (fun _ => 0))) 8 (.inr (2, [.int (0 : Int32), .int (0 : Int32), .int (0 : Int32), .int (0 : Int32), .int (-1 : Int32), .int (0 : Int32), .int (-1 : Int32), .int (0 : Int32), .int (0 : Int32), .int (0 : Int32), .ref (z + 9), .ref (z + 10)]))) := ⟨_, rfl⟩
  refine x_norm (st2 := [.ref (z + 8), .int (0 : Int32), .ref (z + 7)]) (kc2 := 4) (ks2 := 54) (n2 := 11) rfl rfl rfl rfl eu6.symm ?_
  have k7_5 := (congrFun eu5 7).trans (hup_n' (by decide) (k7_4))
  have k7_6 := (congrFun eu6 7).trans (hup_n' (by decide) (hup_n' (by decide) (hup_n' (by decide) (k7_5))))
  have k8_6 := (congrFun eu6 8).trans (hup_s _ _ _)
  refine x_aastk C 3 2 (r := (RX3, TX3, 12)) rfl k7_6 k8_6 rfl (vp_in_lit (by decide) (by decide)) (k := 0) (by decide) dX6_init_46 ?_
  obtain ⟨u7, eu7⟩ : ∃ w : HpT, w = (hup u6 7 (aE G 30 (va_up (fun _ => none) 0 (some (z + 8))))) := ⟨_, rfl⟩
  refine x_heap (u2 := u7) eu7.symm ?_
  refine x_iinc C 0 [(1, .int (1 : Int32)), (0, .ref (z + 6))] dX6_init_47 rfl (by decide) (by decide) rfl ?_
  refine x_goto C 25 dX6_init_50 (by decide) ?_
  refine x_iload_n C 0 dX6_init_25 rfl rfl ?_
  refine x_aload_n C 1 dX6_init_26 rfl rfl ?_
  have k6_5 := (congrFun eu5 6).trans (hup_n' (by decide) (k6_4))
  have k6_6 := (congrFun eu6 6).trans (hup_n' (by decide) (hup_n' (by decide) (hup_n' (by decide) (k6_5))))
  have k6_7 := (congrFun eu7 6).trans (hup_n' (by decide) (k6_6))
  refine gfX6_11 C dX6_init_27 k6_7 rfl ?_
  have k7_7 := (congrFun eu7 7).trans (hup_s _ _ _)
  refine x_alen (v := (30 : Int32)) C 3 k7_7 rfl rfl dX6_init_30 ?_
  refine x_icmp_ge_f C 53 dX6_init_31 (by decide) (by decide) ?_
  refine x_aload_n C 1 dX6_init_34 rfl rfl ?_
  refine gfX6_11 C dX6_init_35 k6_7 rfl ?_
  refine x_iload_n C 0 dX6_init_38 rfl rfl ?_
  refine x_new C gdX3 tyX3 tyX3_ok (ci := 2) rfl koX6_9 kiX3 kzX3 [.int (0 : Int32), .int (0 : Int32), .int (0 : Int32), .int (0 : Int32), .int (0 : Int32), .int (0 : Int32), .int (0 : Int32), .int (0 : Int32), .int (0 : Int32), .int (0 : Int32), .null, .null] (by decide +kernel) (Nat.le_of_ble_eq_true rfl) (Nat.le_of_ble_eq_true rfl) dX6_init_39 ?_
  obtain ⟨u8, eu8⟩ : ∃ w : HpT, w = (hup u7 11 (.inr (2, [.int (0 : Int32), .int (0 : Int32), .int (0 : Int32), .int (0 : Int32), .int (0 : Int32), .int (0 : Int32), .int (0 : Int32), .int (0 : Int32), .int (0 : Int32), .int (0 : Int32), .null, .null]))) := ⟨_, rfl⟩
  refine x_norm (st2 := [.ref (z + 11), .int (1 : Int32), .ref (z + 7)]) (kc2 := 5) (ks2 := 66) (n2 := 12) rfl rfl rfl rfl eu8.symm ?_
  refine x_dup C dX6_init_42 rfl ?_
  have k11_8 := (congrFun eu8 11).trans (hup_s _ _ _)
  refine x_callIN C cl_X3_init knX6_24 (b := z + 11) (As := []) (rest := [.ref (z + 11), .int (1 : Int32), .ref (z + 7)]) (p_X3_init_2 u8 k11_8) rfl rfl (Nat.le_of_ble_eq_true rfl) ⟨Nat.le_of_ble_eq_true rfl, Nat.le_of_ble_eq_true rfl⟩ ⟨Nat.le_of_ble_eq_true rfl, Nat.le_of_ble_eq_true rfl⟩ dX6_init_43 ?_
  obtain ⟨u9, eu9⟩ : ∃ w : HpT, w = (hup (hup (hup u8 12 (aI G 6 (fun _ => 0))) 13 (aI G 6 (fun _ => 0))) 11 (.inr (2, [.int (0 : Int32), .int (0 : Int32), .int (0 : Int32), .int (0 : Int32), .int (-1 : Int32), .int (0 : Int32), .int (-1 : Int32), .int (0 : Int32), .int (0 : Int32), .int (0 : Int32), .ref (z + 12), .ref (z + 13)]))) := ⟨_, rfl⟩
  refine x_norm (st2 := [.ref (z + 11), .int (1 : Int32), .ref (z + 7)]) (kc2 := 7) (ks2 := 78) (n2 := 14) rfl rfl rfl rfl eu9.symm ?_
  have k7_8 := (congrFun eu8 7).trans (hup_n' (by decide) (k7_7))
  have k7_9 := (congrFun eu9 7).trans (hup_n' (by decide) (hup_n' (by decide) (hup_n' (by decide) (k7_8))))
  have k11_9 := (congrFun eu9 11).trans (hup_s _ _ _)
  refine x_aastk C 3 2 (r := (RX3, TX3, 12)) rfl k7_9 k11_9 rfl (vp_in_lit (by decide) (by decide)) (k := 1) (by decide) dX6_init_46 ?_
  obtain ⟨u10, eu10⟩ : ∃ w : HpT, w = (hup u9 7 (aE G 30 (va_up (va_up (fun _ => none) 0 (some (z + 8))) 1 (some (z + 11))))) := ⟨_, rfl⟩
  refine x_heap (u2 := u10) eu10.symm ?_
  refine x_iinc C 0 [(1, .int (2 : Int32)), (0, .ref (z + 6))] dX6_init_47 rfl (by decide) (by decide) rfl ?_
  refine x_goto C 25 dX6_init_50 (by decide) ?_
  refine x_iload_n C 0 dX6_init_25 rfl rfl ?_
  refine x_aload_n C 1 dX6_init_26 rfl rfl ?_
  have k6_8 := (congrFun eu8 6).trans (hup_n' (by decide) (k6_7))
  have k6_9 := (congrFun eu9 6).trans (hup_n' (by decide) (hup_n' (by decide) (hup_n' (by decide) (k6_8))))
  have k6_10 := (congrFun eu10 6).trans (hup_n' (by decide) (k6_9))
  refine gfX6_11 C dX6_init_27 k6_10 rfl ?_
  have k7_10 := (congrFun eu10 7).trans (hup_s _ _ _)
  refine x_alen (v := (30 : Int32)) C 3 k7_10 rfl rfl dX6_init_30 ?_
  refine x_icmp_ge_f C 53 dX6_init_31 (by decide) (by decide) ?_
  refine x_aload_n C 1 dX6_init_34 rfl rfl ?_
  refine gfX6_11 C dX6_init_35 k6_10 rfl ?_
  refine x_iload_n C 0 dX6_init_38 rfl rfl ?_
  refine x_new C gdX3 tyX3 tyX3_ok (ci := 2) rfl koX6_9 kiX3 kzX3 [.int (0 : Int32), .int (0 : Int32), .int (0 : Int32), .int (0 : Int32), .int (0 : Int32), .int (0 : Int32), .int (0 : Int32), .int (0 : Int32), .int (0 : Int32), .int (0 : Int32), .null, .null] (by decide +kernel) (Nat.le_of_ble_eq_true rfl) (Nat.le_of_ble_eq_true rfl) dX6_init_39 ?_
  obtain ⟨u11, eu11⟩ : ∃ w : HpT, w = (hup u10 14 (.inr (2, [.int (0 : Int32), .int (0 : Int32), .int (0 : Int32), .int (0 : Int32), .int (0 : Int32), .int (0 : Int32), .int (0 : Int32), .int (0 : Int32), .int (0 : Int32), .int (0 : Int32), .null, .null]))) := ⟨_, rfl⟩
  refine x_norm (st2 := [.ref (z + 14), .int (2 : Int32), .ref (z + 7)]) (kc2 := 8) (ks2 := 90) (n2 := 15) rfl rfl rfl rfl eu11.symm ?_
  refine x_dup C dX6_init_42 rfl ?_
  have k14_11 := (congrFun eu11 14).trans (hup_s _ _ _)
  refine x_callIN C cl_X3_init knX6_24 (b := z + 14) (As := []) (rest := [.ref (z + 14), .int (2 : Int32), .ref (z + 7)]) (p_X3_init_3 u11 k14_11) rfl rfl (Nat.le_of_ble_eq_true rfl) ⟨Nat.le_of_ble_eq_true rfl, Nat.le_of_ble_eq_true rfl⟩ ⟨Nat.le_of_ble_eq_true rfl, Nat.le_of_ble_eq_true rfl⟩ dX6_init_43 ?_
  obtain ⟨u12, eu12⟩ : ∃ w : HpT, w = (hup (hup (hup u11 15 (aI G 6 (fun _ => 0))) 16 (aI G 6 (fun _ => 0))) 14 (.inr (2, [.int (0 : Int32), .int (0 : Int32), .int (0 : Int32), .int (0 : Int32), .int (-1 : Int32), .int (0 : Int32), .int (-1 : Int32), .int (0 : Int32), .int (0 : Int32), .int (0 : Int32), .ref (z + 15), .ref (z + 16)]))) := ⟨_, rfl⟩
  refine x_norm (st2 := [.ref (z + 14), .int (2 : Int32), .ref (z + 7)]) (kc2 := 10) (ks2 := 102) (n2 := 17) rfl rfl rfl rfl eu12.symm ?_
  have k7_11 := (congrFun eu11 7).trans (hup_n' (by decide) (k7_10))
  have k7_12 := (congrFun eu12 7).trans (hup_n' (by decide) (hup_n' (by decide) (hup_n' (by decide) (k7_11))))
  have k14_12 := (congrFun eu12 14).trans (hup_s _ _ _)
  refine x_aastk C 3 2 (r := (RX3, TX3, 12)) rfl k7_12 k14_12 rfl (vp_in_lit (by decide) (by decide)) (k := 2) (by decide) dX6_init_46 ?_
  obtain ⟨u13, eu13⟩ : ∃ w : HpT, w = (hup u12 7 (aE G 30 (va_up (va_up (va_up (fun _ => none) 0 (some (z + 8))) 1 (some (z + 11))) 2 (some (z + 14))))) := ⟨_, rfl⟩
  refine x_heap (u2 := u13) eu13.symm ?_
  refine x_iinc C 0 [(1, .int (3 : Int32)), (0, .ref (z + 6))] dX6_init_47 rfl (by decide) (by decide) rfl ?_
  refine x_goto C 25 dX6_init_50 (by decide) ?_
  refine x_iload_n C 0 dX6_init_25 rfl rfl ?_
  refine x_aload_n C 1 dX6_init_26 rfl rfl ?_
  have k6_11 := (congrFun eu11 6).trans (hup_n' (by decide) (k6_10))
  have k6_12 := (congrFun eu12 6).trans (hup_n' (by decide) (hup_n' (by decide) (hup_n' (by decide) (k6_11))))
  have k6_13 := (congrFun eu13 6).trans (hup_n' (by decide) (k6_12))
  refine gfX6_11 C dX6_init_27 k6_13 rfl ?_
  have k7_13 := (congrFun eu13 7).trans (hup_s _ _ _)
  refine x_alen (v := (30 : Int32)) C 3 k7_13 rfl rfl dX6_init_30 ?_
  refine x_icmp_ge_f C 53 dX6_init_31 (by decide) (by decide) ?_
  refine x_aload_n C 1 dX6_init_34 rfl rfl ?_
  refine gfX6_11 C dX6_init_35 k6_13 rfl ?_
  refine x_iload_n C 0 dX6_init_38 rfl rfl ?_
  refine x_new C gdX3 tyX3 tyX3_ok (ci := 2) rfl koX6_9 kiX3 kzX3 [.int (0 : Int32), .int (0 : Int32), .int (0 : Int32), .int (0 : Int32), .int (0 : Int32), .int (0 : Int32), .int (0 : Int32), .int (0 : Int32), .int (0 : Int32), .int (0 : Int32), .null, .null] (by decide +kernel) (Nat.le_of_ble_eq_true rfl) (Nat.le_of_ble_eq_true rfl) dX6_init_39 ?_
  obtain ⟨u14, eu14⟩ : ∃ w : HpT, w = (hup u13 17 (.inr (2, [.int (0 : Int32), .int (0 : Int32), .int (0 : Int32), .int (0 : Int32), .int (0 : Int32), .int (0 : Int32), .int (0 : Int32), .int (0 : Int32), .int (0 : Int32), .int (0 : Int32), .null, .null]))) := ⟨_, rfl⟩
  refine x_norm (st2 := [.ref (z + 17), .int (3 : Int32), .ref (z + 7)]) (kc2 := 11) (ks2 := 114) (n2 := 18) rfl rfl rfl rfl eu14.symm ?_
  refine x_dup C dX6_init_42 rfl ?_
  have k17_14 := (congrFun eu14 17).trans (hup_s _ _ _)
  refine x_callIN C cl_X3_init knX6_24 (b := z + 17) (As := []) (rest := [.ref (z + 17), .int (3 : Int32), .ref (z + 7)]) (p_X3_init_4 u14 k17_14) rfl rfl (Nat.le_of_ble_eq_true rfl) ⟨Nat.le_of_ble_eq_true rfl, Nat.le_of_ble_eq_true rfl⟩ ⟨Nat.le_of_ble_eq_true rfl, Nat.le_of_ble_eq_true rfl⟩ dX6_init_43 ?_
  obtain ⟨u15, eu15⟩ : ∃ w : HpT, w = (hup (hup (hup u14 18 (aI G 6 (fun _ => 0))) 19 (aI G 6 (fun _ => 0))) 17 (.inr (2, [.int (0 : Int32), .int (0 : Int32), .int (0 : Int32), .int (0 : Int32), .int (-1 : Int32), .int (0 : Int32), .int (-1 : Int32), .int (0 : Int32), .int (0 : Int32), .int (0 : Int32), .ref (z + 18), .ref (z + 19)]))) := ⟨_, rfl⟩
  refine x_norm (st2 := [.ref (z + 17), .int (3 : Int32), .ref (z + 7)]) (kc2 := 13) (ks2 := 126) (n2 := 20) rfl rfl rfl rfl eu15.symm ?_
  have k7_14 := (congrFun eu14 7).trans (hup_n' (by decide) (k7_13))
  have k7_15 := (congrFun eu15 7).trans (hup_n' (by decide) (hup_n' (by decide) (hup_n' (by decide) (k7_14))))
  have k17_15 := (congrFun eu15 17).trans (hup_s _ _ _)
  refine x_aastk C 3 2 (r := (RX3, TX3, 12)) rfl k7_15 k17_15 rfl (vp_in_lit (by decide) (by decide)) (k := 3) (by decide) dX6_init_46 ?_
  obtain ⟨u16, eu16⟩ : ∃ w : HpT, w = (hup u15 7 (aE G 30 (va_up (va_up (va_up (va_up (fun _ => none) 0 (some (z + 8))) 1 (some (z + 11))) 2 (some (z + 14))) 3 (some (z + 17))))) := ⟨_, rfl⟩
  refine x_heap (u2 := u16) eu16.symm ?_
  refine x_iinc C 0 [(1, .int (4 : Int32)), (0, .ref (z + 6))] dX6_init_47 rfl (by decide) (by decide) rfl ?_
  refine x_goto C 25 dX6_init_50 (by decide) ?_
  refine x_iload_n C 0 dX6_init_25 rfl rfl ?_
  refine x_aload_n C 1 dX6_init_26 rfl rfl ?_
  have k6_14 := (congrFun eu14 6).trans (hup_n' (by decide) (k6_13))
  have k6_15 := (congrFun eu15 6).trans (hup_n' (by decide) (hup_n' (by decide) (hup_n' (by decide) (k6_14))))
  have k6_16 := (congrFun eu16 6).trans (hup_n' (by decide) (k6_15))
  refine gfX6_11 C dX6_init_27 k6_16 rfl ?_
  have k7_16 := (congrFun eu16 7).trans (hup_s _ _ _)
  refine x_alen (v := (30 : Int32)) C 3 k7_16 rfl rfl dX6_init_30 ?_
  refine x_icmp_ge_f C 53 dX6_init_31 (by decide) (by decide) ?_
  refine x_aload_n C 1 dX6_init_34 rfl rfl ?_
  refine gfX6_11 C dX6_init_35 k6_16 rfl ?_
  refine x_iload_n C 0 dX6_init_38 rfl rfl ?_
  refine x_new C gdX3 tyX3 tyX3_ok (ci := 2) rfl koX6_9 kiX3 kzX3 [.int (0 : Int32), .int (0 : Int32), .int (0 : Int32), .int (0 : Int32), .int (0 : Int32), .int (0 : Int32), .int (0 : Int32), .int (0 : Int32), .int (0 : Int32), .int (0 : Int32), .null, .null] (by decide +kernel) (Nat.le_of_ble_eq_true rfl) (Nat.le_of_ble_eq_true rfl) dX6_init_39 ?_
  obtain ⟨u17, eu17⟩ : ∃ w : HpT, w = (hup u16 20 (.inr (2, [.int (0 : Int32), .int (0 : Int32), .int (0 : Int32), .int (0 : Int32), .int (0 : Int32), .int (0 : Int32), .int (0 : Int32), .int (0 : Int32), .int (0 : Int32), .int (0 : Int32), .null, .null]))) := ⟨_, rfl⟩
  refine x_norm (st2 := [.ref (z + 20), .int (4 : Int32), .ref (z + 7)]) (kc2 := 14) (ks2 := 138) (n2 := 21) rfl rfl rfl rfl eu17.symm ?_
  refine x_dup C dX6_init_42 rfl ?_
  have k20_17 := (congrFun eu17 20).trans (hup_s _ _ _)
  refine x_callIN C cl_X3_init knX6_24 (b := z + 20) (As := []) (rest := [.ref (z + 20), .int (4 : Int32), .ref (z + 7)]) (p_X3_init_5 u17 k20_17) rfl rfl (Nat.le_of_ble_eq_true rfl) ⟨Nat.le_of_ble_eq_true rfl, Nat.le_of_ble_eq_true rfl⟩ ⟨Nat.le_of_ble_eq_true rfl, Nat.le_of_ble_eq_true rfl⟩ dX6_init_43 ?_
  obtain ⟨u18, eu18⟩ : ∃ w : HpT, w = (hup (hup (hup u17 21 (aI G 6 (fun _ => 0))) 22 (aI G 6 (fun _ => 0))) 20 (.inr (2, [.int (0 : Int32), .int (0 : Int32), .int (0 : Int32), .int (0 : Int32), .int (-1 : Int32), .int (0 : Int32), .int (-1 : Int32), .int (0 : Int32), .int (0 : Int32), .int (0 : Int32), .ref (z + 21), .ref (z + 22)]))) := ⟨_, rfl⟩
  refine x_norm (st2 := [.ref (z + 20), .int (4 : Int32), .ref (z + 7)]) (kc2 := 16) (ks2 := 150) (n2 := 23) rfl rfl rfl rfl eu18.symm ?_
  have k7_17 := (congrFun eu17 7).trans (hup_n' (by decide) (k7_16))
  have k7_18 := (congrFun eu18 7).trans (hup_n' (by decide) (hup_n' (by decide) (hup_n' (by decide) (k7_17))))
  have k20_18 := (congrFun eu18 20).trans (hup_s _ _ _)
  refine x_aastk C 3 2 (r := (RX3, TX3, 12)) rfl k7_18 k20_18 rfl (vp_in_lit (by decide) (by decide)) (k := 4) (by decide) dX6_init_46 ?_
  obtain ⟨u19, eu19⟩ : ∃ w : HpT, w = (hup u18 7 (aE G 30 (va_up (va_up (va_up (va_up (va_up (fun _ => none) 0 (some (z + 8))) 1 (some (z + 11))) 2 (some (z + 14))) 3 (some (z + 17))) 4 (some (z + 20))))) := ⟨_, rfl⟩
  refine x_heap (u2 := u19) eu19.symm ?_
  refine x_iinc C 0 [(1, .int (5 : Int32)), (0, .ref (z + 6))] dX6_init_47 rfl (by decide) (by decide) rfl ?_
  refine x_goto C 25 dX6_init_50 (by decide) ?_
  refine x_iload_n C 0 dX6_init_25 rfl rfl ?_
  refine x_aload_n C 1 dX6_init_26 rfl rfl ?_
  have k6_17 := (congrFun eu17 6).trans (hup_n' (by decide) (k6_16))
  have k6_18 := (congrFun eu18 6).trans (hup_n' (by decide) (hup_n' (by decide) (hup_n' (by decide) (k6_17))))
  have k6_19 := (congrFun eu19 6).trans (hup_n' (by decide) (k6_18))
  refine gfX6_11 C dX6_init_27 k6_19 rfl ?_
  have k7_19 := (congrFun eu19 7).trans (hup_s _ _ _)
  refine x_alen (v := (30 : Int32)) C 3 k7_19 rfl rfl dX6_init_30 ?_
  refine x_icmp_ge_f C 53 dX6_init_31 (by decide) (by decide) ?_
  refine x_aload_n C 1 dX6_init_34 rfl rfl ?_
  refine gfX6_11 C dX6_init_35 k6_19 rfl ?_
  refine x_iload_n C 0 dX6_init_38 rfl rfl ?_
  refine x_new C gdX3 tyX3 tyX3_ok (ci := 2) rfl koX6_9 kiX3 kzX3 [.int (0 : Int32), .int (0 : Int32), .int (0 : Int32), .int (0 : Int32), .int (0 : Int32), .int (0 : Int32), .int (0 : Int32), .int (0 : Int32), .int (0 : Int32), .int (0 : Int32), .null, .null] (by decide +kernel) (Nat.le_of_ble_eq_true rfl) (Nat.le_of_ble_eq_true rfl) dX6_init_39 ?_
  obtain ⟨u20, eu20⟩ : ∃ w : HpT, w = (hup u19 23 (.inr (2, [.int (0 : Int32), .int (0 : Int32), .int (0 : Int32), .int (0 : Int32), .int (0 : Int32), .int (0 : Int32), .int (0 : Int32), .int (0 : Int32), .int (0 : Int32), .int (0 : Int32), .null, .null]))) := ⟨_, rfl⟩
  refine x_norm (st2 := [.ref (z + 23), .int (5 : Int32), .ref (z + 7)]) (kc2 := 17) (ks2 := 162) (n2 := 24) rfl rfl rfl rfl eu20.symm ?_
  refine x_dup C dX6_init_42 rfl ?_
  have k23_20 := (congrFun eu20 23).trans (hup_s _ _ _)
  refine x_callIN C cl_X3_init knX6_24 (b := z + 23) (As := []) (rest := [.ref (z + 23), .int (5 : Int32), .ref (z + 7)]) (p_X3_init_6 u20 k23_20) rfl rfl (Nat.le_of_ble_eq_true rfl) ⟨Nat.le_of_ble_eq_true rfl, Nat.le_of_ble_eq_true rfl⟩ ⟨Nat.le_of_ble_eq_true rfl, Nat.le_of_ble_eq_true rfl⟩ dX6_init_43 ?_
  obtain ⟨u21, eu21⟩ : ∃ w : HpT, w = (hup (hup (hup u20 24 (aI G 6 (fun _ => 0))) 25 (aI G 6 (fun _ => 0))) 23 (.inr (2, [.int (0 : Int32), .int (0 : Int32), .int (0 : Int32), .int (0 : Int32), .int (-1 : Int32), .int (0 : Int32), .int (-1 : Int32), .int (0 : Int32), .int (0 : Int32), .int (0 : Int32), .ref (z + 24), .ref (z + 25)]))) := ⟨_, rfl⟩
  refine x_norm (st2 := [.ref (z + 23), .int (5 : Int32), .ref (z + 7)]) (kc2 := 19) (ks2 := 174) (n2 := 26) rfl rfl rfl rfl eu21.symm ?_
  have k7_20 := (congrFun eu20 7).trans (hup_n' (by decide) (k7_19))
  have k7_21 := (congrFun eu21 7).trans (hup_n' (by decide) (hup_n' (by decide) (hup_n' (by decide) (k7_20))))
  have k23_21 := (congrFun eu21 23).trans (hup_s _ _ _)
  refine x_aastk C 3 2 (r := (RX3, TX3, 12)) rfl k7_21 k23_21 rfl (vp_in_lit (by decide) (by decide)) (k := 5) (by decide) dX6_init_46 ?_
  obtain ⟨u22, eu22⟩ : ∃ w : HpT, w = (hup u21 7 (aE G 30 (va_up (va_up (va_up (va_up (va_up (va_up (fun _ => none) 0 (some (z + 8))) 1 (some (z + 11))) 2 (some (z + 14))) 3 (some (z + 17))) 4 (some (z + 20))) 5 (some (z + 23))))) := ⟨_, rfl⟩
  refine x_heap (u2 := u22) eu22.symm ?_
  refine x_iinc C 0 [(1, .int (6 : Int32)), (0, .ref (z + 6))] dX6_init_47 rfl (by decide) (by decide) rfl ?_
  refine x_goto C 25 dX6_init_50 (by decide) ?_
  refine x_iload_n C 0 dX6_init_25 rfl rfl ?_
  refine x_aload_n C 1 dX6_init_26 rfl rfl ?_
  have k6_20 := (congrFun eu20 6).trans (hup_n' (by decide) (k6_19))
  have k6_21 := (congrFun eu21 6).trans (hup_n' (by decide) (hup_n' (by decide) (hup_n' (by decide) (k6_20))))
  have k6_22 := (congrFun eu22 6).trans (hup_n' (by decide) (k6_21))
  refine gfX6_11 C dX6_init_27 k6_22 rfl ?_
  have k7_22 := (congrFun eu22 7).trans (hup_s _ _ _)
  refine x_alen (v := (30 : Int32)) C 3 k7_22 rfl rfl dX6_init_30 ?_
  refine x_icmp_ge_f C 53 dX6_init_31 (by decide) (by decide) ?_
  refine x_aload_n C 1 dX6_init_34 rfl rfl ?_
  refine gfX6_11 C dX6_init_35 k6_22 rfl ?_
  refine x_iload_n C 0 dX6_init_38 rfl rfl ?_
  refine x_new C gdX3 tyX3 tyX3_ok (ci := 2) rfl koX6_9 kiX3 kzX3 [.int (0 : Int32), .int (0 : Int32), .int (0 : Int32), .int (0 : Int32), .int (0 : Int32), .int (0 : Int32), .int (0 : Int32), .int (0 : Int32), .int (0 : Int32), .int (0 : Int32), .null, .null] (by decide +kernel) (Nat.le_of_ble_eq_true rfl) (Nat.le_of_ble_eq_true rfl) dX6_init_39 ?_
  obtain ⟨u23, eu23⟩ : ∃ w : HpT, w = (hup u22 26 (.inr (2, [.int (0 : Int32), .int (0 : Int32), .int (0 : Int32), .int (0 : Int32), .int (0 : Int32), .int (0 : Int32), .int (0 : Int32), .int (0 : Int32), .int (0 : Int32), .int (0 : Int32), .null, .null]))) := ⟨_, rfl⟩
  refine x_norm (st2 := [.ref (z + 26), .int (6 : Int32), .ref (z + 7)]) (kc2 := 20) (ks2 := 186) (n2 := 27) rfl rfl rfl rfl eu23.symm ?_
  refine x_dup C dX6_init_42 rfl ?_
  have k26_23 := (congrFun eu23 26).trans (hup_s _ _ _)
  refine x_callIN C cl_X3_init knX6_24 (b := z + 26) (As := []) (rest := [.ref (z + 26), .int (6 : Int32), .ref (z + 7)]) (p_X3_init_7 u23 k26_23) rfl rfl (Nat.le_of_ble_eq_true rfl) ⟨Nat.le_of_ble_eq_true rfl, Nat.le_of_ble_eq_true rfl⟩ ⟨Nat.le_of_ble_eq_true rfl, Nat.le_of_ble_eq_true rfl⟩ dX6_init_43 ?_
  obtain ⟨u24, eu24⟩ : ∃ w : HpT, w = (hup (hup (hup u23 27 (aI G 6 (fun _ => 0))) 28 (aI G 6 (fun _ => 0))) 26 (.inr (2, [.int (0 : Int32), .int (0 : Int32), .int (0 : Int32), .int (0 : Int32), .int (-1 : Int32), .int (0 : Int32), .int (-1 : Int32), .int (0 : Int32), .int (0 : Int32), .int (0 : Int32), .ref (z + 27), .ref (z + 28)]))) := ⟨_, rfl⟩
  refine x_norm (st2 := [.ref (z + 26), .int (6 : Int32), .ref (z + 7)]) (kc2 := 22) (ks2 := 198) (n2 := 29) rfl rfl rfl rfl eu24.symm ?_
  have k7_23 := (congrFun eu23 7).trans (hup_n' (by decide) (k7_22))
  have k7_24 := (congrFun eu24 7).trans (hup_n' (by decide) (hup_n' (by decide) (hup_n' (by decide) (k7_23))))
  have k26_24 := (congrFun eu24 26).trans (hup_s _ _ _)
  refine x_aastk C 3 2 (r := (RX3, TX3, 12)) rfl k7_24 k26_24 rfl (vp_in_lit (by decide) (by decide)) (k := 6) (by decide) dX6_init_46 ?_
  obtain ⟨u25, eu25⟩ : ∃ w : HpT, w = (hup u24 7 (aE G 30 (va_up (va_up (va_up (va_up (va_up (va_up (va_up (fun _ => none) 0 (some (z + 8))) 1 (some (z + 11))) 2 (some (z + 14))) 3 (some (z + 17))) 4 (some (z + 20))) 5 (some (z + 23))) 6 (some (z + 26))))) := ⟨_, rfl⟩
  refine x_heap (u2 := u25) eu25.symm ?_
  refine x_iinc C 0 [(1, .int (7 : Int32)), (0, .ref (z + 6))] dX6_init_47 rfl (by decide) (by decide) rfl ?_
  refine x_goto C 25 dX6_init_50 (by decide) ?_
  refine x_iload_n C 0 dX6_init_25 rfl rfl ?_
  refine x_aload_n C 1 dX6_init_26 rfl rfl ?_
  have k6_23 := (congrFun eu23 6).trans (hup_n' (by decide) (k6_22))
  have k6_24 := (congrFun eu24 6).trans (hup_n' (by decide) (hup_n' (by decide) (hup_n' (by decide) (k6_23))))
  have k6_25 := (congrFun eu25 6).trans (hup_n' (by decide) (k6_24))
  refine gfX6_11 C dX6_init_27 k6_25 rfl ?_
  have k7_25 := (congrFun eu25 7).trans (hup_s _ _ _)
  refine x_alen (v := (30 : Int32)) C 3 k7_25 rfl rfl dX6_init_30 ?_
  refine x_icmp_ge_f C 53 dX6_init_31 (by decide) (by decide) ?_
  refine x_aload_n C 1 dX6_init_34 rfl rfl ?_
  refine gfX6_11 C dX6_init_35 k6_25 rfl ?_
  refine x_iload_n C 0 dX6_init_38 rfl rfl ?_
  refine x_new C gdX3 tyX3 tyX3_ok (ci := 2) rfl koX6_9 kiX3 kzX3 [.int (0 : Int32), .int (0 : Int32), .int (0 : Int32), .int (0 : Int32), .int (0 : Int32), .int (0 : Int32), .int (0 : Int32), .int (0 : Int32), .int (0 : Int32), .int (0 : Int32), .null, .null] (by decide +kernel) (Nat.le_of_ble_eq_true rfl) (Nat.le_of_ble_eq_true rfl) dX6_init_39 ?_
  obtain ⟨u26, eu26⟩ : ∃ w : HpT, w = (hup u25 29 (.inr (2, [.int (0 : Int32), .int (0 : Int32), .int (0 : Int32), .int (0 : Int32), .int (0 : Int32), .int (0 : Int32), .int (0 : Int32), .int (0 : Int32), .int (0 : Int32), .int (0 : Int32), .null, .null]))) := ⟨_, rfl⟩
  refine x_norm (st2 := [.ref (z + 29), .int (7 : Int32), .ref (z + 7)]) (kc2 := 23) (ks2 := 210) (n2 := 30) rfl rfl rfl rfl eu26.symm ?_
  refine x_dup C dX6_init_42 rfl ?_
  have k29_26 := (congrFun eu26 29).trans (hup_s _ _ _)
  refine x_callIN C cl_X3_init knX6_24 (b := z + 29) (As := []) (rest := [.ref (z + 29), .int (7 : Int32), .ref (z + 7)]) (p_X3_init_8 u26 k29_26) rfl rfl (Nat.le_of_ble_eq_true rfl) ⟨Nat.le_of_ble_eq_true rfl, Nat.le_of_ble_eq_true rfl⟩ ⟨Nat.le_of_ble_eq_true rfl, Nat.le_of_ble_eq_true rfl⟩ dX6_init_43 ?_
  obtain ⟨u27, eu27⟩ : ∃ w : HpT, w = (hup (hup (hup u26 30 (aI G 6 (fun _ => 0))) 31 (aI G 6 (fun _ => 0))) 29 (.inr (2, [.int (0 : Int32), .int (0 : Int32), .int (0 : Int32), .int (0 : Int32), .int (-1 : Int32), .int (0 : Int32), .int (-1 : Int32), .int (0 : Int32), .int (0 : Int32), .int (0 : Int32), .ref (z + 30), .ref (z + 31)]))) := ⟨_, rfl⟩
  refine x_norm (st2 := [.ref (z + 29), .int (7 : Int32), .ref (z + 7)]) (kc2 := 25) (ks2 := 222) (n2 := 32) rfl rfl rfl rfl eu27.symm ?_
  have k7_26 := (congrFun eu26 7).trans (hup_n' (by decide) (k7_25))
  have k7_27 := (congrFun eu27 7).trans (hup_n' (by decide) (hup_n' (by decide) (hup_n' (by decide) (k7_26))))
  have k29_27 := (congrFun eu27 29).trans (hup_s _ _ _)
  refine x_aastk C 3 2 (r := (RX3, TX3, 12)) rfl k7_27 k29_27 rfl (vp_in_lit (by decide) (by decide)) (k := 7) (by decide) dX6_init_46 ?_
  obtain ⟨u28, eu28⟩ : ∃ w : HpT, w = (hup u27 7 (aE G 30 (va_up (va_up (va_up (va_up (va_up (va_up (va_up (va_up (fun _ => none) 0 (some (z + 8))) 1 (some (z + 11))) 2 (some (z + 14))) 3 (some (z + 17))) 4 (some (z + 20))) 5 (some (z + 23))) 6 (some (z + 26))) 7 (some (z + 29))))) := ⟨_, rfl⟩
  refine x_heap (u2 := u28) eu28.symm ?_
  refine x_iinc C 0 [(1, .int (8 : Int32)), (0, .ref (z + 6))] dX6_init_47 rfl (by decide) (by decide) rfl ?_
  refine x_goto C 25 dX6_init_50 (by decide) ?_
  refine x_iload_n C 0 dX6_init_25 rfl rfl ?_
  refine x_aload_n C 1 dX6_init_26 rfl rfl ?_
  have k6_26 := (congrFun eu26 6).trans (hup_n' (by decide) (k6_25))
  have k6_27 := (congrFun eu27 6).trans (hup_n' (by decide) (hup_n' (by decide) (hup_n' (by decide) (k6_26))))
  have k6_28 := (congrFun eu28 6).trans (hup_n' (by decide) (k6_27))
  refine gfX6_11 C dX6_init_27 k6_28 rfl ?_
  have k7_28 := (congrFun eu28 7).trans (hup_s _ _ _)
  refine x_alen (v := (30 : Int32)) C 3 k7_28 rfl rfl dX6_init_30 ?_
  refine x_icmp_ge_f C 53 dX6_init_31 (by decide) (by decide) ?_
  refine x_aload_n C 1 dX6_init_34 rfl rfl ?_
  refine gfX6_11 C dX6_init_35 k6_28 rfl ?_
  refine x_iload_n C 0 dX6_init_38 rfl rfl ?_
  refine x_new C gdX3 tyX3 tyX3_ok (ci := 2) rfl koX6_9 kiX3 kzX3 [.int (0 : Int32), .int (0 : Int32), .int (0 : Int32), .int (0 : Int32), .int (0 : Int32), .int (0 : Int32), .int (0 : Int32), .int (0 : Int32), .int (0 : Int32), .int (0 : Int32), .null, .null] (by decide +kernel) (Nat.le_of_ble_eq_true rfl) (Nat.le_of_ble_eq_true rfl) dX6_init_39 ?_
  obtain ⟨u29, eu29⟩ : ∃ w : HpT, w = (hup u28 32 (.inr (2, [.int (0 : Int32), .int (0 : Int32), .int (0 : Int32), .int (0 : Int32), .int (0 : Int32), .int (0 : Int32), .int (0 : Int32), .int (0 : Int32), .int (0 : Int32), .int (0 : Int32), .null, .null]))) := ⟨_, rfl⟩
  refine x_norm (st2 := [.ref (z + 32), .int (8 : Int32), .ref (z + 7)]) (kc2 := 26) (ks2 := 234) (n2 := 33) rfl rfl rfl rfl eu29.symm ?_
  refine x_dup C dX6_init_42 rfl ?_
  have k32_29 := (congrFun eu29 32).trans (hup_s _ _ _)
  refine x_callIN C cl_X3_init knX6_24 (b := z + 32) (As := []) (rest := [.ref (z + 32), .int (8 : Int32), .ref (z + 7)]) (p_X3_init_9 u29 k32_29) rfl rfl (Nat.le_of_ble_eq_true rfl) ⟨Nat.le_of_ble_eq_true rfl, Nat.le_of_ble_eq_true rfl⟩ ⟨Nat.le_of_ble_eq_true rfl, Nat.le_of_ble_eq_true rfl⟩ dX6_init_43 ?_
  obtain ⟨u30, eu30⟩ : ∃ w : HpT, w = (hup (hup (hup u29 33 (aI G 6 (fun _ => 0))) 34 (aI G 6 (fun _ => 0))) 32 (.inr (2, [.int (0 : Int32), .int (0 : Int32), .int (0 : Int32), .int (0 : Int32), .int (-1 : Int32), .int (0 : Int32), .int (-1 : Int32), .int (0 : Int32), .int (0 : Int32), .int (0 : Int32), .ref (z + 33), .ref (z + 34)]))) := ⟨_, rfl⟩
  refine x_norm (st2 := [.ref (z + 32), .int (8 : Int32), .ref (z + 7)]) (kc2 := 28) (ks2 := 246) (n2 := 35) rfl rfl rfl rfl eu30.symm ?_
  have k7_29 := (congrFun eu29 7).trans (hup_n' (by decide) (k7_28))
  have k7_30 := (congrFun eu30 7).trans (hup_n' (by decide) (hup_n' (by decide) (hup_n' (by decide) (k7_29))))
  have k32_30 := (congrFun eu30 32).trans (hup_s _ _ _)
  refine x_aastk C 3 2 (r := (RX3, TX3, 12)) rfl k7_30 k32_30 rfl (vp_in_lit (by decide) (by decide)) (k := 8) (by decide) dX6_init_46 ?_
  obtain ⟨u31, eu31⟩ : ∃ w : HpT, w = (hup u30 7 (aE G 30 (va_up (va_up (va_up (va_up (va_up (va_up (va_up (va_up (va_up (fun _ => none) 0 (some (z + 8))) 1 (some (z + 11))) 2 (some (z + 14))) 3 (some (z + 17))) 4 (some (z + 20))) 5 (some (z + 23))) 6 (some (z + 26))) 7 (some (z + 29))) 8 (some (z + 32))))) := ⟨_, rfl⟩
  refine x_heap (u2 := u31) eu31.symm ?_
  refine x_iinc C 0 [(1, .int (9 : Int32)), (0, .ref (z + 6))] dX6_init_47 rfl (by decide) (by decide) rfl ?_
  refine x_goto C 25 dX6_init_50 (by decide) ?_
  refine x_iload_n C 0 dX6_init_25 rfl rfl ?_
  refine x_aload_n C 1 dX6_init_26 rfl rfl ?_
  have k6_29 := (congrFun eu29 6).trans (hup_n' (by decide) (k6_28))
  have k6_30 := (congrFun eu30 6).trans (hup_n' (by decide) (hup_n' (by decide) (hup_n' (by decide) (k6_29))))
  have k6_31 := (congrFun eu31 6).trans (hup_n' (by decide) (k6_30))
  refine gfX6_11 C dX6_init_27 k6_31 rfl ?_
  have k7_31 := (congrFun eu31 7).trans (hup_s _ _ _)
  refine x_alen (v := (30 : Int32)) C 3 k7_31 rfl rfl dX6_init_30 ?_
  refine x_icmp_ge_f C 53 dX6_init_31 (by decide) (by decide) ?_
  refine x_aload_n C 1 dX6_init_34 rfl rfl ?_
  refine gfX6_11 C dX6_init_35 k6_31 rfl ?_
  refine x_iload_n C 0 dX6_init_38 rfl rfl ?_
  refine x_new C gdX3 tyX3 tyX3_ok (ci := 2) rfl koX6_9 kiX3 kzX3 [.int (0 : Int32), .int (0 : Int32), .int (0 : Int32), .int (0 : Int32), .int (0 : Int32), .int (0 : Int32), .int (0 : Int32), .int (0 : Int32), .int (0 : Int32), .int (0 : Int32), .null, .null] (by decide +kernel) (Nat.le_of_ble_eq_true rfl) (Nat.le_of_ble_eq_true rfl) dX6_init_39 ?_
  obtain ⟨u32, eu32⟩ : ∃ w : HpT, w = (hup u31 35 (.inr (2, [.int (0 : Int32), .int (0 : Int32), .int (0 : Int32), .int (0 : Int32), .int (0 : Int32), .int (0 : Int32), .int (0 : Int32), .int (0 : Int32), .int (0 : Int32), .int (0 : Int32), .null, .null]))) := ⟨_, rfl⟩
  refine x_norm (st2 := [.ref (z + 35), .int (9 : Int32), .ref (z + 7)]) (kc2 := 29) (ks2 := 258) (n2 := 36) rfl rfl rfl rfl eu32.symm ?_
  refine x_dup C dX6_init_42 rfl ?_
  have k35_32 := (congrFun eu32 35).trans (hup_s _ _ _)
  refine x_callIN C cl_X3_init knX6_24 (b := z + 35) (As := []) (rest := [.ref (z + 35), .int (9 : Int32), .ref (z + 7)]) (p_X3_init_10 u32 k35_32) rfl rfl (Nat.le_of_ble_eq_true rfl) ⟨Nat.le_of_ble_eq_true rfl, Nat.le_of_ble_eq_true rfl⟩ ⟨Nat.le_of_ble_eq_true rfl, Nat.le_of_ble_eq_true rfl⟩ dX6_init_43 ?_
  obtain ⟨u33, eu33⟩ : ∃ w : HpT, w = (hup (hup (hup u32 36 (aI G 6 (fun _ => 0))) 37 (aI G 6 (fun _ => 0))) 35 (.inr (2, [.int (0 : Int32), .int (0 : Int32), .int (0 : Int32), .int (0 : Int32), .int (-1 : Int32), .int (0 : Int32), .int (-1 : Int32), .int (0 : Int32), .int (0 : Int32), .int (0 : Int32), .ref (z + 36), .ref (z + 37)]))) := ⟨_, rfl⟩
  refine x_norm (st2 := [.ref (z + 35), .int (9 : Int32), .ref (z + 7)]) (kc2 := 31) (ks2 := 270) (n2 := 38) rfl rfl rfl rfl eu33.symm ?_
  have k7_32 := (congrFun eu32 7).trans (hup_n' (by decide) (k7_31))
  have k7_33 := (congrFun eu33 7).trans (hup_n' (by decide) (hup_n' (by decide) (hup_n' (by decide) (k7_32))))
  have k35_33 := (congrFun eu33 35).trans (hup_s _ _ _)
  refine x_aastk C 3 2 (r := (RX3, TX3, 12)) rfl k7_33 k35_33 rfl (vp_in_lit (by decide) (by decide)) (k := 9) (by decide) dX6_init_46 ?_
  obtain ⟨u34, eu34⟩ : ∃ w : HpT, w = (hup u33 7 (aE G 30 (va_up (va_up (va_up (va_up (va_up (va_up (va_up (va_up (va_up (va_up (fun _ => none) 0 (some (z + 8))) 1 (some (z + 11))) 2 (some (z + 14))) 3 (some (z + 17))) 4 (some (z + 20))) 5 (some (z + 23))) 6 (some (z + 26))) 7 (some (z + 29))) 8 (some (z + 32))) 9 (some (z + 35))))) := ⟨_, rfl⟩
  refine x_heap (u2 := u34) eu34.symm ?_
  refine x_iinc C 0 [(1, .int (10 : Int32)), (0, .ref (z + 6))] dX6_init_47 rfl (by decide) (by decide) rfl ?_
  refine x_goto C 25 dX6_init_50 (by decide) ?_
  refine x_iload_n C 0 dX6_init_25 rfl rfl ?_
  refine x_aload_n C 1 dX6_init_26 rfl rfl ?_
  have k6_32 := (congrFun eu32 6).trans (hup_n' (by decide) (k6_31))
  have k6_33 := (congrFun eu33 6).trans (hup_n' (by decide) (hup_n' (by decide) (hup_n' (by decide) (k6_32))))
  have k6_34 := (congrFun eu34 6).trans (hup_n' (by decide) (k6_33))
  refine gfX6_11 C dX6_init_27 k6_34 rfl ?_
  have k7_34 := (congrFun eu34 7).trans (hup_s _ _ _)
  refine x_alen (v := (30 : Int32)) C 3 k7_34 rfl rfl dX6_init_30 ?_
  refine x_icmp_ge_f C 53 dX6_init_31 (by decide) (by decide) ?_
  refine x_aload_n C 1 dX6_init_34 rfl rfl ?_
  refine gfX6_11 C dX6_init_35 k6_34 rfl ?_
  refine x_iload_n C 0 dX6_init_38 rfl rfl ?_
  refine x_new C gdX3 tyX3 tyX3_ok (ci := 2) rfl koX6_9 kiX3 kzX3 [.int (0 : Int32), .int (0 : Int32), .int (0 : Int32), .int (0 : Int32), .int (0 : Int32), .int (0 : Int32), .int (0 : Int32), .int (0 : Int32), .int (0 : Int32), .int (0 : Int32), .null, .null] (by decide +kernel) (Nat.le_of_ble_eq_true rfl) (Nat.le_of_ble_eq_true rfl) dX6_init_39 ?_
  obtain ⟨u35, eu35⟩ : ∃ w : HpT, w = (hup u34 38 (.inr (2, [.int (0 : Int32), .int (0 : Int32), .int (0 : Int32), .int (0 : Int32), .int (0 : Int32), .int (0 : Int32), .int (0 : Int32), .int (0 : Int32), .int (0 : Int32), .int (0 : Int32), .null, .null]))) := ⟨_, rfl⟩
  refine x_norm (st2 := [.ref (z + 38), .int (10 : Int32), .ref (z + 7)]) (kc2 := 32) (ks2 := 282) (n2 := 39) rfl rfl rfl rfl eu35.symm ?_
  refine x_dup C dX6_init_42 rfl ?_
  have k38_35 := (congrFun eu35 38).trans (hup_s _ _ _)
  refine x_callIN C cl_X3_init knX6_24 (b := z + 38) (As := []) (rest := [.ref (z + 38), .int (10 : Int32), .ref (z + 7)]) (p_X3_init_11 u35 k38_35) rfl rfl (Nat.le_of_ble_eq_true rfl) ⟨Nat.le_of_ble_eq_true rfl, Nat.le_of_ble_eq_true rfl⟩ ⟨Nat.le_of_ble_eq_true rfl, Nat.le_of_ble_eq_true rfl⟩ dX6_init_43 ?_
  obtain ⟨u36, eu36⟩ : ∃ w : HpT, w = (hup (hup (hup u35 39 (aI G 6 (fun _ => 0))) 40 (aI G 6 (fun _ => 0))) 38 (.inr (2, [.int (0 : Int32), .int (0 : Int32), .int (0 : Int32), .int (0 : Int32), .int (-1 : Int32), .int (0 : Int32), .int (-1 : Int32), .int (0 : Int32), .int (0 : Int32), .int (0 : Int32), .ref (z + 39), .ref (z + 40)]))) := ⟨_, rfl⟩
  refine x_norm (st2 := [.ref (z + 38), .int (10 : Int32), .ref (z + 7)]) (kc2 := 34) (ks2 := 294) (n2 := 41) rfl rfl rfl rfl eu36.symm ?_
  have k7_35 := (congrFun eu35 7).trans (hup_n' (by decide) (k7_34))
  have k7_36 := (congrFun eu36 7).trans (hup_n' (by decide) (hup_n' (by decide) (hup_n' (by decide) (k7_35))))
  have k38_36 := (congrFun eu36 38).trans (hup_s _ _ _)
  refine x_aastk C 3 2 (r := (RX3, TX3, 12)) rfl k7_36 k38_36 rfl (vp_in_lit (by decide) (by decide)) (k := 10) (by decide) dX6_init_46 ?_
  obtain ⟨u37, eu37⟩ : ∃ w : HpT, w = (hup u36 7 (aE G 30 (va_up (va_up (va_up (va_up (va_up (va_up (va_up (va_up (va_up (va_up (va_up (fun _ => none) 0 (some (z + 8))) 1 (some (z + 11))) 2 (some (z + 14))) 3 (some (z + 17))) 4 (some (z + 20))) 5 (some (z + 23))) 6 (some (z + 26))) 7 (some (z + 29))) 8 (some (z + 32))) 9 (some (z + 35))) 10 (some (z + 38))))) := ⟨_, rfl⟩
  refine x_heap (u2 := u37) eu37.symm ?_
  refine x_iinc C 0 [(1, .int (11 : Int32)), (0, .ref (z + 6))] dX6_init_47 rfl (by decide) (by decide) rfl ?_
  refine x_goto C 25 dX6_init_50 (by decide) ?_
  refine x_iload_n C 0 dX6_init_25 rfl rfl ?_
  refine x_aload_n C 1 dX6_init_26 rfl rfl ?_
  have k6_35 := (congrFun eu35 6).trans (hup_n' (by decide) (k6_34))
  have k6_36 := (congrFun eu36 6).trans (hup_n' (by decide) (hup_n' (by decide) (hup_n' (by decide) (k6_35))))
  have k6_37 := (congrFun eu37 6).trans (hup_n' (by decide) (k6_36))
  refine gfX6_11 C dX6_init_27 k6_37 rfl ?_
  have k7_37 := (congrFun eu37 7).trans (hup_s _ _ _)
  refine x_alen (v := (30 : Int32)) C 3 k7_37 rfl rfl dX6_init_30 ?_
  refine x_icmp_ge_f C 53 dX6_init_31 (by decide) (by decide) ?_
  refine x_aload_n C 1 dX6_init_34 rfl rfl ?_
  refine gfX6_11 C dX6_init_35 k6_37 rfl ?_
  refine x_iload_n C 0 dX6_init_38 rfl rfl ?_
  refine x_new C gdX3 tyX3 tyX3_ok (ci := 2) rfl koX6_9 kiX3 kzX3 [.int (0 : Int32), .int (0 : Int32), .int (0 : Int32), .int (0 : Int32), .int (0 : Int32), .int (0 : Int32), .int (0 : Int32), .int (0 : Int32), .int (0 : Int32), .int (0 : Int32), .null, .null] (by decide +kernel) (Nat.le_of_ble_eq_true rfl) (Nat.le_of_ble_eq_true rfl) dX6_init_39 ?_
  obtain ⟨u38, eu38⟩ : ∃ w : HpT, w = (hup u37 41 (.inr (2, [.int (0 : Int32), .int (0 : Int32), .int (0 : Int32), .int (0 : Int32), .int (0 : Int32), .int (0 : Int32), .int (0 : Int32), .int (0 : Int32), .int (0 : Int32), .int (0 : Int32), .null, .null]))) := ⟨_, rfl⟩
  refine x_norm (st2 := [.ref (z + 41), .int (11 : Int32), .ref (z + 7)]) (kc2 := 35) (ks2 := 306) (n2 := 42) rfl rfl rfl rfl eu38.symm ?_
  refine x_dup C dX6_init_42 rfl ?_
  have k41_38 := (congrFun eu38 41).trans (hup_s _ _ _)
  refine x_callIN C cl_X3_init knX6_24 (b := z + 41) (As := []) (rest := [.ref (z + 41), .int (11 : Int32), .ref (z + 7)]) (p_X3_init_12 u38 k41_38) rfl rfl (Nat.le_of_ble_eq_true rfl) ⟨Nat.le_of_ble_eq_true rfl, Nat.le_of_ble_eq_true rfl⟩ ⟨Nat.le_of_ble_eq_true rfl, Nat.le_of_ble_eq_true rfl⟩ dX6_init_43 ?_
  obtain ⟨u39, eu39⟩ : ∃ w : HpT, w = (hup (hup (hup u38 42 (aI G 6 (fun _ => 0))) 43 (aI G 6 (fun _ => 0))) 41 (.inr (2, [.int (0 : Int32), .int (0 : Int32), .int (0 : Int32), .int (0 : Int32), .int (-1 : Int32), .int (0 : Int32), .int (-1 : Int32), .int (0 : Int32), .int (0 : Int32), .int (0 : Int32), .ref (z + 42), .ref (z + 43)]))) := ⟨_, rfl⟩
  refine x_norm (st2 := [.ref (z + 41), .int (11 : Int32), .ref (z + 7)]) (kc2 := 37) (ks2 := 318) (n2 := 44) rfl rfl rfl rfl eu39.symm ?_
  have k7_38 := (congrFun eu38 7).trans (hup_n' (by decide) (k7_37))
  have k7_39 := (congrFun eu39 7).trans (hup_n' (by decide) (hup_n' (by decide) (hup_n' (by decide) (k7_38))))
  have k41_39 := (congrFun eu39 41).trans (hup_s _ _ _)
  refine x_aastk C 3 2 (r := (RX3, TX3, 12)) rfl k7_39 k41_39 rfl (vp_in_lit (by decide) (by decide)) (k := 11) (by decide) dX6_init_46 ?_
  obtain ⟨u40, eu40⟩ : ∃ w : HpT, w = (hup u39 7 (aE G 30 (va_up (va_up (va_up (va_up (va_up (va_up (va_up (va_up (va_up (va_up (va_up (va_up (fun _ => none) 0 (some (z + 8))) 1 (some (z + 11))) 2 (some (z + 14))) 3 (some (z + 17))) 4 (some (z + 20))) 5 (some (z + 23))) 6 (some (z + 26))) 7 (some (z + 29))) 8 (some (z + 32))) 9 (some (z + 35))) 10 (some (z + 38))) 11 (some (z + 41))))) := ⟨_, rfl⟩
  refine x_heap (u2 := u40) eu40.symm ?_
  refine x_iinc C 0 [(1, .int (12 : Int32)), (0, .ref (z + 6))] dX6_init_47 rfl (by decide) (by decide) rfl ?_
  refine x_goto C 25 dX6_init_50 (by decide) ?_
  refine x_iload_n C 0 dX6_init_25 rfl rfl ?_
  refine x_aload_n C 1 dX6_init_26 rfl rfl ?_
  have k6_38 := (congrFun eu38 6).trans (hup_n' (by decide) (k6_37))
  have k6_39 := (congrFun eu39 6).trans (hup_n' (by decide) (hup_n' (by decide) (hup_n' (by decide) (k6_38))))
  have k6_40 := (congrFun eu40 6).trans (hup_n' (by decide) (k6_39))
  refine gfX6_11 C dX6_init_27 k6_40 rfl ?_
  have k7_40 := (congrFun eu40 7).trans (hup_s _ _ _)
  refine x_alen (v := (30 : Int32)) C 3 k7_40 rfl rfl dX6_init_30 ?_
  refine x_icmp_ge_f C 53 dX6_init_31 (by decide) (by decide) ?_
  refine x_aload_n C 1 dX6_init_34 rfl rfl ?_
  refine gfX6_11 C dX6_init_35 k6_40 rfl ?_
  refine x_iload_n C 0 dX6_init_38 rfl rfl ?_
  refine x_new C gdX3 tyX3 tyX3_ok (ci := 2) rfl koX6_9 kiX3 kzX3 [.int (0 : Int32), .int (0 : Int32), .int (0 : Int32), .int (0 : Int32), .int (0 : Int32), .int (0 : Int32), .int (0 : Int32), .int (0 : Int32), .int (0 : Int32), .int (0 : Int32), .null, .null] (by decide +kernel) (Nat.le_of_ble_eq_true rfl) (Nat.le_of_ble_eq_true rfl) dX6_init_39 ?_
  obtain ⟨u41, eu41⟩ : ∃ w : HpT, w = (hup u40 44 (.inr (2, [.int (0 : Int32), .int (0 : Int32), .int (0 : Int32), .int (0 : Int32), .int (0 : Int32), .int (0 : Int32), .int (0 : Int32), .int (0 : Int32), .int (0 : Int32), .int (0 : Int32), .null, .null]))) := ⟨_, rfl⟩
  refine x_norm (st2 := [.ref (z + 44), .int (12 : Int32), .ref (z + 7)]) (kc2 := 38) (ks2 := 330) (n2 := 45) rfl rfl rfl rfl eu41.symm ?_
  refine x_dup C dX6_init_42 rfl ?_
  have k44_41 := (congrFun eu41 44).trans (hup_s _ _ _)
  refine x_callIN C cl_X3_init knX6_24 (b := z + 44) (As := []) (rest := [.ref (z + 44), .int (12 : Int32), .ref (z + 7)]) (p_X3_init_13 u41 k44_41) rfl rfl (Nat.le_of_ble_eq_true rfl) ⟨Nat.le_of_ble_eq_true rfl, Nat.le_of_ble_eq_true rfl⟩ ⟨Nat.le_of_ble_eq_true rfl, Nat.le_of_ble_eq_true rfl⟩ dX6_init_43 ?_
  obtain ⟨u42, eu42⟩ : ∃ w : HpT, w = (hup (hup (hup u41 45 (aI G 6 (fun _ => 0))) 46 (aI G 6 (fun _ => 0))) 44 (.inr (2, [.int (0 : Int32), .int (0 : Int32), .int (0 : Int32), .int (0 : Int32), .int (-1 : Int32), .int (0 : Int32), .int (-1 : Int32), .int (0 : Int32), .int (0 : Int32), .int (0 : Int32), .ref (z + 45), .ref (z + 46)]))) := ⟨_, rfl⟩
  refine x_norm (st2 := [.ref (z + 44), .int (12 : Int32), .ref (z + 7)]) (kc2 := 40) (ks2 := 342) (n2 := 47) rfl rfl rfl rfl eu42.symm ?_
  have k7_41 := (congrFun eu41 7).trans (hup_n' (by decide) (k7_40))
  have k7_42 := (congrFun eu42 7).trans (hup_n' (by decide) (hup_n' (by decide) (hup_n' (by decide) (k7_41))))
  have k44_42 := (congrFun eu42 44).trans (hup_s _ _ _)
  refine x_aastk C 3 2 (r := (RX3, TX3, 12)) rfl k7_42 k44_42 rfl (vp_in_lit (by decide) (by decide)) (k := 12) (by decide) dX6_init_46 ?_
  obtain ⟨u43, eu43⟩ : ∃ w : HpT, w = (hup u42 7 (aE G 30 (va_up (va_up (va_up (va_up (va_up (va_up (va_up (va_up (va_up (va_up (va_up (va_up (va_up (fun _ => none) 0 (some (z + 8))) 1 (some (z + 11))) 2 (some (z + 14))) 3 (some (z + 17))) 4 (some (z + 20))) 5 (some (z + 23))) 6 (some (z + 26))) 7 (some (z + 29))) 8 (some (z + 32))) 9 (some (z + 35))) 10 (some (z + 38))) 11 (some (z + 41))) 12 (some (z + 44))))) := ⟨_, rfl⟩
  refine x_heap (u2 := u43) eu43.symm ?_
  refine x_iinc C 0 [(1, .int (13 : Int32)), (0, .ref (z + 6))] dX6_init_47 rfl (by decide) (by decide) rfl ?_
  refine x_goto C 25 dX6_init_50 (by decide) ?_
  refine x_iload_n C 0 dX6_init_25 rfl rfl ?_
  refine x_aload_n C 1 dX6_init_26 rfl rfl ?_
  have k6_41 := (congrFun eu41 6).trans (hup_n' (by decide) (k6_40))
  have k6_42 := (congrFun eu42 6).trans (hup_n' (by decide) (hup_n' (by decide) (hup_n' (by decide) (k6_41))))
  have k6_43 := (congrFun eu43 6).trans (hup_n' (by decide) (k6_42))
  refine gfX6_11 C dX6_init_27 k6_43 rfl ?_
  have k7_43 := (congrFun eu43 7).trans (hup_s _ _ _)
  refine x_alen (v := (30 : Int32)) C 3 k7_43 rfl rfl dX6_init_30 ?_
  refine x_icmp_ge_f C 53 dX6_init_31 (by decide) (by decide) ?_
  refine x_aload_n C 1 dX6_init_34 rfl rfl ?_
  refine gfX6_11 C dX6_init_35 k6_43 rfl ?_
  refine x_iload_n C 0 dX6_init_38 rfl rfl ?_
  refine x_new C gdX3 tyX3 tyX3_ok (ci := 2) rfl koX6_9 kiX3 kzX3 [.int (0 : Int32), .int (0 : Int32), .int (0 : Int32), .int (0 : Int32), .int (0 : Int32), .int (0 : Int32), .int (0 : Int32), .int (0 : Int32), .int (0 : Int32), .int (0 : Int32), .null, .null] (by decide +kernel) (Nat.le_of_ble_eq_true rfl) (Nat.le_of_ble_eq_true rfl) dX6_init_39 ?_
  obtain ⟨u44, eu44⟩ : ∃ w : HpT, w = (hup u43 47 (.inr (2, [.int (0 : Int32), .int (0 : Int32), .int (0 : Int32), .int (0 : Int32), .int (0 : Int32), .int (0 : Int32), .int (0 : Int32), .int (0 : Int32), .int (0 : Int32), .int (0 : Int32), .null, .null]))) := ⟨_, rfl⟩
  refine x_norm (st2 := [.ref (z + 47), .int (13 : Int32), .ref (z + 7)]) (kc2 := 41) (ks2 := 354) (n2 := 48) rfl rfl rfl rfl eu44.symm ?_
  refine x_dup C dX6_init_42 rfl ?_
  have k47_44 := (congrFun eu44 47).trans (hup_s _ _ _)
  refine x_callIN C cl_X3_init knX6_24 (b := z + 47) (As := []) (rest := [.ref (z + 47), .int (13 : Int32), .ref (z + 7)]) (p_X3_init_14 u44 k47_44) rfl rfl (Nat.le_of_ble_eq_true rfl) ⟨Nat.le_of_ble_eq_true rfl, Nat.le_of_ble_eq_true rfl⟩ ⟨Nat.le_of_ble_eq_true rfl, Nat.le_of_ble_eq_true rfl⟩ dX6_init_43 ?_
  obtain ⟨u45, eu45⟩ : ∃ w : HpT, w = (hup (hup (hup u44 48 (aI G 6 (fun _ => 0))) 49 (aI G 6 (fun _ => 0))) 47 (.inr (2, [.int (0 : Int32), .int (0 : Int32), .int (0 : Int32), .int (0 : Int32), .int (-1 : Int32), .int (0 : Int32), .int (-1 : Int32), .int (0 : Int32), .int (0 : Int32), .int (0 : Int32), .ref (z + 48), .ref (z + 49)]))) := ⟨_, rfl⟩
  refine x_norm (st2 := [.ref (z + 47), .int (13 : Int32), .ref (z + 7)]) (kc2 := 43) (ks2 := 366) (n2 := 50) rfl rfl rfl rfl eu45.symm ?_
  have k7_44 := (congrFun eu44 7).trans (hup_n' (by decide) (k7_43))
  have k7_45 := (congrFun eu45 7).trans (hup_n' (by decide) (hup_n' (by decide) (hup_n' (by decide) (k7_44))))
  have k47_45 := (congrFun eu45 47).trans (hup_s _ _ _)
  refine x_aastk C 3 2 (r := (RX3, TX3, 12)) rfl k7_45 k47_45 rfl (vp_in_lit (by decide) (by decide)) (k := 13) (by decide) dX6_init_46 ?_
  obtain ⟨u46, eu46⟩ : ∃ w : HpT, w = (hup u45 7 (aE G 30 (va_up (va_up (va_up (va_up (va_up (va_up (va_up (va_up (va_up (va_up (va_up (va_up (va_up (va_up (fun _ => none) 0 (some (z + 8))) 1 (some (z + 11))) 2 (some (z + 14))) 3 (some (z + 17))) 4 (some (z + 20))) 5 (some (z + 23))) 6 (some (z + 26))) 7 (some (z + 29))) 8 (some (z + 32))) 9 (some (z + 35))) 10 (some (z + 38))) 11 (some (z + 41))) 12 (some (z + 44))) 13 (some (z + 47))))) := ⟨_, rfl⟩
  refine x_heap (u2 := u46) eu46.symm ?_
  refine x_iinc C 0 [(1, .int (14 : Int32)), (0, .ref (z + 6))] dX6_init_47 rfl (by decide) (by decide) rfl ?_
  refine x_goto C 25 dX6_init_50 (by decide) ?_
  refine x_iload_n C 0 dX6_init_25 rfl rfl ?_
  refine x_aload_n C 1 dX6_init_26 rfl rfl ?_
  have k6_44 := (congrFun eu44 6).trans (hup_n' (by decide) (k6_43))
  have k6_45 := (congrFun eu45 6).trans (hup_n' (by decide) (hup_n' (by decide) (hup_n' (by decide) (k6_44))))
  have k6_46 := (congrFun eu46 6).trans (hup_n' (by decide) (k6_45))
  refine gfX6_11 C dX6_init_27 k6_46 rfl ?_
  have k7_46 := (congrFun eu46 7).trans (hup_s _ _ _)
  refine x_alen (v := (30 : Int32)) C 3 k7_46 rfl rfl dX6_init_30 ?_
  refine x_icmp_ge_f C 53 dX6_init_31 (by decide) (by decide) ?_
  refine x_aload_n C 1 dX6_init_34 rfl rfl ?_
  refine gfX6_11 C dX6_init_35 k6_46 rfl ?_
  refine x_iload_n C 0 dX6_init_38 rfl rfl ?_
  refine x_new C gdX3 tyX3 tyX3_ok (ci := 2) rfl koX6_9 kiX3 kzX3 [.int (0 : Int32), .int (0 : Int32), .int (0 : Int32), .int (0 : Int32), .int (0 : Int32), .int (0 : Int32), .int (0 : Int32), .int (0 : Int32), .int (0 : Int32), .int (0 : Int32), .null, .null] (by decide +kernel) (Nat.le_of_ble_eq_true rfl) (Nat.le_of_ble_eq_true rfl) dX6_init_39 ?_
  obtain ⟨u47, eu47⟩ : ∃ w : HpT, w = (hup u46 50 (.inr (2, [.int (0 : Int32), .int (0 : Int32), .int (0 : Int32), .int (0 : Int32), .int (0 : Int32), .int (0 : Int32), .int (0 : Int32), .int (0 : Int32), .int (0 : Int32), .int (0 : Int32), .null, .null]))) := ⟨_, rfl⟩
  refine x_norm (st2 := [.ref (z + 50), .int (14 : Int32), .ref (z + 7)]) (kc2 := 44) (ks2 := 378) (n2 := 51) rfl rfl rfl rfl eu47.symm ?_
  refine x_dup C dX6_init_42 rfl ?_
  have k50_47 := (congrFun eu47 50).trans (hup_s _ _ _)
  refine x_callIN C cl_X3_init knX6_24 (b := z + 50) (As := []) (rest := [.ref (z + 50), .int (14 : Int32), .ref (z + 7)]) (p_X3_init_15 u47 k50_47) rfl rfl (Nat.le_of_ble_eq_true rfl) ⟨Nat.le_of_ble_eq_true rfl, Nat.le_of_ble_eq_true rfl⟩ ⟨Nat.le_of_ble_eq_true rfl, Nat.le_of_ble_eq_true rfl⟩ dX6_init_43 ?_
  obtain ⟨u48, eu48⟩ : ∃ w : HpT, w = (hup (hup (hup u47 51 (aI G 6 (fun _ => 0))) 52 (aI G 6 (fun _ => 0))) 50 (.inr (2, [.int (0 : Int32), .int (0 : Int32), .int (0 : Int32), .int (0 : Int32), .int (-1 : Int32), .int (0 : Int32), .int (-1 : Int32), .int (0 : Int32), .int (0 : Int32), .int (0 : Int32), .ref (z + 51), .ref (z + 52)]))) := ⟨_, rfl⟩
  refine x_norm (st2 := [.ref (z + 50), .int (14 : Int32), .ref (z + 7)]) (kc2 := 46) (ks2 := 390) (n2 := 53) rfl rfl rfl rfl eu48.symm ?_
  have k7_47 := (congrFun eu47 7).trans (hup_n' (by decide) (k7_46))
  have k7_48 := (congrFun eu48 7).trans (hup_n' (by decide) (hup_n' (by decide) (hup_n' (by decide) (k7_47))))
  have k50_48 := (congrFun eu48 50).trans (hup_s _ _ _)
  refine x_aastk C 3 2 (r := (RX3, TX3, 12)) rfl k7_48 k50_48 rfl (vp_in_lit (by decide) (by decide)) (k := 14) (by decide) dX6_init_46 ?_
  obtain ⟨u49, eu49⟩ : ∃ w : HpT, w = (hup u48 7 (aE G 30 (va_up (va_up (va_up (va_up (va_up (va_up (va_up (va_up (va_up (va_up (va_up (va_up (va_up (va_up (va_up (fun _ => none) 0 (some (z + 8))) 1 (some (z + 11))) 2 (some (z + 14))) 3 (some (z + 17))) 4 (some (z + 20))) 5 (some (z + 23))) 6 (some (z + 26))) 7 (some (z + 29))) 8 (some (z + 32))) 9 (some (z + 35))) 10 (some (z + 38))) 11 (some (z + 41))) 12 (some (z + 44))) 13 (some (z + 47))) 14 (some (z + 50))))) := ⟨_, rfl⟩
  refine x_heap (u2 := u49) eu49.symm ?_
  refine x_iinc C 0 [(1, .int (15 : Int32)), (0, .ref (z + 6))] dX6_init_47 rfl (by decide) (by decide) rfl ?_
  refine x_goto C 25 dX6_init_50 (by decide) ?_
  refine x_iload_n C 0 dX6_init_25 rfl rfl ?_
  refine x_aload_n C 1 dX6_init_26 rfl rfl ?_
  have k6_47 := (congrFun eu47 6).trans (hup_n' (by decide) (k6_46))
  have k6_48 := (congrFun eu48 6).trans (hup_n' (by decide) (hup_n' (by decide) (hup_n' (by decide) (k6_47))))
  have k6_49 := (congrFun eu49 6).trans (hup_n' (by decide) (k6_48))
  refine gfX6_11 C dX6_init_27 k6_49 rfl ?_
  have k7_49 := (congrFun eu49 7).trans (hup_s _ _ _)
  refine x_alen (v := (30 : Int32)) C 3 k7_49 rfl rfl dX6_init_30 ?_
  refine x_icmp_ge_f C 53 dX6_init_31 (by decide) (by decide) ?_
  refine x_aload_n C 1 dX6_init_34 rfl rfl ?_
  refine gfX6_11 C dX6_init_35 k6_49 rfl ?_
  refine x_iload_n C 0 dX6_init_38 rfl rfl ?_
  refine x_new C gdX3 tyX3 tyX3_ok (ci := 2) rfl koX6_9 kiX3 kzX3 [.int (0 : Int32), .int (0 : Int32), .int (0 : Int32), .int (0 : Int32), .int (0 : Int32), .int (0 : Int32), .int (0 : Int32), .int (0 : Int32), .int (0 : Int32), .int (0 : Int32), .null, .null] (by decide +kernel) (Nat.le_of_ble_eq_true rfl) (Nat.le_of_ble_eq_true rfl) dX6_init_39 ?_
  obtain ⟨u50, eu50⟩ : ∃ w : HpT, w = (hup u49 53 (.inr (2, [.int (0 : Int32), .int (0 : Int32), .int (0 : Int32), .int (0 : Int32), .int (0 : Int32), .int (0 : Int32), .int (0 : Int32), .int (0 : Int32), .int (0 : Int32), .int (0 : Int32), .null, .null]))) := ⟨_, rfl⟩
  refine x_norm (st2 := [.ref (z + 53), .int (15 : Int32), .ref (z + 7)]) (kc2 := 47) (ks2 := 402) (n2 := 54) rfl rfl rfl rfl eu50.symm ?_
  refine x_dup C dX6_init_42 rfl ?_
  have k53_50 := (congrFun eu50 53).trans (hup_s _ _ _)
  refine x_callIN C cl_X3_init knX6_24 (b := z + 53) (As := []) (rest := [.ref (z + 53), .int (15 : Int32), .ref (z + 7)]) (p_X3_init_16 u50 k53_50) rfl rfl (Nat.le_of_ble_eq_true rfl) ⟨Nat.le_of_ble_eq_true rfl, Nat.le_of_ble_eq_true rfl⟩ ⟨Nat.le_of_ble_eq_true rfl, Nat.le_of_ble_eq_true rfl⟩ dX6_init_43 ?_
  obtain ⟨u51, eu51⟩ : ∃ w : HpT, w = (hup (hup (hup u50 54 (aI G 6 (fun _ => 0))) 55 (aI G 6 (fun _ => 0))) 53 (.inr (2, [.int (0 : Int32), .int (0 : Int32), .int (0 : Int32), .int (0 : Int32), .int (-1 : Int32), .int (0 : Int32), .int (-1 : Int32), .int (0 : Int32), .int (0 : Int32), .int (0 : Int32), .ref (z + 54), .ref (z + 55)]))) := ⟨_, rfl⟩
  refine x_norm (st2 := [.ref (z + 53), .int (15 : Int32), .ref (z + 7)]) (kc2 := 49) (ks2 := 414) (n2 := 56) rfl rfl rfl rfl eu51.symm ?_
  have k7_50 := (congrFun eu50 7).trans (hup_n' (by decide) (k7_49))
  have k7_51 := (congrFun eu51 7).trans (hup_n' (by decide) (hup_n' (by decide) (hup_n' (by decide) (k7_50))))
  have k53_51 := (congrFun eu51 53).trans (hup_s _ _ _)
  refine x_aastk C 3 2 (r := (RX3, TX3, 12)) rfl k7_51 k53_51 rfl (vp_in_lit (by decide) (by decide)) (k := 15) (by decide) dX6_init_46 ?_
  obtain ⟨u52, eu52⟩ : ∃ w : HpT, w = (hup u51 7 (aE G 30 (va_up (va_up (va_up (va_up (va_up (va_up (va_up (va_up (va_up (va_up (va_up (va_up (va_up (va_up (va_up (va_up (fun _ => none) 0 (some (z + 8))) 1 (some (z + 11))) 2 (some (z + 14))) 3 (some (z + 17))) 4 (some (z + 20))) 5 (some (z + 23))) 6 (some (z + 26))) 7 (some (z + 29))) 8 (some (z + 32))) 9 (some (z + 35))) 10 (some (z + 38))) 11 (some (z + 41))) 12 (some (z + 44))) 13 (some (z + 47))) 14 (some (z + 50))) 15 (some (z + 53))))) := ⟨_, rfl⟩
  refine x_heap (u2 := u52) eu52.symm ?_
  refine x_iinc C 0 [(1, .int (16 : Int32)), (0, .ref (z + 6))] dX6_init_47 rfl (by decide) (by decide) rfl ?_
  refine x_goto C 25 dX6_init_50 (by decide) ?_
  refine x_iload_n C 0 dX6_init_25 rfl rfl ?_
  refine x_aload_n C 1 dX6_init_26 rfl rfl ?_
  have k6_50 := (congrFun eu50 6).trans (hup_n' (by decide) (k6_49))
  have k6_51 := (congrFun eu51 6).trans (hup_n' (by decide) (hup_n' (by decide) (hup_n' (by decide) (k6_50))))
  have k6_52 := (congrFun eu52 6).trans (hup_n' (by decide) (k6_51))
  refine gfX6_11 C dX6_init_27 k6_52 rfl ?_
  have k7_52 := (congrFun eu52 7).trans (hup_s _ _ _)
  refine x_alen (v := (30 : Int32)) C 3 k7_52 rfl rfl dX6_init_30 ?_
  refine x_icmp_ge_f C 53 dX6_init_31 (by decide) (by decide) ?_
  refine x_aload_n C 1 dX6_init_34 rfl rfl ?_
  refine gfX6_11 C dX6_init_35 k6_52 rfl ?_
  refine x_iload_n C 0 dX6_init_38 rfl rfl ?_
  refine x_new C gdX3 tyX3 tyX3_ok (ci := 2) rfl koX6_9 kiX3 kzX3 [.int (0 : Int32), .int (0 : Int32), .int (0 : Int32), .int (0 : Int32), .int (0 : Int32), .int (0 : Int32), .int (0 : Int32), .int (0 : Int32), .int (0 : Int32), .int (0 : Int32), .null, .null] (by decide +kernel) (Nat.le_of_ble_eq_true rfl) (Nat.le_of_ble_eq_true rfl) dX6_init_39 ?_
  obtain ⟨u53, eu53⟩ : ∃ w : HpT, w = (hup u52 56 (.inr (2, [.int (0 : Int32), .int (0 : Int32), .int (0 : Int32), .int (0 : Int32), .int (0 : Int32), .int (0 : Int32), .int (0 : Int32), .int (0 : Int32), .int (0 : Int32), .int (0 : Int32), .null, .null]))) := ⟨_, rfl⟩
  refine x_norm (st2 := [.ref (z + 56), .int (16 : Int32), .ref (z + 7)]) (kc2 := 50) (ks2 := 426) (n2 := 57) rfl rfl rfl rfl eu53.symm ?_
  refine x_dup C dX6_init_42 rfl ?_
  have k56_53 := (congrFun eu53 56).trans (hup_s _ _ _)
  refine x_callIN C cl_X3_init knX6_24 (b := z + 56) (As := []) (rest := [.ref (z + 56), .int (16 : Int32), .ref (z + 7)]) (p_X3_init_17 u53 k56_53) rfl rfl (Nat.le_of_ble_eq_true rfl) ⟨Nat.le_of_ble_eq_true rfl, Nat.le_of_ble_eq_true rfl⟩ ⟨Nat.le_of_ble_eq_true rfl, Nat.le_of_ble_eq_true rfl⟩ dX6_init_43 ?_
  obtain ⟨u54, eu54⟩ : ∃ w : HpT, w = (hup (hup (hup u53 57 (aI G 6 (fun _ => 0))) 58 (aI G 6 (fun _ => 0))) 56 (.inr (2, [.int (0 : Int32), .int (0 : Int32), .int (0 : Int32), .int (0 : Int32), .int (-1 : Int32), .int (0 : Int32), .int (-1 : Int32), .int (0 : Int32), .int (0 : Int32), .int (0 : Int32), .ref (z + 57), .ref (z + 58)]))) := ⟨_, rfl⟩
  refine x_norm (st2 := [.ref (z + 56), .int (16 : Int32), .ref (z + 7)]) (kc2 := 52) (ks2 := 438) (n2 := 59) rfl rfl rfl rfl eu54.symm ?_
  have k7_53 := (congrFun eu53 7).trans (hup_n' (by decide) (k7_52))
  have k7_54 := (congrFun eu54 7).trans (hup_n' (by decide) (hup_n' (by decide) (hup_n' (by decide) (k7_53))))
  have k56_54 := (congrFun eu54 56).trans (hup_s _ _ _)
  refine x_aastk C 3 2 (r := (RX3, TX3, 12)) rfl k7_54 k56_54 rfl (vp_in_lit (by decide) (by decide)) (k := 16) (by decide) dX6_init_46 ?_
  obtain ⟨u55, eu55⟩ : ∃ w : HpT, w = (hup u54 7 (aE G 30 (va_up (va_up (va_up (va_up (va_up (va_up (va_up (va_up (va_up (va_up (va_up (va_up (va_up (va_up (va_up (va_up (va_up (fun _ => none) 0 (some (z + 8))) 1 (some (z + 11))) 2 (some (z + 14))) 3 (some (z + 17))) 4 (some (z + 20))) 5 (some (z + 23))) 6 (some (z + 26))) 7 (some (z + 29))) 8 (some (z + 32))) 9 (some (z + 35))) 10 (some (z + 38))) 11 (some (z + 41))) 12 (some (z + 44))) 13 (some (z + 47))) 14 (some (z + 50))) 15 (some (z + 53))) 16 (some (z + 56))))) := ⟨_, rfl⟩
  refine x_heap (u2 := u55) eu55.symm ?_
  refine x_iinc C 0 [(1, .int (17 : Int32)), (0, .ref (z + 6))] dX6_init_47 rfl (by decide) (by decide) rfl ?_
  refine x_goto C 25 dX6_init_50 (by decide) ?_
  refine x_iload_n C 0 dX6_init_25 rfl rfl ?_
  refine x_aload_n C 1 dX6_init_26 rfl rfl ?_
  have k6_53 := (congrFun eu53 6).trans (hup_n' (by decide) (k6_52))
  have k6_54 := (congrFun eu54 6).trans (hup_n' (by decide) (hup_n' (by decide) (hup_n' (by decide) (k6_53))))
  have k6_55 := (congrFun eu55 6).trans (hup_n' (by decide) (k6_54))
  refine gfX6_11 C dX6_init_27 k6_55 rfl ?_
  have k7_55 := (congrFun eu55 7).trans (hup_s _ _ _)
  refine x_alen (v := (30 : Int32)) C 3 k7_55 rfl rfl dX6_init_30 ?_
  refine x_icmp_ge_f C 53 dX6_init_31 (by decide) (by decide) ?_
  refine x_aload_n C 1 dX6_init_34 rfl rfl ?_
  refine gfX6_11 C dX6_init_35 k6_55 rfl ?_
  refine x_iload_n C 0 dX6_init_38 rfl rfl ?_
  refine x_new C gdX3 tyX3 tyX3_ok (ci := 2) rfl koX6_9 kiX3 kzX3 [.int (0 : Int32), .int (0 : Int32), .int (0 : Int32), .int (0 : Int32), .int (0 : Int32), .int (0 : Int32), .int (0 : Int32), .int (0 : Int32), .int (0 : Int32), .int (0 : Int32), .null, .null] (by decide +kernel) (Nat.le_of_ble_eq_true rfl) (Nat.le_of_ble_eq_true rfl) dX6_init_39 ?_
  obtain ⟨u56, eu56⟩ : ∃ w : HpT, w = (hup u55 59 (.inr (2, [.int (0 : Int32), .int (0 : Int32), .int (0 : Int32), .int (0 : Int32), .int (0 : Int32), .int (0 : Int32), .int (0 : Int32), .int (0 : Int32), .int (0 : Int32), .int (0 : Int32), .null, .null]))) := ⟨_, rfl⟩
  refine x_norm (st2 := [.ref (z + 59), .int (17 : Int32), .ref (z + 7)]) (kc2 := 53) (ks2 := 450) (n2 := 60) rfl rfl rfl rfl eu56.symm ?_
  refine x_dup C dX6_init_42 rfl ?_
  have k59_56 := (congrFun eu56 59).trans (hup_s _ _ _)
  refine x_callIN C cl_X3_init knX6_24 (b := z + 59) (As := []) (rest := [.ref (z + 59), .int (17 : Int32), .ref (z + 7)]) (p_X3_init_18 u56 k59_56) rfl rfl (Nat.le_of_ble_eq_true rfl) ⟨Nat.le_of_ble_eq_true rfl, Nat.le_of_ble_eq_true rfl⟩ ⟨Nat.le_of_ble_eq_true rfl, Nat.le_of_ble_eq_true rfl⟩ dX6_init_43 ?_
  obtain ⟨u57, eu57⟩ : ∃ w : HpT, w = (hup (hup (hup u56 60 (aI G 6 (fun _ => 0))) 61 (aI G 6 (fun _ => 0))) 59 (.inr (2, [.int (0 : Int32), .int (0 : Int32), .int (0 : Int32), .int (0 : Int32), .int (-1 : Int32), .int (0 : Int32), .int (-1 : Int32), .int (0 : Int32), .int (0 : Int32), .int (0 : Int32), .ref (z + 60), .ref (z + 61)]))) := ⟨_, rfl⟩
  refine x_norm (st2 := [.ref (z + 59), .int (17 : Int32), .ref (z + 7)]) (kc2 := 55) (ks2 := 462) (n2 := 62) rfl rfl rfl rfl eu57.symm ?_
  have k7_56 := (congrFun eu56 7).trans (hup_n' (by decide) (k7_55))
  have k7_57 := (congrFun eu57 7).trans (hup_n' (by decide) (hup_n' (by decide) (hup_n' (by decide) (k7_56))))
  have k59_57 := (congrFun eu57 59).trans (hup_s _ _ _)
  refine x_aastk C 3 2 (r := (RX3, TX3, 12)) rfl k7_57 k59_57 rfl (vp_in_lit (by decide) (by decide)) (k := 17) (by decide) dX6_init_46 ?_
  obtain ⟨u58, eu58⟩ : ∃ w : HpT, w = (hup u57 7 (aE G 30 (va_up (va_up (va_up (va_up (va_up (va_up (va_up (va_up (va_up (va_up (va_up (va_up (va_up (va_up (va_up (va_up (va_up (va_up (fun _ => none) 0 (some (z + 8))) 1 (some (z + 11))) 2 (some (z + 14))) 3 (some (z + 17))) 4 (some (z + 20))) 5 (some (z + 23))) 6 (some (z + 26))) 7 (some (z + 29))) 8 (some (z + 32))) 9 (some (z + 35))) 10 (some (z + 38))) 11 (some (z + 41))) 12 (some (z + 44))) 13 (some (z + 47))) 14 (some (z + 50))) 15 (some (z + 53))) 16 (some (z + 56))) 17 (some (z + 59))))) := ⟨_, rfl⟩
  refine x_heap (u2 := u58) eu58.symm ?_
  refine x_iinc C 0 [(1, .int (18 : Int32)), (0, .ref (z + 6))] dX6_init_47 rfl (by decide) (by decide) rfl ?_
  refine x_goto C 25 dX6_init_50 (by decide) ?_
  refine x_iload_n C 0 dX6_init_25 rfl rfl ?_
  refine x_aload_n C 1 dX6_init_26 rfl rfl ?_
  have k6_56 := (congrFun eu56 6).trans (hup_n' (by decide) (k6_55))
  have k6_57 := (congrFun eu57 6).trans (hup_n' (by decide) (hup_n' (by decide) (hup_n' (by decide) (k6_56))))
  have k6_58 := (congrFun eu58 6).trans (hup_n' (by decide) (k6_57))
  refine gfX6_11 C dX6_init_27 k6_58 rfl ?_
  have k7_58 := (congrFun eu58 7).trans (hup_s _ _ _)
  refine x_alen (v := (30 : Int32)) C 3 k7_58 rfl rfl dX6_init_30 ?_
  refine x_icmp_ge_f C 53 dX6_init_31 (by decide) (by decide) ?_
  refine x_aload_n C 1 dX6_init_34 rfl rfl ?_
  refine gfX6_11 C dX6_init_35 k6_58 rfl ?_
  refine x_iload_n C 0 dX6_init_38 rfl rfl ?_
  refine x_new C gdX3 tyX3 tyX3_ok (ci := 2) rfl koX6_9 kiX3 kzX3 [.int (0 : Int32), .int (0 : Int32), .int (0 : Int32), .int (0 : Int32), .int (0 : Int32), .int (0 : Int32), .int (0 : Int32), .int (0 : Int32), .int (0 : Int32), .int (0 : Int32), .null, .null] (by decide +kernel) (Nat.le_of_ble_eq_true rfl) (Nat.le_of_ble_eq_true rfl) dX6_init_39 ?_
  obtain ⟨u59, eu59⟩ : ∃ w : HpT, w = (hup u58 62 (.inr (2, [.int (0 : Int32), .int (0 : Int32), .int (0 : Int32), .int (0 : Int32), .int (0 : Int32), .int (0 : Int32), .int (0 : Int32), .int (0 : Int32), .int (0 : Int32), .int (0 : Int32), .null, .null]))) := ⟨_, rfl⟩
  refine x_norm (st2 := [.ref (z + 62), .int (18 : Int32), .ref (z + 7)]) (kc2 := 56) (ks2 := 474) (n2 := 63) rfl rfl rfl rfl eu59.symm ?_
  refine x_dup C dX6_init_42 rfl ?_
  have k62_59 := (congrFun eu59 62).trans (hup_s _ _ _)
  refine x_callIN C cl_X3_init knX6_24 (b := z + 62) (As := []) (rest := [.ref (z + 62), .int (18 : Int32), .ref (z + 7)]) (p_X3_init_19 u59 k62_59) rfl rfl (Nat.le_of_ble_eq_true rfl) ⟨Nat.le_of_ble_eq_true rfl, Nat.le_of_ble_eq_true rfl⟩ ⟨Nat.le_of_ble_eq_true rfl, Nat.le_of_ble_eq_true rfl⟩ dX6_init_43 ?_
  obtain ⟨u60, eu60⟩ : ∃ w : HpT, w = (hup (hup (hup u59 63 (aI G 6 (fun _ => 0))) 64 (aI G 6 (fun _ => 0))) 62 (.inr (2, [.int (0 : Int32), .int (0 : Int32), .int (0 : Int32), .int (0 : Int32), .int (-1 : Int32), .int (0 : Int32), .int (-1 : Int32), .int (0 : Int32), .int (0 : Int32), .int (0 : Int32), .ref (z + 63), .ref (z + 64)]))) := ⟨_, rfl⟩
  refine x_norm (st2 := [.ref (z + 62), .int (18 : Int32), .ref (z + 7)]) (kc2 := 58) (ks2 := 486) (n2 := 65) rfl rfl rfl rfl eu60.symm ?_
  have k7_59 := (congrFun eu59 7).trans (hup_n' (by decide) (k7_58))
  have k7_60 := (congrFun eu60 7).trans (hup_n' (by decide) (hup_n' (by decide) (hup_n' (by decide) (k7_59))))
  have k62_60 := (congrFun eu60 62).trans (hup_s _ _ _)
  refine x_aastk C 3 2 (r := (RX3, TX3, 12)) rfl k7_60 k62_60 rfl (vp_in_lit (by decide) (by decide)) (k := 18) (by decide) dX6_init_46 ?_
  obtain ⟨u61, eu61⟩ : ∃ w : HpT, w = (hup u60 7 (aE G 30 (va_up (va_up (va_up (va_up (va_up (va_up (va_up (va_up (va_up (va_up (va_up (va_up (va_up (va_up (va_up (va_up (va_up (va_up (va_up (fun _ => none) 0 (some (z + 8))) 1 (some (z + 11))) 2 (some (z + 14))) 3 (some (z + 17))) 4 (some (z + 20))) 5 (some (z + 23))) 6 (some (z + 26))) 7 (some (z + 29))) 8 (some (z + 32))) 9 (some (z + 35))) 10 (some (z + 38))) 11 (some (z + 41))) 12 (some (z + 44))) 13 (some (z + 47))) 14 (some (z + 50))) 15 (some (z + 53))) 16 (some (z + 56))) 17 (some (z + 59))) 18 (some (z + 62))))) := ⟨_, rfl⟩
  refine x_heap (u2 := u61) eu61.symm ?_
  refine x_iinc C 0 [(1, .int (19 : Int32)), (0, .ref (z + 6))] dX6_init_47 rfl (by decide) (by decide) rfl ?_
  refine x_goto C 25 dX6_init_50 (by decide) ?_
  refine x_iload_n C 0 dX6_init_25 rfl rfl ?_
  refine x_aload_n C 1 dX6_init_26 rfl rfl ?_
  have k6_59 := (congrFun eu59 6).trans (hup_n' (by decide) (k6_58))
  have k6_60 := (congrFun eu60 6).trans (hup_n' (by decide) (hup_n' (by decide) (hup_n' (by decide) (k6_59))))
  have k6_61 := (congrFun eu61 6).trans (hup_n' (by decide) (k6_60))
  refine gfX6_11 C dX6_init_27 k6_61 rfl ?_
  have k7_61 := (congrFun eu61 7).trans (hup_s _ _ _)
  refine x_alen (v := (30 : Int32)) C 3 k7_61 rfl rfl dX6_init_30 ?_
  refine x_icmp_ge_f C 53 dX6_init_31 (by decide) (by decide) ?_
  refine x_aload_n C 1 dX6_init_34 rfl rfl ?_
  refine gfX6_11 C dX6_init_35 k6_61 rfl ?_
  refine x_iload_n C 0 dX6_init_38 rfl rfl ?_
  refine x_new C gdX3 tyX3 tyX3_ok (ci := 2) rfl koX6_9 kiX3 kzX3 [.int (0 : Int32), .int (0 : Int32), .int (0 : Int32), .int (0 : Int32), .int (0 : Int32), .int (0 : Int32), .int (0 : Int32), .int (0 : Int32), .int (0 : Int32), .int (0 : Int32), .null, .null] (by decide +kernel) (Nat.le_of_ble_eq_true rfl) (Nat.le_of_ble_eq_true rfl) dX6_init_39 ?_
  obtain ⟨u62, eu62⟩ : ∃ w : HpT, w = (hup u61 65 (.inr (2, [.int (0 : Int32), .int (0 : Int32), .int (0 : Int32), .int (0 : Int32), .int (0 : Int32), .int (0 : Int32), .int (0 : Int32), .int (0 : Int32), .int (0 : Int32), .int (0 : Int32), .null, .null]))) := ⟨_, rfl⟩
  refine x_norm (st2 := [.ref (z + 65), .int (19 : Int32), .ref (z + 7)]) (kc2 := 59) (ks2 := 498) (n2 := 66) rfl rfl rfl rfl eu62.symm ?_
  refine x_dup C dX6_init_42 rfl ?_
  have k65_62 := (congrFun eu62 65).trans (hup_s _ _ _)
  refine x_callIN C cl_X3_init knX6_24 (b := z + 65) (As := []) (rest := [.ref (z + 65), .int (19 : Int32), .ref (z + 7)]) (p_X3_init_20 u62 k65_62) rfl rfl (Nat.le_of_ble_eq_true rfl) ⟨Nat.le_of_ble_eq_true rfl, Nat.le_of_ble_eq_true rfl⟩ ⟨Nat.le_of_ble_eq_true rfl, Nat.le_of_ble_eq_true rfl⟩ dX6_init_43 ?_
  obtain ⟨u63, eu63⟩ : ∃ w : HpT, w = (hup (hup (hup u62 66 (aI G 6 (fun _ => 0))) 67 (aI G 6 (fun _ => 0))) 65 (.inr (2, [.int (0 : Int32), .int (0 : Int32), .int (0 : Int32), .int (0 : Int32), .int (-1 : Int32), .int (0 : Int32), .int (-1 : Int32), .int (0 : Int32), .int (0 : Int32), .int (0 : Int32), .ref (z + 66), .ref (z + 67)]))) := ⟨_, rfl⟩
  refine x_norm (st2 := [.ref (z + 65), .int (19 : Int32), .ref (z + 7)]) (kc2 := 61) (ks2 := 510) (n2 := 68) rfl rfl rfl rfl eu63.symm ?_
  have k7_62 := (congrFun eu62 7).trans (hup_n' (by decide) (k7_61))
  have k7_63 := (congrFun eu63 7).trans (hup_n' (by decide) (hup_n' (by decide) (hup_n' (by decide) (k7_62))))
  have k65_63 := (congrFun eu63 65).trans (hup_s _ _ _)
  refine x_aastk C 3 2 (r := (RX3, TX3, 12)) rfl k7_63 k65_63 rfl (vp_in_lit (by decide) (by decide)) (k := 19) (by decide) dX6_init_46 ?_
  obtain ⟨u64, eu64⟩ : ∃ w : HpT, w = (hup u63 7 (aE G 30 (va_up (va_up (va_up (va_up (va_up (va_up (va_up (va_up (va_up (va_up (va_up (va_up (va_up (va_up (va_up (va_up (va_up (va_up (va_up (va_up (fun _ => none) 0 (some (z + 8))) 1 (some (z + 11))) 2 (some (z + 14))) 3 (some (z + 17))) 4 (some (z + 20))) 5 (some (z + 23))) 6 (some (z + 26))) 7 (some (z + 29))) 8 (some (z + 32))) 9 (some (z + 35))) 10 (some (z + 38))) 11 (some (z + 41))) 12 (some (z + 44))) 13 (some (z + 47))) 14 (some (z + 50))) 15 (some (z + 53))) 16 (some (z + 56))) 17 (some (z + 59))) 18 (some (z + 62))) 19 (some (z + 65))))) := ⟨_, rfl⟩
  refine x_heap (u2 := u64) eu64.symm ?_
  refine x_iinc C 0 [(1, .int (20 : Int32)), (0, .ref (z + 6))] dX6_init_47 rfl (by decide) (by decide) rfl ?_
  refine x_goto C 25 dX6_init_50 (by decide) ?_
  refine x_iload_n C 0 dX6_init_25 rfl rfl ?_
  refine x_aload_n C 1 dX6_init_26 rfl rfl ?_
  have k6_62 := (congrFun eu62 6).trans (hup_n' (by decide) (k6_61))
  have k6_63 := (congrFun eu63 6).trans (hup_n' (by decide) (hup_n' (by decide) (hup_n' (by decide) (k6_62))))
  have k6_64 := (congrFun eu64 6).trans (hup_n' (by decide) (k6_63))
  refine gfX6_11 C dX6_init_27 k6_64 rfl ?_
  have k7_64 := (congrFun eu64 7).trans (hup_s _ _ _)
  refine x_alen (v := (30 : Int32)) C 3 k7_64 rfl rfl dX6_init_30 ?_
  refine x_icmp_ge_f C 53 dX6_init_31 (by decide) (by decide) ?_
  refine x_aload_n C 1 dX6_init_34 rfl rfl ?_
  refine gfX6_11 C dX6_init_35 k6_64 rfl ?_
  refine x_iload_n C 0 dX6_init_38 rfl rfl ?_
  refine x_new C gdX3 tyX3 tyX3_ok (ci := 2) rfl koX6_9 kiX3 kzX3 [.int (0 : Int32), .int (0 : Int32), .int (0 : Int32), .int (0 : Int32), .int (0 : Int32), .int (0 : Int32), .int (0 : Int32), .int (0 : Int32), .int (0 : Int32), .int (0 : Int32), .null, .null] (by decide +kernel) (Nat.le_of_ble_eq_true rfl) (Nat.le_of_ble_eq_true rfl) dX6_init_39 ?_
  obtain ⟨u65, eu65⟩ : ∃ w : HpT, w = (hup u64 68 (.inr (2, [.int (0 : Int32), .int (0 : Int32), .int (0 : Int32), .int (0 : Int32), .int (0 : Int32), .int (0 : Int32), .int (0 : Int32), .int (0 : Int32), .int (0 : Int32), .int (0 : Int32), .null, .null]))) := ⟨_, rfl⟩
  refine x_norm (st2 := [.ref (z + 68), .int (20 : Int32), .ref (z + 7)]) (kc2 := 62) (ks2 := 522) (n2 := 69) rfl rfl rfl rfl eu65.symm ?_
  refine x_dup C dX6_init_42 rfl ?_
  have k68_65 := (congrFun eu65 68).trans (hup_s _ _ _)
  refine x_callIN C cl_X3_init knX6_24 (b := z + 68) (As := []) (rest := [.ref (z + 68), .int (20 : Int32), .ref (z + 7)]) (p_X3_init_21 u65 k68_65) rfl rfl (Nat.le_of_ble_eq_true rfl) ⟨Nat.le_of_ble_eq_true rfl, Nat.le_of_ble_eq_true rfl⟩ ⟨Nat.le_of_ble_eq_true rfl, Nat.le_of_ble_eq_true rfl⟩ dX6_init_43 ?_
  obtain ⟨u66, eu66⟩ : ∃ w : HpT, w = (hup (hup (hup u65 69 (aI G 6 (fun _ => 0))) 70 (aI G 6 (fun _ => 0))) 68 (.inr (2, [.int (0 : Int32), .int (0 : Int32), .int (0 : Int32), .int (0 : Int32), .int (-1 : Int32), .int (0 : Int32), .int (-1 : Int32), .int (0 : Int32), .int (0 : Int32), .int (0 : Int32), .ref (z + 69), .ref (z + 70)]))) := ⟨_, rfl⟩
  refine x_norm (st2 := [.ref (z + 68), .int (20 : Int32), .ref (z + 7)]) (kc2 := 64) (ks2 := 534) (n2 := 71) rfl rfl rfl rfl eu66.symm ?_
  have k7_65 := (congrFun eu65 7).trans (hup_n' (by decide) (k7_64))
  have k7_66 := (congrFun eu66 7).trans (hup_n' (by decide) (hup_n' (by decide) (hup_n' (by decide) (k7_65))))
  have k68_66 := (congrFun eu66 68).trans (hup_s _ _ _)
  refine x_aastk C 3 2 (r := (RX3, TX3, 12)) rfl k7_66 k68_66 rfl (vp_in_lit (by decide) (by decide)) (k := 20) (by decide) dX6_init_46 ?_
  obtain ⟨u67, eu67⟩ : ∃ w : HpT, w = (hup u66 7 (aE G 30 (va_up (va_up (va_up (va_up (va_up (va_up (va_up (va_up (va_up (va_up (va_up (va_up (va_up (va_up (va_up (va_up (va_up (va_up (va_up (va_up (va_up (fun _ => none) 0 (some (z + 8))) 1 (some (z + 11))) 2 (some (z + 14))) 3 (some (z + 17))) 4 (some (z + 20))) 5 (some (z + 23))) 6 (some (z + 26))) 7 (some (z + 29))) 8 (some (z + 32))) 9 (some (z + 35))) 10 (some (z + 38))) 11 (some (z + 41))) 12 (some (z + 44))) 13 (some (z + 47))) 14 (some (z + 50))) 15 (some (z + 53))) 16 (some (z + 56))) 17 (some (z + 59))) 18 (some (z + 62))) 19 (some (z + 65))) 20 (some (z + 68))))) := ⟨_, rfl⟩
  refine x_heap (u2 := u67) eu67.symm ?_
  refine x_iinc C 0 [(1, .int (21 : Int32)), (0, .ref (z + 6))] dX6_init_47 rfl (by decide) (by decide) rfl ?_
  refine x_goto C 25 dX6_init_50 (by decide) ?_
  refine x_iload_n C 0 dX6_init_25 rfl rfl ?_
  refine x_aload_n C 1 dX6_init_26 rfl rfl ?_
  have k6_65 := (congrFun eu65 6).trans (hup_n' (by decide) (k6_64))
  have k6_66 := (congrFun eu66 6).trans (hup_n' (by decide) (hup_n' (by decide) (hup_n' (by decide) (k6_65))))
  have k6_67 := (congrFun eu67 6).trans (hup_n' (by decide) (k6_66))
  refine gfX6_11 C dX6_init_27 k6_67 rfl ?_
  have k7_67 := (congrFun eu67 7).trans (hup_s _ _ _)
  refine x_alen (v := (30 : Int32)) C 3 k7_67 rfl rfl dX6_init_30 ?_
  refine x_icmp_ge_f C 53 dX6_init_31 (by decide) (by decide) ?_
  refine x_aload_n C 1 dX6_init_34 rfl rfl ?_
  refine gfX6_11 C dX6_init_35 k6_67 rfl ?_
  refine x_iload_n C 0 dX6_init_38 rfl rfl ?_
  refine x_new C gdX3 tyX3 tyX3_ok (ci := 2) rfl koX6_9 kiX3 kzX3 [.int (0 : Int32), .int (0 : Int32), .int (0 : Int32), .int (0 : Int32), .int (0 : Int32), .int (0 : Int32), .int (0 : Int32), .int (0 : Int32), .int (0 : Int32), .int (0 : Int32), .null, .null] (by decide +kernel) (Nat.le_of_ble_eq_true rfl) (Nat.le_of_ble_eq_true rfl) dX6_init_39 ?_
  obtain ⟨u68, eu68⟩ : ∃ w : HpT, w = (hup u67 71 (.inr (2, [.int (0 : Int32), .int (0 : Int32), .int (0 : Int32), .int (0 : Int32), .int (0 : Int32), .int (0 : Int32), .int (0 : Int32), .int (0 : Int32), .int (0 : Int32), .int (0 : Int32), .null, .null]))) := ⟨_, rfl⟩
  refine x_norm (st2 := [.ref (z + 71), .int (21 : Int32), .ref (z + 7)]) (kc2 := 65) (ks2 := 546) (n2 := 72) rfl rfl rfl rfl eu68.symm ?_
  refine x_dup C dX6_init_42 rfl ?_
  have k71_68 := (congrFun eu68 71).trans (hup_s _ _ _)
  refine x_callIN C cl_X3_init knX6_24 (b := z + 71) (As := []) (rest := [.ref (z + 71), .int (21 : Int32), .ref (z + 7)]) (p_X3_init_22 u68 k71_68) rfl rfl (Nat.le_of_ble_eq_true rfl) ⟨Nat.le_of_ble_eq_true rfl, Nat.le_of_ble_eq_true rfl⟩ ⟨Nat.le_of_ble_eq_true rfl, Nat.le_of_ble_eq_true rfl⟩ dX6_init_43 ?_
  obtain ⟨u69, eu69⟩ : ∃ w : HpT, w = (hup (hup (hup u68 72 (aI G 6 (fun _ => 0))) 73 (aI G 6 (fun _ => 0))) 71 (.inr (2, [.int (0 : Int32), .int (0 : Int32), .int (0 : Int32), .int (0 : Int32), .int (-1 : Int32), .int (0 : Int32), .int (-1 : Int32), .int (0 : Int32), .int (0 : Int32), .int (0 : Int32), .ref (z + 72), .ref (z + 73)]))) := ⟨_, rfl⟩
  refine x_norm (st2 := [.ref (z + 71), .int (21 : Int32), .ref (z + 7)]) (kc2 := 67) (ks2 := 558) (n2 := 74) rfl rfl rfl rfl eu69.symm ?_
  have k7_68 := (congrFun eu68 7).trans (hup_n' (by decide) (k7_67))
  have k7_69 := (congrFun eu69 7).trans (hup_n' (by decide) (hup_n' (by decide) (hup_n' (by decide) (k7_68))))
  have k71_69 := (congrFun eu69 71).trans (hup_s _ _ _)
  refine x_aastk C 3 2 (r := (RX3, TX3, 12)) rfl k7_69 k71_69 rfl (vp_in_lit (by decide) (by decide)) (k := 21) (by decide) dX6_init_46 ?_
  obtain ⟨u70, eu70⟩ : ∃ w : HpT, w = (hup u69 7 (aE G 30 (va_up (va_up (va_up (va_up (va_up (va_up (va_up (va_up (va_up (va_up (va_up (va_up (va_up (va_up (va_up (va_up (va_up (va_up (va_up (va_up (va_up (va_up (fun _ => none) 0 (some (z + 8))) 1 (some (z + 11))) 2 (some (z + 14))) 3 (some (z + 17))) 4 (some (z + 20))) 5 (some (z + 23))) 6 (some (z + 26))) 7 (some (z + 29))) 8 (some (z + 32))) 9 (some (z + 35))) 10 (some (z + 38))) 11 (some (z + 41))) 12 (some (z + 44))) 13 (some (z + 47))) 14 (some (z + 50))) 15 (some (z + 53))) 16 (some (z + 56))) 17 (some (z + 59))) 18 (some (z + 62))) 19 (some (z + 65))) 20 (some (z + 68))) 21 (some (z + 71))))) := ⟨_, rfl⟩
  refine x_heap (u2 := u70) eu70.symm ?_
  refine x_iinc C 0 [(1, .int (22 : Int32)), (0, .ref (z + 6))] dX6_init_47 rfl (by decide) (by decide) rfl ?_
  refine x_goto C 25 dX6_init_50 (by decide) ?_
  refine x_iload_n C 0 dX6_init_25 rfl rfl ?_
  refine x_aload_n C 1 dX6_init_26 rfl rfl ?_
  have k6_68 := (congrFun eu68 6).trans (hup_n' (by decide) (k6_67))
  have k6_69 := (congrFun eu69 6).trans (hup_n' (by decide) (hup_n' (by decide) (hup_n' (by decide) (k6_68))))
  have k6_70 := (congrFun eu70 6).trans (hup_n' (by decide) (k6_69))
  refine gfX6_11 C dX6_init_27 k6_70 rfl ?_
  have k7_70 := (congrFun eu70 7).trans (hup_s _ _ _)
  refine x_alen (v := (30 : Int32)) C 3 k7_70 rfl rfl dX6_init_30 ?_
  refine x_icmp_ge_f C 53 dX6_init_31 (by decide) (by decide) ?_
  refine x_aload_n C 1 dX6_init_34 rfl rfl ?_
  refine gfX6_11 C dX6_init_35 k6_70 rfl ?_
  refine x_iload_n C 0 dX6_init_38 rfl rfl ?_
  refine x_new C gdX3 tyX3 tyX3_ok (ci := 2) rfl koX6_9 kiX3 kzX3 [.int (0 : Int32), .int (0 : Int32), .int (0 : Int32), .int (0 : Int32), .int (0 : Int32), .int (0 : Int32), .int (0 : Int32), .int (0 : Int32), .int (0 : Int32), .int (0 : Int32), .null, .null] (by decide +kernel) (Nat.le_of_ble_eq_true rfl) (Nat.le_of_ble_eq_true rfl) dX6_init_39 ?_
  obtain ⟨u71, eu71⟩ : ∃ w : HpT, w = (hup u70 74 (.inr (2, [.int (0 : Int32), .int (0 : Int32), .int (0 : Int32), .int (0 : Int32), .int (0 : Int32), .int (0 : Int32), .int (0 : Int32), .int (0 : Int32), .int (0 : Int32), .int (0 : Int32), .null, .null]))) := ⟨_, rfl⟩
  refine x_norm (st2 := [.ref (z + 74), .int (22 : Int32), .ref (z + 7)]) (kc2 := 68) (ks2 := 570) (n2 := 75) rfl rfl rfl rfl eu71.symm ?_
  refine x_dup C dX6_init_42 rfl ?_
  have k74_71 := (congrFun eu71 74).trans (hup_s _ _ _)
  refine x_callIN C cl_X3_init knX6_24 (b := z + 74) (As := []) (rest := [.ref (z + 74), .int (22 : Int32), .ref (z + 7)]) (p_X3_init_23 u71 k74_71) rfl rfl (Nat.le_of_ble_eq_true rfl) ⟨Nat.le_of_ble_eq_true rfl, Nat.le_of_ble_eq_true rfl⟩ ⟨Nat.le_of_ble_eq_true rfl, Nat.le_of_ble_eq_true rfl⟩ dX6_init_43 ?_
  obtain ⟨u72, eu72⟩ : ∃ w : HpT, w = (hup (hup (hup u71 75 (aI G 6 (fun _ => 0))) 76 (aI G 6 (fun _ => 0))) 74 (.inr (2, [.int (0 : Int32), .int (0 : Int32), .int (0 : Int32), .int (0 : Int32), .int (-1 : Int32), .int (0 : Int32), .int (-1 : Int32), .int (0 : Int32), .int (0 : Int32), .int (0 : Int32), .ref (z + 75), .ref (z + 76)]))) := ⟨_, rfl⟩
  refine x_norm (st2 := [.ref (z + 74), .int (22 : Int32), .ref (z + 7)]) (kc2 := 70) (ks2 := 582) (n2 := 77) rfl rfl rfl rfl eu72.symm ?_
  have k7_71 := (congrFun eu71 7).trans (hup_n' (by decide) (k7_70))
  have k7_72 := (congrFun eu72 7).trans (hup_n' (by decide) (hup_n' (by decide) (hup_n' (by decide) (k7_71))))
  have k74_72 := (congrFun eu72 74).trans (hup_s _ _ _)
  refine x_aastk C 3 2 (r := (RX3, TX3, 12)) rfl k7_72 k74_72 rfl (vp_in_lit (by decide) (by decide)) (k := 22) (by decide) dX6_init_46 ?_
  obtain ⟨u73, eu73⟩ : ∃ w : HpT, w = (hup u72 7 (aE G 30 (va_up (va_up (va_up (va_up (va_up (va_up (va_up (va_up (va_up (va_up (va_up (va_up (va_up (va_up (va_up (va_up (va_up (va_up (va_up (va_up (va_up (va_up (va_up (fun _ => none) 0 (some (z + 8))) 1 (some (z + 11))) 2 (some (z + 14))) 3 (some (z + 17))) 4 (some (z + 20))) 5 (some (z + 23))) 6 (some (z + 26))) 7 (some (z + 29))) 8 (some (z + 32))) 9 (some (z + 35))) 10 (some (z + 38))) 11 (some (z + 41))) 12 (some (z + 44))) 13 (some (z + 47))) 14 (some (z + 50))) 15 (some (z + 53))) 16 (some (z + 56))) 17 (some (z + 59))) 18 (some (z + 62))) 19 (some (z + 65))) 20 (some (z + 68))) 21 (some (z + 71))) 22 (some (z + 74))))) := ⟨_, rfl⟩
  refine x_heap (u2 := u73) eu73.symm ?_
  refine x_iinc C 0 [(1, .int (23 : Int32)), (0, .ref (z + 6))] dX6_init_47 rfl (by decide) (by decide) rfl ?_
  refine x_goto C 25 dX6_init_50 (by decide) ?_
  refine x_iload_n C 0 dX6_init_25 rfl rfl ?_
  refine x_aload_n C 1 dX6_init_26 rfl rfl ?_
  have k6_71 := (congrFun eu71 6).trans (hup_n' (by decide) (k6_70))
  have k6_72 := (congrFun eu72 6).trans (hup_n' (by decide) (hup_n' (by decide) (hup_n' (by decide) (k6_71))))
  have k6_73 := (congrFun eu73 6).trans (hup_n' (by decide) (k6_72))
  refine gfX6_11 C dX6_init_27 k6_73 rfl ?_
  have k7_73 := (congrFun eu73 7).trans (hup_s _ _ _)
  refine x_alen (v := (30 : Int32)) C 3 k7_73 rfl rfl dX6_init_30 ?_
  refine x_icmp_ge_f C 53 dX6_init_31 (by decide) (by decide) ?_
  refine x_aload_n C 1 dX6_init_34 rfl rfl ?_
  refine gfX6_11 C dX6_init_35 k6_73 rfl ?_
  refine x_iload_n C 0 dX6_init_38 rfl rfl ?_
  refine x_new C gdX3 tyX3 tyX3_ok (ci := 2) rfl koX6_9 kiX3 kzX3 [.int (0 : Int32), .int (0 : Int32), .int (0 : Int32), .int (0 : Int32), .int (0 : Int32), .int (0 : Int32), .int (0 : Int32), .int (0 : Int32), .int (0 : Int32), .int (0 : Int32), .null, .null] (by decide +kernel) (Nat.le_of_ble_eq_true rfl) (Nat.le_of_ble_eq_true rfl) dX6_init_39 ?_
  obtain ⟨u74, eu74⟩ : ∃ w : HpT, w = (hup u73 77 (.inr (2, [.int (0 : Int32), .int (0 : Int32), .int (0 : Int32), .int (0 : Int32), .int (0 : Int32), .int (0 : Int32), .int (0 : Int32), .int (0 : Int32), .int (0 : Int32), .int (0 : Int32), .null, .null]))) := ⟨_, rfl⟩
  refine x_norm (st2 := [.ref (z + 77), .int (23 : Int32), .ref (z + 7)]) (kc2 := 71) (ks2 := 594) (n2 := 78) rfl rfl rfl rfl eu74.symm ?_
  refine x_dup C dX6_init_42 rfl ?_
  have k77_74 := (congrFun eu74 77).trans (hup_s _ _ _)
  refine x_callIN C cl_X3_init knX6_24 (b := z + 77) (As := []) (rest := [.ref (z + 77), .int (23 : Int32), .ref (z + 7)]) (p_X3_init_24 u74 k77_74) rfl rfl (Nat.le_of_ble_eq_true rfl) ⟨Nat.le_of_ble_eq_true rfl, Nat.le_of_ble_eq_true rfl⟩ ⟨Nat.le_of_ble_eq_true rfl, Nat.le_of_ble_eq_true rfl⟩ dX6_init_43 ?_
  obtain ⟨u75, eu75⟩ : ∃ w : HpT, w = (hup (hup (hup u74 78 (aI G 6 (fun _ => 0))) 79 (aI G 6 (fun _ => 0))) 77 (.inr (2, [.int (0 : Int32), .int (0 : Int32), .int (0 : Int32), .int (0 : Int32), .int (-1 : Int32), .int (0 : Int32), .int (-1 : Int32), .int (0 : Int32), .int (0 : Int32), .int (0 : Int32), .ref (z + 78), .ref (z + 79)]))) := ⟨_, rfl⟩
  refine x_norm (st2 := [.ref (z + 77), .int (23 : Int32), .ref (z + 7)]) (kc2 := 73) (ks2 := 606) (n2 := 80) rfl rfl rfl rfl eu75.symm ?_
  have k7_74 := (congrFun eu74 7).trans (hup_n' (by decide) (k7_73))
  have k7_75 := (congrFun eu75 7).trans (hup_n' (by decide) (hup_n' (by decide) (hup_n' (by decide) (k7_74))))
  have k77_75 := (congrFun eu75 77).trans (hup_s _ _ _)
  refine x_aastk C 3 2 (r := (RX3, TX3, 12)) rfl k7_75 k77_75 rfl (vp_in_lit (by decide) (by decide)) (k := 23) (by decide) dX6_init_46 ?_
  obtain ⟨u76, eu76⟩ : ∃ w : HpT, w = (hup u75 7 (aE G 30 (va_up (va_up (va_up (va_up (va_up (va_up (va_up (va_up (va_up (va_up (va_up (va_up (va_up (va_up (va_up (va_up (va_up (va_up (va_up (va_up (va_up (va_up (va_up (va_up (fun _ => none) 0 (some (z + 8))) 1 (some (z + 11))) 2 (some (z + 14))) 3 (some (z + 17))) 4 (some (z + 20))) 5 (some (z + 23))) 6 (some (z + 26))) 7 (some (z + 29))) 8 (some (z + 32))) 9 (some (z + 35))) 10 (some (z + 38))) 11 (some (z + 41))) 12 (some (z + 44))) 13 (some (z + 47))) 14 (some (z + 50))) 15 (some (z + 53))) 16 (some (z + 56))) 17 (some (z + 59))) 18 (some (z + 62))) 19 (some (z + 65))) 20 (some (z + 68))) 21 (some (z + 71))) 22 (some (z + 74))) 23 (some (z + 77))))) := ⟨_, rfl⟩
  refine x_heap (u2 := u76) eu76.symm ?_
  refine x_iinc C 0 [(1, .int (24 : Int32)), (0, .ref (z + 6))] dX6_init_47 rfl (by decide) (by decide) rfl ?_
  refine x_goto C 25 dX6_init_50 (by decide) ?_
  refine x_iload_n C 0 dX6_init_25 rfl rfl ?_
  refine x_aload_n C 1 dX6_init_26 rfl rfl ?_
  have k6_74 := (congrFun eu74 6).trans (hup_n' (by decide) (k6_73))
  have k6_75 := (congrFun eu75 6).trans (hup_n' (by decide) (hup_n' (by decide) (hup_n' (by decide) (k6_74))))
  have k6_76 := (congrFun eu76 6).trans (hup_n' (by decide) (k6_75))
  refine gfX6_11 C dX6_init_27 k6_76 rfl ?_
  have k7_76 := (congrFun eu76 7).trans (hup_s _ _ _)
  refine x_alen (v := (30 : Int32)) C 3 k7_76 rfl rfl dX6_init_30 ?_
  refine x_icmp_ge_f C 53 dX6_init_31 (by decide) (by decide) ?_
  refine x_aload_n C 1 dX6_init_34 rfl rfl ?_
  refine gfX6_11 C dX6_init_35 k6_76 rfl ?_
  refine x_iload_n C 0 dX6_init_38 rfl rfl ?_
  refine x_new C gdX3 tyX3 tyX3_ok (ci := 2) rfl koX6_9 kiX3 kzX3 [.int (0 : Int32), .int (0 : Int32), .int (0 : Int32), .int (0 : Int32), .int (0 : Int32), .int (0 : Int32), .int (0 : Int32), .int (0 : Int32), .int (0 : Int32), .int (0 : Int32), .null, .null] (by decide +kernel) (Nat.le_of_ble_eq_true rfl) (Nat.le_of_ble_eq_true rfl) dX6_init_39 ?_
  obtain ⟨u77, eu77⟩ : ∃ w : HpT, w = (hup u76 80 (.inr (2, [.int (0 : Int32), .int (0 : Int32), .int (0 : Int32), .int (0 : Int32), .int (0 : Int32), .int (0 : Int32), .int (0 : Int32), .int (0 : Int32), .int (0 : Int32), .int (0 : Int32), .null, .null]))) := ⟨_, rfl⟩
  refine x_norm (st2 := [.ref (z + 80), .int (24 : Int32), .ref (z + 7)]) (kc2 := 74) (ks2 := 618) (n2 := 81) rfl rfl rfl rfl eu77.symm ?_
  refine x_dup C dX6_init_42 rfl ?_
  have k80_77 := (congrFun eu77 80).trans (hup_s _ _ _)
  refine x_callIN C cl_X3_init knX6_24 (b := z + 80) (As := []) (rest := [.ref (z + 80), .int (24 : Int32), .ref (z + 7)]) (p_X3_init_25 u77 k80_77) rfl rfl (Nat.le_of_ble_eq_true rfl) ⟨Nat.le_of_ble_eq_true rfl, Nat.le_of_ble_eq_true rfl⟩ ⟨Nat.le_of_ble_eq_true rfl, Nat.le_of_ble_eq_true rfl⟩ dX6_init_43 ?_
  obtain ⟨u78, eu78⟩ : ∃ w : HpT, w = (hup (hup (hup u77 81 (aI G 6 (fun _ => 0))) 82 (aI G 6 (fun _ => 0))) 80 (.inr (2, [.int (0 : Int32), .int (0 : Int32), .int (0 : Int32), .int (0 : Int32), .int (-1 : Int32), .int (0 : Int32), .int (-1 : Int32), .int (0 : Int32), .int (0 : Int32), .int (0 : Int32), .ref (z + 81), .ref (z + 82)]))) := ⟨_, rfl⟩
  refine x_norm (st2 := [.ref (z + 80), .int (24 : Int32), .ref (z + 7)]) (kc2 := 76) (ks2 := 630) (n2 := 83) rfl rfl rfl rfl eu78.symm ?_
  have k7_77 := (congrFun eu77 7).trans (hup_n' (by decide) (k7_76))
  have k7_78 := (congrFun eu78 7).trans (hup_n' (by decide) (hup_n' (by decide) (hup_n' (by decide) (k7_77))))
  have k80_78 := (congrFun eu78 80).trans (hup_s _ _ _)
  refine x_aastk C 3 2 (r := (RX3, TX3, 12)) rfl k7_78 k80_78 rfl (vp_in_lit (by decide) (by decide)) (k := 24) (by decide) dX6_init_46 ?_
  obtain ⟨u79, eu79⟩ : ∃ w : HpT, w = (hup u78 7 (aE G 30 (va_up (va_up (va_up (va_up (va_up (va_up (va_up (va_up (va_up (va_up (va_up (va_up (va_up (va_up (va_up (va_up (va_up (va_up (va_up (va_up (va_up (va_up (va_up (va_up (va_up (fun _ => none) 0 (some (z + 8))) 1 (some (z + 11))) 2 (some (z + 14))) 3 (some (z + 17))) 4 (some (z + 20))) 5 (some (z + 23))) 6 (some (z + 26))) 7 (some (z + 29))) 8 (some (z + 32))) 9 (some (z + 35))) 10 (some (z + 38))) 11 (some (z + 41))) 12 (some (z + 44))) 13 (some (z + 47))) 14 (some (z + 50))) 15 (some (z + 53))) 16 (some (z + 56))) 17 (some (z + 59))) 18 (some (z + 62))) 19 (some (z + 65))) 20 (some (z + 68))) 21 (some (z + 71))) 22 (some (z + 74))) 23 (some (z + 77))) 24 (some (z + 80))))) := ⟨_, rfl⟩
  refine x_heap (u2 := u79) eu79.symm ?_
  refine x_iinc C 0 [(1, .int (25 : Int32)), (0, .ref (z + 6))] dX6_init_47 rfl (by decide) (by decide) rfl ?_
  refine x_goto C 25 dX6_init_50 (by decide) ?_
  refine x_iload_n C 0 dX6_init_25 rfl rfl ?_
  refine x_aload_n C 1 dX6_init_26 rfl rfl ?_
  have k6_77 := (congrFun eu77 6).trans (hup_n' (by decide) (k6_76))
  have k6_78 := (congrFun eu78 6).trans (hup_n' (by decide) (hup_n' (by decide) (hup_n' (by decide) (k6_77))))
  have k6_79 := (congrFun eu79 6).trans (hup_n' (by decide) (k6_78))
  refine gfX6_11 C dX6_init_27 k6_79 rfl ?_
  have k7_79 := (congrFun eu79 7).trans (hup_s _ _ _)
  refine x_alen (v := (30 : Int32)) C 3 k7_79 rfl rfl dX6_init_30 ?_
  refine x_icmp_ge_f C 53 dX6_init_31 (by decide) (by decide) ?_
  refine x_aload_n C 1 dX6_init_34 rfl rfl ?_
  refine gfX6_11 C dX6_init_35 k6_79 rfl ?_
  refine x_iload_n C 0 dX6_init_38 rfl rfl ?_
  refine x_new C gdX3 tyX3 tyX3_ok (ci := 2) rfl koX6_9 kiX3 kzX3 [.int (0 : Int32), .int (0 : Int32), .int (0 : Int32), .int (0 : Int32), .int (0 : Int32), .int (0 : Int32), .int (0 : Int32), .int (0 : Int32), .int (0 : Int32), .int (0 : Int32), .null, .null] (by decide +kernel) (Nat.le_of_ble_eq_true rfl) (Nat.le_of_ble_eq_true rfl) dX6_init_39 ?_
  obtain ⟨u80, eu80⟩ : ∃ w : HpT, w = (hup u79 83 (.inr (2, [.int (0 : Int32), .int (0 : Int32), .int (0 : Int32), .int (0 : Int32), .int (0 : Int32), .int (0 : Int32), .int (0 : Int32), .int (0 : Int32), .int (0 : Int32), .int (0 : Int32), .null, .null]))) := ⟨_, rfl⟩
  refine x_norm (st2 := [.ref (z + 83), .int (25 : Int32), .ref (z + 7)]) (kc2 := 77) (ks2 := 642) (n2 := 84) rfl rfl rfl rfl eu80.symm ?_
  refine x_dup C dX6_init_42 rfl ?_
  have k83_80 := (congrFun eu80 83).trans (hup_s _ _ _)
  refine x_callIN C cl_X3_init knX6_24 (b := z + 83) (As := []) (rest := [.ref (z + 83), .int (25 : Int32), .ref (z + 7)]) (p_X3_init_26 u80 k83_80) rfl rfl (Nat.le_of_ble_eq_true rfl) ⟨Nat.le_of_ble_eq_true rfl, Nat.le_of_ble_eq_true rfl⟩ ⟨Nat.le_of_ble_eq_true rfl, Nat.le_of_ble_eq_true rfl⟩ dX6_init_43 ?_
  obtain ⟨u81, eu81⟩ : ∃ w : HpT, w = (hup (hup (hup u80 84 (aI G 6 (fun _ => 0))) 85 (aI G 6 (fun _ => 0))) 83 (.inr (2, [.int (0 : Int32), .int (0 : Int32), .int (0 : Int32), .int (0 : Int32), .int (-1 : Int32), .int (0 : Int32), .int (-1 : Int32), .int (0 : Int32), .int (0 : Int32), .int (0 : Int32), .ref (z + 84), .ref (z + 85)]))) := ⟨_, rfl⟩
  refine x_norm (st2 := [.ref (z + 83), .int (25 : Int32), .ref (z + 7)]) (kc2 := 79) (ks2 := 654) (n2 := 86) rfl rfl rfl rfl eu81.symm ?_
  have k7_80 := (congrFun eu80 7).trans (hup_n' (by decide) (k7_79))
  have k7_81 := (congrFun eu81 7).trans (hup_n' (by decide) (hup_n' (by decide) (hup_n' (by decide) (k7_80))))
  have k83_81 := (congrFun eu81 83).trans (hup_s _ _ _)
  refine x_aastk C 3 2 (r := (RX3, TX3, 12)) rfl k7_81 k83_81 rfl (vp_in_lit (by decide) (by decide)) (k := 25) (by decide) dX6_init_46 ?_
  obtain ⟨u82, eu82⟩ : ∃ w : HpT, w = (hup u81 7 (aE G 30 (va_up (va_up (va_up (va_up (va_up (va_up (va_up (va_up (va_up (va_up (va_up (va_up (va_up (va_up (va_up (va_up (va_up (va_up (va_up (va_up (va_up (va_up (va_up (va_up (va_up (va_up (fun _ => none) 0 (some (z + 8))) 1 (some (z + 11))) 2 (some (z + 14))) 3 (some (z + 17))) 4 (some (z + 20))) 5 (some (z + 23))) 6 (some (z + 26))) 7 (some (z + 29))) 8 (some (z + 32))) 9 (some (z + 35))) 10 (some (z + 38))) 11 (some (z + 41))) 12 (some (z + 44))) 13 (some (z + 47))) 14 (some (z + 50))) 15 (some (z + 53))) 16 (some (z + 56))) 17 (some (z + 59))) 18 (some (z + 62))) 19 (some (z + 65))) 20 (some (z + 68))) 21 (some (z + 71))) 22 (some (z + 74))) 23 (some (z + 77))) 24 (some (z + 80))) 25 (some (z + 83))))) := ⟨_, rfl⟩
  refine x_heap (u2 := u82) eu82.symm ?_
  refine x_iinc C 0 [(1, .int (26 : Int32)), (0, .ref (z + 6))] dX6_init_47 rfl (by decide) (by decide) rfl ?_
  refine x_goto C 25 dX6_init_50 (by decide) ?_
  refine x_iload_n C 0 dX6_init_25 rfl rfl ?_
  refine x_aload_n C 1 dX6_init_26 rfl rfl ?_
  have k6_80 := (congrFun eu80 6).trans (hup_n' (by decide) (k6_79))
  have k6_81 := (congrFun eu81 6).trans (hup_n' (by decide) (hup_n' (by decide) (hup_n' (by decide) (k6_80))))
  have k6_82 := (congrFun eu82 6).trans (hup_n' (by decide) (k6_81))
  refine gfX6_11 C dX6_init_27 k6_82 rfl ?_
  have k7_82 := (congrFun eu82 7).trans (hup_s _ _ _)
  refine x_alen (v := (30 : Int32)) C 3 k7_82 rfl rfl dX6_init_30 ?_
  refine x_icmp_ge_f C 53 dX6_init_31 (by decide) (by decide) ?_
  refine x_aload_n C 1 dX6_init_34 rfl rfl ?_
  refine gfX6_11 C dX6_init_35 k6_82 rfl ?_
  refine x_iload_n C 0 dX6_init_38 rfl rfl ?_
  refine x_new C gdX3 tyX3 tyX3_ok (ci := 2) rfl koX6_9 kiX3 kzX3 [.int (0 : Int32), .int (0 : Int32), .int (0 : Int32), .int (0 : Int32), .int (0 : Int32), .int (0 : Int32), .int (0 : Int32), .int (0 : Int32), .int (0 : Int32), .int (0 : Int32), .null, .null] (by decide +kernel) (Nat.le_of_ble_eq_true rfl) (Nat.le_of_ble_eq_true rfl) dX6_init_39 ?_
  obtain ⟨u83, eu83⟩ : ∃ w : HpT, w = (hup u82 86 (.inr (2, [.int (0 : Int32), .int (0 : Int32), .int (0 : Int32), .int (0 : Int32), .int (0 : Int32), .int (0 : Int32), .int (0 : Int32), .int (0 : Int32), .int (0 : Int32), .int (0 : Int32), .null, .null]))) := ⟨_, rfl⟩
  refine x_norm (st2 := [.ref (z + 86), .int (26 : Int32), .ref (z + 7)]) (kc2 := 80) (ks2 := 666) (n2 := 87) rfl rfl rfl rfl eu83.symm ?_
  refine x_dup C dX6_init_42 rfl ?_
  have k86_83 := (congrFun eu83 86).trans (hup_s _ _ _)
  refine x_callIN C cl_X3_init knX6_24 (b := z + 86) (As := []) (rest := [.ref (z + 86), .int (26 : Int32), .ref (z + 7)]) (p_X3_init_27 u83 k86_83) rfl rfl (Nat.le_of_ble_eq_true rfl) ⟨Nat.le_of_ble_eq_true rfl, Nat.le_of_ble_eq_true rfl⟩ ⟨Nat.le_of_ble_eq_true rfl, Nat.le_of_ble_eq_true rfl⟩ dX6_init_43 ?_
  obtain ⟨u84, eu84⟩ : ∃ w : HpT, w = (hup (hup (hup u83 87 (aI G 6 (fun _ => 0))) 88 (aI G 6 (fun _ => 0))) 86 (.inr (2, [.int (0 : Int32), .int (0 : Int32), .int (0 : Int32), .int (0 : Int32), .int (-1 : Int32), .int (0 : Int32), .int (-1 : Int32), .int (0 : Int32), .int (0 : Int32), .int (0 : Int32), .ref (z + 87), .ref (z + 88)]))) := ⟨_, rfl⟩
  refine x_norm (st2 := [.ref (z + 86), .int (26 : Int32), .ref (z + 7)]) (kc2 := 82) (ks2 := 678) (n2 := 89) rfl rfl rfl rfl eu84.symm ?_
  have k7_83 := (congrFun eu83 7).trans (hup_n' (by decide) (k7_82))
  have k7_84 := (congrFun eu84 7).trans (hup_n' (by decide) (hup_n' (by decide) (hup_n' (by decide) (k7_83))))
  have k86_84 := (congrFun eu84 86).trans (hup_s _ _ _)
  refine x_aastk C 3 2 (r := (RX3, TX3, 12)) rfl k7_84 k86_84 rfl (vp_in_lit (by decide) (by decide)) (k := 26) (by decide) dX6_init_46 ?_
  obtain ⟨u85, eu85⟩ : ∃ w : HpT, w = (hup u84 7 (aE G 30 (va_up (va_up (va_up (va_up (va_up (va_up (va_up (va_up (va_up (va_up (va_up (va_up (va_up (va_up (va_up (va_up (va_up (va_up (va_up (va_up (va_up (va_up (va_up (va_up (va_up (va_up (va_up (fun _ => none) 0 (some (z + 8))) 1 (some (z + 11))) 2 (some (z + 14))) 3 (some (z + 17))) 4 (some (z + 20))) 5 (some (z + 23))) 6 (some (z + 26))) 7 (some (z + 29))) 8 (some (z + 32))) 9 (some (z + 35))) 10 (some (z + 38))) 11 (some (z + 41))) 12 (some (z + 44))) 13 (some (z + 47))) 14 (some (z + 50))) 15 (some (z + 53))) 16 (some (z + 56))) 17 (some (z + 59))) 18 (some (z + 62))) 19 (some (z + 65))) 20 (some (z + 68))) 21 (some (z + 71))) 22 (some (z + 74))) 23 (some (z + 77))) 24 (some (z + 80))) 25 (some (z + 83))) 26 (some (z + 86))))) := ⟨_, rfl⟩
  refine x_heap (u2 := u85) eu85.symm ?_
  refine x_iinc C 0 [(1, .int (27 : Int32)), (0, .ref (z + 6))] dX6_init_47 rfl (by decide) (by decide) rfl ?_
  refine x_goto C 25 dX6_init_50 (by decide) ?_
  refine x_iload_n C 0 dX6_init_25 rfl rfl ?_
  refine x_aload_n C 1 dX6_init_26 rfl rfl ?_
  have k6_83 := (congrFun eu83 6).trans (hup_n' (by decide) (k6_82))
  have k6_84 := (congrFun eu84 6).trans (hup_n' (by decide) (hup_n' (by decide) (hup_n' (by decide) (k6_83))))
  have k6_85 := (congrFun eu85 6).trans (hup_n' (by decide) (k6_84))
  refine gfX6_11 C dX6_init_27 k6_85 rfl ?_
  have k7_85 := (congrFun eu85 7).trans (hup_s _ _ _)
  refine x_alen (v := (30 : Int32)) C 3 k7_85 rfl rfl dX6_init_30 ?_
  refine x_icmp_ge_f C 53 dX6_init_31 (by decide) (by decide) ?_
  refine x_aload_n C 1 dX6_init_34 rfl rfl ?_
  refine gfX6_11 C dX6_init_35 k6_85 rfl ?_
  refine x_iload_n C 0 dX6_init_38 rfl rfl ?_
  refine x_new C gdX3 tyX3 tyX3_ok (ci := 2) rfl koX6_9 kiX3 kzX3 [.int (0 : Int32), .int (0 : Int32), .int (0 : Int32), .int (0 : Int32), .int (0 : Int32), .int (0 : Int32), .int (0 : Int32), .int (0 : Int32), .int (0 : Int32), .int (0 : Int32), .null, .null] (by decide +kernel) (Nat.le_of_ble_eq_true rfl) (Nat.le_of_ble_eq_true rfl) dX6_init_39 ?_
  obtain ⟨u86, eu86⟩ : ∃ w : HpT, w = (hup u85 89 (.inr (2, [.int (0 : Int32), .int (0 : Int32), .int (0 : Int32), .int (0 : Int32), .int (0 : Int32), .int (0 : Int32), .int (0 : Int32), .int (0 : Int32), .int (0 : Int32), .int (0 : Int32), .null, .null]))) := ⟨_, rfl⟩
  refine x_norm (st2 := [.ref (z + 89), .int (27 : Int32), .ref (z + 7)]) (kc2 := 83) (ks2 := 690) (n2 := 90) rfl rfl rfl rfl eu86.symm ?_
  refine x_dup C dX6_init_42 rfl ?_
  have k89_86 := (congrFun eu86 89).trans (hup_s _ _ _)
  refine x_callIN C cl_X3_init knX6_24 (b := z + 89) (As := []) (rest := [.ref (z + 89), .int (27 : Int32), .ref (z + 7)]) (p_X3_init_28 u86 k89_86) rfl rfl (Nat.le_of_ble_eq_true rfl) ⟨Nat.le_of_ble_eq_true rfl, Nat.le_of_ble_eq_true rfl⟩ ⟨Nat.le_of_ble_eq_true rfl, Nat.le_of_ble_eq_true rfl⟩ dX6_init_43 ?_
  obtain ⟨u87, eu87⟩ : ∃ w : HpT, w = (hup (hup (hup u86 90 (aI G 6 (fun _ => 0))) 91 (aI G 6 (fun _ => 0))) 89 (.inr (2, [.int (0 : Int32), .int (0 : Int32), .int (0 : Int32), .int (0 : Int32), .int (-1 : Int32), .int (0 : Int32), .int (-1 : Int32), .int (0 : Int32), .int (0 : Int32), .int (0 : Int32), .ref (z + 90), .ref (z + 91)]))) := ⟨_, rfl⟩
  refine x_norm (st2 := [.ref (z + 89), .int (27 : Int32), .ref (z + 7)]) (kc2 := 85) (ks2 := 702) (n2 := 92) rfl rfl rfl rfl eu87.symm ?_
  have k7_86 := (congrFun eu86 7).trans (hup_n' (by decide) (k7_85))
  have k7_87 := (congrFun eu87 7).trans (hup_n' (by decide) (hup_n' (by decide) (hup_n' (by decide) (k7_86))))
  have k89_87 := (congrFun eu87 89).trans (hup_s _ _ _)
  refine x_aastk C 3 2 (r := (RX3, TX3, 12)) rfl k7_87 k89_87 rfl (vp_in_lit (by decide) (by decide)) (k := 27) (by decide) dX6_init_46 ?_
  obtain ⟨u88, eu88⟩ : ∃ w : HpT, w = (hup u87 7 (aE G 30 (va_up (va_up (va_up (va_up (va_up (va_up (va_up (va_up (va_up (va_up (va_up (va_up (va_up (va_up (va_up (va_up (va_up (va_up (va_up (va_up (va_up (va_up (va_up (va_up (va_up (va_up (va_up (va_up (fun _ => none) 0 (some (z + 8))) 1 (some (z + 11))) 2 (some (z + 14))) 3 (some (z + 17))) 4 (some (z + 20))) 5 (some (z + 23))) 6 (some (z + 26))) 7 (some (z + 29))) 8 (some (z + 32))) 9 (some (z + 35))) 10 (some (z + 38))) 11 (some (z + 41))) 12 (some (z + 44))) 13 (some (z + 47))) 14 (some (z + 50))) 15 (some (z + 53))) 16 (some (z + 56))) 17 (some (z + 59))) 18 (some (z + 62))) 19 (some (z + 65))) 20 (some (z + 68))) 21 (some (z + 71))) 22 (some (z + 74))) 23 (some (z + 77))) 24 (some (z + 80))) 25 (some (z + 83))) 26 (some (z + 86))) 27 (some (z + 89))))) := ⟨_, rfl⟩
  refine x_heap (u2 := u88) eu88.symm ?_
  refine x_iinc C 0 [(1, .int (28 : Int32)), (0, .ref (z + 6))] dX6_init_47 rfl (by decide) (by decide) rfl ?_
  refine x_goto C 25 dX6_init_50 (by decide) ?_
  refine x_iload_n C 0 dX6_init_25 rfl rfl ?_
  refine x_aload_n C 1 dX6_init_26 rfl rfl ?_
  have k6_86 := (congrFun eu86 6).trans (hup_n' (by decide) (k6_85))
  have k6_87 := (congrFun eu87 6).trans (hup_n' (by decide) (hup_n' (by decide) (hup_n' (by decide) (k6_86))))
  have k6_88 := (congrFun eu88 6).trans (hup_n' (by decide) (k6_87))
  refine gfX6_11 C dX6_init_27 k6_88 rfl ?_
  have k7_88 := (congrFun eu88 7).trans (hup_s _ _ _)
  refine x_alen (v := (30 : Int32)) C 3 k7_88 rfl rfl dX6_init_30 ?_
  refine x_icmp_ge_f C 53 dX6_init_31 (by decide) (by decide) ?_
  refine x_aload_n C 1 dX6_init_34 rfl rfl ?_
  refine gfX6_11 C dX6_init_35 k6_88 rfl ?_
  refine x_iload_n C 0 dX6_init_38 rfl rfl ?_
  refine x_new C gdX3 tyX3 tyX3_ok (ci := 2) rfl koX6_9 kiX3 kzX3 [.int (0 : Int32), .int (0 : Int32), .int (0 : Int32), .int (0 : Int32), .int (0 : Int32), .int (0 : Int32), .int (0 : Int32), .int (0 : Int32), .int (0 : Int32), .int (0 : Int32), .null, .null] (by decide +kernel) (Nat.le_of_ble_eq_true rfl) (Nat.le_of_ble_eq_true rfl) dX6_init_39 ?_
  obtain ⟨u89, eu89⟩ : ∃ w : HpT, w = (hup u88 92 (.inr (2, [.int (0 : Int32), .int (0 : Int32), .int (0 : Int32), .int (0 : Int32), .int (0 : Int32), .int (0 : Int32), .int (0 : Int32), .int (0 : Int32), .int (0 : Int32), .int (0 : Int32), .null, .null]))) := ⟨_, rfl⟩
  refine x_norm (st2 := [.ref (z + 92), .int (28 : Int32), .ref (z + 7)]) (kc2 := 86) (ks2 := 714) (n2 := 93) rfl rfl rfl rfl eu89.symm ?_
  refine x_dup C dX6_init_42 rfl ?_
  have k92_89 := (congrFun eu89 92).trans (hup_s _ _ _)
  refine x_callIN C cl_X3_init knX6_24 (b := z + 92) (As := []) (rest := [.ref (z + 92), .int (28 : Int32), .ref (z + 7)]) (p_X3_init_29 u89 k92_89) rfl rfl (Nat.le_of_ble_eq_true rfl) ⟨Nat.le_of_ble_eq_true rfl, Nat.le_of_ble_eq_true rfl⟩ ⟨Nat.le_of_ble_eq_true rfl, Nat.le_of_ble_eq_true rfl⟩ dX6_init_43 ?_
  obtain ⟨u90, eu90⟩ : ∃ w : HpT, w = (hup (hup (hup u89 93 (aI G 6 (fun _ => 0))) 94 (aI G 6 (fun _ => 0))) 92 (.inr (2, [.int (0 : Int32), .int (0 : Int32), .int (0 : Int32), .int (0 : Int32), .int (-1 : Int32), .int (0 : Int32), .int (-1 : Int32), .int (0 : Int32), .int (0 : Int32), .int (0 : Int32), .ref (z + 93), .ref (z + 94)]))) := ⟨_, rfl⟩
  refine x_norm (st2 := [.ref (z + 92), .int (28 : Int32), .ref (z + 7)]) (kc2 := 88) (ks2 := 726) (n2 := 95) rfl rfl rfl rfl eu90.symm ?_
  have k7_89 := (congrFun eu89 7).trans (hup_n' (by decide) (k7_88))
  have k7_90 := (congrFun eu90 7).trans (hup_n' (by decide) (hup_n' (by decide) (hup_n' (by decide) (k7_89))))
  have k92_90 := (congrFun eu90 92).trans (hup_s _ _ _)
  refine x_aastk C 3 2 (r := (RX3, TX3, 12)) rfl k7_90 k92_90 rfl (vp_in_lit (by decide) (by decide)) (k := 28) (by decide) dX6_init_46 ?_
  obtain ⟨u91, eu91⟩ : ∃ w : HpT, w = (hup u90 7 (aE G 30 (va_up (va_up (va_up (va_up (va_up (va_up (va_up (va_up (va_up (va_up (va_up (va_up (va_up (va_up (va_up (va_up (va_up (va_up (va_up (va_up (va_up (va_up (va_up (va_up (va_up (va_up (va_up (va_up (va_up (fun _ => none) 0 (some (z + 8))) 1 (some (z + 11))) 2 (some (z + 14))) 3 (some (z + 17))) 4 (some (z + 20))) 5 (some (z + 23))) 6 (some (z + 26))) 7 (some (z + 29))) 8 (some (z + 32))) 9 (some (z + 35))) 10 (some (z + 38))) 11 (some (z + 41))) 12 (some (z + 44))) 13 (some (z + 47))) 14 (some (z + 50))) 15 (some (z + 53))) 16 (some (z + 56))) 17 (some (z + 59))) 18 (some (z + 62))) 19 (some (z + 65))) 20 (some (z + 68))) 21 (some (z + 71))) 22 (some (z + 74))) 23 (some (z + 77))) 24 (some (z + 80))) 25 (some (z + 83))) 26 (some (z + 86))) 27 (some (z + 89))) 28 (some (z + 92))))) := ⟨_, rfl⟩
  refine x_heap (u2 := u91) eu91.symm ?_
  refine x_iinc C 0 [(1, .int (29 : Int32)), (0, .ref (z + 6))] dX6_init_47 rfl (by decide) (by decide) rfl ?_
  refine x_goto C 25 dX6_init_50 (by decide) ?_
  refine x_iload_n C 0 dX6_init_25 rfl rfl ?_
  refine x_aload_n C 1 dX6_init_26 rfl rfl ?_
  have k6_89 := (congrFun eu89 6).trans (hup_n' (by decide) (k6_88))
  have k6_90 := (congrFun eu90 6).trans (hup_n' (by decide) (hup_n' (by decide) (hup_n' (by decide) (k6_89))))
  have k6_91 := (congrFun eu91 6).trans (hup_n' (by decide) (k6_90))
  refine gfX6_11 C dX6_init_27 k6_91 rfl ?_
  have k7_91 := (congrFun eu91 7).trans (hup_s _ _ _)
  refine x_alen (v := (30 : Int32)) C 3 k7_91 rfl rfl dX6_init_30 ?_
  refine x_icmp_ge_f C 53 dX6_init_31 (by decide) (by decide) ?_
  refine x_aload_n C 1 dX6_init_34 rfl rfl ?_
  refine gfX6_11 C dX6_init_35 k6_91 rfl ?_
  refine x_iload_n C 0 dX6_init_38 rfl rfl ?_
  refine x_new C gdX3 tyX3 tyX3_ok (ci := 2) rfl koX6_9 kiX3 kzX3 [.int (0 : Int32), .int (0 : Int32), .int (0 : Int32), .int (0 : Int32), .int (0 : Int32), .int (0 : Int32), .int (0 : Int32), .int (0 : Int32), .int (0 : Int32), .int (0 : Int32), .null, .null] (by decide +kernel) (Nat.le_of_ble_eq_true rfl) (Nat.le_of_ble_eq_true rfl) dX6_init_39 ?_
  obtain ⟨u92, eu92⟩ : ∃ w : HpT, w = (hup u91 95 (.inr (2, [.int (0 : Int32), .int (0 : Int32), .int (0 : Int32), .int (0 : Int32), .int (0 : Int32), .int (0 : Int32), .int (0 : Int32), .int (0 : Int32), .int (0 : Int32), .int (0 : Int32), .null, .null]))) := ⟨_, rfl⟩
  refine x_norm (st2 := [.ref (z + 95), .int (29 : Int32), .ref (z + 7)]) (kc2 := 89) (ks2 := 738) (n2 := 96) rfl rfl rfl rfl eu92.symm ?_
  refine x_dup C dX6_init_42 rfl ?_
  have k95_92 := (congrFun eu92 95).trans (hup_s _ _ _)
  refine x_callIN C cl_X3_init knX6_24 (b := z + 95) (As := []) (rest := [.ref (z + 95), .int (29 : Int32), .ref (z + 7)]) (p_X3_init_30 u92 k95_92) rfl rfl (Nat.le_of_ble_eq_true rfl) ⟨Nat.le_of_ble_eq_true rfl, Nat.le_of_ble_eq_true rfl⟩ ⟨Nat.le_of_ble_eq_true rfl, Nat.le_of_ble_eq_true rfl⟩ dX6_init_43 ?_
  obtain ⟨u93, eu93⟩ : ∃ w : HpT, w = (hup (hup (hup u92 96 (aI G 6 (fun _ => 0))) 97 (aI G 6 (fun _ => 0))) 95 (.inr (2, [.int (0 : Int32), .int (0 : Int32), .int (0 : Int32), .int (0 : Int32), .int (-1 : Int32), .int (0 : Int32), .int (-1 : Int32), .int (0 : Int32), .int (0 : Int32), .int (0 : Int32), .ref (z + 96), .ref (z + 97)]))) := ⟨_, rfl⟩
  refine x_norm (st2 := [.ref (z + 95), .int (29 : Int32), .ref (z + 7)]) (kc2 := 91) (ks2 := 750) (n2 := 98) rfl rfl rfl rfl eu93.symm ?_
  have k7_92 := (congrFun eu92 7).trans (hup_n' (by decide) (k7_91))
  have k7_93 := (congrFun eu93 7).trans (hup_n' (by decide) (hup_n' (by decide) (hup_n' (by decide) (k7_92))))
  have k95_93 := (congrFun eu93 95).trans (hup_s _ _ _)
  refine x_aastk C 3 2 (r := (RX3, TX3, 12)) rfl k7_93 k95_93 rfl (vp_in_lit (by decide) (by decide)) (k := 29) (by decide) dX6_init_46 ?_
  obtain ⟨u94, eu94⟩ : ∃ w : HpT, w = (hup u93 7 (aE G 30 (va_up (va_up (va_up (va_up (va_up (va_up (va_up (va_up (va_up (va_up (va_up (va_up (va_up (va_up (va_up (va_up (va_up (va_up (va_up (va_up (va_up (va_up (va_up (va_up (va_up (va_up (va_up (va_up (va_up (va_up (fun _ => none) 0 (some (z + 8))) 1 (some (z + 11))) 2 (some (z + 14))) 3 (some (z + 17))) 4 (some (z + 20))) 5 (some (z + 23))) 6 (some (z + 26))) 7 (some (z + 29))) 8 (some (z + 32))) 9 (some (z + 35))) 10 (some (z + 38))) 11 (some (z + 41))) 12 (some (z + 44))) 13 (some (z + 47))) 14 (some (z + 50))) 15 (some (z + 53))) 16 (some (z + 56))) 17 (some (z + 59))) 18 (some (z + 62))) 19 (some (z + 65))) 20 (some (z + 68))) 21 (some (z + 71))) 22 (some (z + 74))) 23 (some (z + 77))) 24 (some (z + 80))) 25 (some (z + 83))) 26 (some (z + 86))) 27 (some (z + 89))) 28 (some (z + 92))) 29 (some (z + 95))))) := ⟨_, rfl⟩
  refine x_heap (u2 := u94) eu94.symm ?_
  refine x_iinc C 0 [(1, .int (30 : Int32)), (0, .ref (z + 6))] dX6_init_47 rfl (by decide) (by decide) rfl ?_
  refine x_goto C 25 dX6_init_50 (by decide) ?_
  refine x_iload_n C 0 dX6_init_25 rfl rfl ?_
  refine x_aload_n C 1 dX6_init_26 rfl rfl ?_
  have k6_92 := (congrFun eu92 6).trans (hup_n' (by decide) (k6_91))
  have k6_93 := (congrFun eu93 6).trans (hup_n' (by decide) (hup_n' (by decide) (hup_n' (by decide) (k6_92))))
  have k6_94 := (congrFun eu94 6).trans (hup_n' (by decide) (k6_93))
  refine gfX6_11 C dX6_init_27 k6_94 rfl ?_
  have k7_94 := (congrFun eu94 7).trans (hup_s _ _ _)
  refine x_alen (v := (30 : Int32)) C 3 k7_94 rfl rfl dX6_init_30 ?_
  refine x_icmp_ge_t C 53 dX6_init_31 (by decide) (by decide) ?_
  exact x_vret C hr hlk (Nat.le_of_ble_eq_true rfl) (Nat.le_of_ble_eq_true rfl) dX6_init_53 rfl (by rw [eu94, eu93, eu92, eu91, eu90, eu89, eu88, eu87, eu86, eu85, eu84, eu83, eu82, eu81, eu80, eu79, eu78, eu77, eu76, eu75, eu74, eu73, eu72, eu71, eu70, eu69, eu68, eu67, eu66, eu65, eu64, eu63, eu62, eu61, eu60, eu59, eu58, eu57, eu56, eu55, eu54, eu53, eu52, eu51, eu50, eu49, eu48, eu47, eu46, eu45, eu44, eu43, eu42, eu41, eu40, eu39, eu38, eu37, eu36, eu35, eu34, eu33, eu32, eu31, eu30, eu29, eu28, eu27, eu26, eu25, eu24, eu23, eu22, eu21, eu20, eu19, eu18, eu17, eu16, eu15, eu14, eu13, eu12, eu11, eu10, eu9, eu8, eu7, eu6, eu5, eu4, eu3, eu2, eu1]) rfl
set_option maxRecDepth 20000 in
theorem p_X8_init_0 {G : GT} {l : Launch} {z : Nat} (u : HpT) (h99 : u 99 = some (.inr (7, [.null, .int (0 : Int32), .int (0 : Int32), .int (0 : Int32)]))) : Mt G l z yX8_init cX8_init 1 none { frames := 1, cells := 1, slots := 256, locals := 12 } [.ref (z + 99)] u 100 none (hup (hup u 100 (aI G 256 (fun _ => 0))) 99 (.inr (7, [.ref (z + 100), .int (0 : Int32), .int (-1 : Int32), .int (0 : Int32)]))) 101 := by
  refine mt_of (by decide +kernel) (Nat.le_of_ble_eq_true rfl) ?_
  intro p e s m below meth c C hr hlk hnm
  refine x_aload_n C 0 dX8_init_0 rfl rfl ?_
  refine x_objInit C kmX8_3 kObjI kObjC (Nat.le_of_ble_eq_true rfl) (Nat.le_of_ble_eq_true rfl) dX8_init_1 ?_
  refine x_aload_n C 0 dX8_init_4 rfl rfl ?_
  refine x_sipush (v := (256 : Int32)) C dX8_init_5 (by decide) ?_
  refine x_newI C ka_int 256 (by decide) (by decide) (Nat.le_of_ble_eq_true rfl) (Nat.le_of_ble_eq_true rfl) (Nat.le_of_ble_eq_true rfl) dX8_init_8 ?_
  obtain ⟨u1, eu1⟩ : ∃ w : HpT, w = (hup u 100 (aI G 256 (fun _ => 0))) := ⟨_, rfl⟩
  refine x_norm (st2 := [.ref (z + 100), .ref (z + 99)]) (kc2 := 1) (ks2 := 256) (n2 := 101) rfl rfl rfl rfl eu1.symm ?_
  have k99_1 := (congrFun eu1 99).trans (hup_n' (by decide) (h99))
  obtain ⟨u2, eu2⟩ : ∃ w : HpT, w = (hup u1 99 (.inr (7, [.ref (z + 100), .int (0 : Int32), .int (0 : Int32), .int (0 : Int32)]))) := ⟨_, rfl⟩
  refine pfX8_9 C dX8_init_10 hnm k99_1 (Nat.le_of_ble_eq_true rfl) rfl eu2.symm ?_
  refine x_aload_n C 0 dX8_init_13 rfl rfl ?_
  refine x_iconst (v := (0 : Int32)) C dX8_init_14 (by decide) ?_
  have k99_2 := (congrFun eu2 99).trans (hup_s _ _ _)
  obtain ⟨u3, eu3⟩ : ∃ w : HpT, w = (hup u2 99 (.inr (7, [.ref (z + 100), .int (0 : Int32), .int (0 : Int32), .int (0 : Int32)]))) := ⟨_, rfl⟩
  refine pfX8_15 C dX8_init_15 k99_2 (Nat.le_of_ble_eq_true rfl) rfl eu3.symm ?_
  refine x_aload_n C 0 dX8_init_18 rfl rfl ?_
  refine x_iconst (v := (-1 : Int32)) C dX8_init_19 (by decide) ?_
  have k99_3 := (congrFun eu3 99).trans (hup_s _ _ _)
  obtain ⟨u4, eu4⟩ : ∃ w : HpT, w = (hup u3 99 (.inr (7, [.ref (z + 100), .int (0 : Int32), .int (-1 : Int32), .int (0 : Int32)]))) := ⟨_, rfl⟩
  refine pfX8_19 C dX8_init_20 k99_3 (Nat.le_of_ble_eq_true rfl) rfl eu4.symm ?_
  refine x_aload_n C 0 dX8_init_23 rfl rfl ?_
  refine x_iconst (v := (0 : Int32)) C dX8_init_24 (by decide) ?_
  have k99_4 := (congrFun eu4 99).trans (hup_s _ _ _)
  obtain ⟨u5, eu5⟩ : ∃ w : HpT, w = (hup u4 99 (.inr (7, [.ref (z + 100), .int (0 : Int32), .int (-1 : Int32), .int (0 : Int32)]))) := ⟨_, rfl⟩
  refine pfX8_22 C dX8_init_25 k99_4 (Nat.le_of_ble_eq_true rfl) rfl eu5.symm ?_
  exact x_vret C hr hlk (Nat.le_of_ble_eq_true rfl) (Nat.le_of_ble_eq_true rfl) dX8_init_28 rfl (by rw [eu5, eu4, eu3, eu2, eu1]; simp only [hup_hup, hup_sk, ne_eq, Nat.reduceEqDiff, not_false_eq_true]) rfl
set_option maxRecDepth 20000 in
theorem p_X5_init_0 {G : GT} {l : Launch} {z : Nat} (u : HpT) (h101 : u 101 = some (.inr (4, [.null, .null, .null, .null, .int (0 : Int32), .int (0 : Int32), .int (0 : Int32)]))) : Mt G l z yX5_init cX5_init 1 none { frames := 1, cells := 4, slots := 24, locals := 12 } [.ref (z + 101)] u 102 none (hup (hup (hup (hup (hup u 102 (aI G 6 (fun _ => 0))) 103 (aI G 6 (fun _ => 0))) 104 (aI G 6 (fun _ => 0))) 105 (aI G 6 (fun _ => 0))) 101 (.inr (4, [.ref (z + 102), .ref (z + 103), .ref (z + 104), .ref (z + 105), .int (0 : Int32), .int (0 : Int32), .int (0 : Int32)]))) 106 := by
  refine mt_of (by decide +kernel) (Nat.le_of_ble_eq_true rfl) ?_
  intro p e s m below meth c C hr hlk hnm
  refine x_aload_n C 0 dX5_init_0 rfl rfl ?_
  refine x_objInit C kmX5_3 kObjI kObjC (Nat.le_of_ble_eq_true rfl) (Nat.le_of_ble_eq_true rfl) dX5_init_1 ?_
  refine x_aload_n C 0 dX5_init_4 rfl rfl ?_
  refine x_bipush (v := (6 : Int32)) C dX5_init_5 (by decide) ?_
  refine x_newI C ka_int 6 (by decide) (by decide) (Nat.le_of_ble_eq_true rfl) (Nat.le_of_ble_eq_true rfl) (Nat.le_of_ble_eq_true rfl) dX5_init_7 ?_
  obtain ⟨u1, eu1⟩ : ∃ w : HpT, w = (hup u 102 (aI G 6 (fun _ => 0))) := ⟨_, rfl⟩
  refine x_norm (st2 := [.ref (z + 102), .ref (z + 101)]) (kc2 := 1) (ks2 := 6) (n2 := 103) rfl rfl rfl rfl eu1.symm ?_
  have k101_1 := (congrFun eu1 101).trans (hup_n' (by decide) (h101))
  obtain ⟨u2, eu2⟩ : ∃ w : HpT, w = (hup u1 101 (.inr (4, [.ref (z + 102), .null, .null, .null, .int (0 : Int32), .int (0 : Int32), .int (0 : Int32)]))) := ⟨_, rfl⟩
  refine pfX5_9 C dX5_init_9 hnm k101_1 (Nat.le_of_ble_eq_true rfl) rfl eu2.symm ?_
  refine x_aload_n C 0 dX5_init_12 rfl rfl ?_
  refine x_bipush (v := (6 : Int32)) C dX5_init_13 (by decide) ?_
  refine x_newI C ka_int 6 (by decide) (by decide) (Nat.le_of_ble_eq_true rfl) (Nat.le_of_ble_eq_true rfl) (Nat.le_of_ble_eq_true rfl) dX5_init_15 ?_
  obtain ⟨u3, eu3⟩ : ∃ w : HpT, w = (hup u2 103 (aI G 6 (fun _ => 0))) := ⟨_, rfl⟩
  refine x_norm (st2 := [.ref (z + 103), .ref (z + 101)]) (kc2 := 2) (ks2 := 12) (n2 := 104) rfl rfl rfl rfl eu3.symm ?_
  have k101_2 := (congrFun eu2 101).trans (hup_s _ _ _)
  have k101_3 := (congrFun eu3 101).trans (hup_n' (by decide) (k101_2))
  obtain ⟨u4, eu4⟩ : ∃ w : HpT, w = (hup u3 101 (.inr (4, [.ref (z + 102), .ref (z + 103), .null, .null, .int (0 : Int32), .int (0 : Int32), .int (0 : Int32)]))) := ⟨_, rfl⟩
  refine pfX5_15 C dX5_init_17 hnm k101_3 (Nat.le_of_ble_eq_true rfl) rfl eu4.symm ?_
  refine x_aload_n C 0 dX5_init_20 rfl rfl ?_
  refine x_bipush (v := (6 : Int32)) C dX5_init_21 (by decide) ?_
  refine x_newI C ka_int 6 (by decide) (by decide) (Nat.le_of_ble_eq_true rfl) (Nat.le_of_ble_eq_true rfl) (Nat.le_of_ble_eq_true rfl) dX5_init_23 ?_
  obtain ⟨u5, eu5⟩ : ∃ w : HpT, w = (hup u4 104 (aI G 6 (fun _ => 0))) := ⟨_, rfl⟩
  refine x_norm (st2 := [.ref (z + 104), .ref (z + 101)]) (kc2 := 3) (ks2 := 18) (n2 := 105) rfl rfl rfl rfl eu5.symm ?_
  have k101_4 := (congrFun eu4 101).trans (hup_s _ _ _)
  have k101_5 := (congrFun eu5 101).trans (hup_n' (by decide) (k101_4))
  obtain ⟨u6, eu6⟩ : ∃ w : HpT, w = (hup u5 101 (.inr (4, [.ref (z + 102), .ref (z + 103), .ref (z + 104), .null, .int (0 : Int32), .int (0 : Int32), .int (0 : Int32)]))) := ⟨_, rfl⟩
  refine pfX5_18 C dX5_init_25 hnm k101_5 (Nat.le_of_ble_eq_true rfl) rfl eu6.symm ?_
  refine x_aload_n C 0 dX5_init_28 rfl rfl ?_
  refine x_bipush (v := (6 : Int32)) C dX5_init_29 (by decide) ?_
  refine x_newI C ka_int 6 (by decide) (by decide) (Nat.le_of_ble_eq_true rfl) (Nat.le_of_ble_eq_true rfl) (Nat.le_of_ble_eq_true rfl) dX5_init_31 ?_
  obtain ⟨u7, eu7⟩ : ∃ w : HpT, w = (hup u6 105 (aI G 6 (fun _ => 0))) := ⟨_, rfl⟩
  refine x_norm (st2 := [.ref (z + 105), .ref (z + 101)]) (kc2 := 4) (ks2 := 24) (n2 := 106) rfl rfl rfl rfl eu7.symm ?_
  have k101_6 := (congrFun eu6 101).trans (hup_s _ _ _)
  have k101_7 := (congrFun eu7 101).trans (hup_n' (by decide) (k101_6))
  obtain ⟨u8, eu8⟩ : ∃ w : HpT, w = (hup u7 101 (.inr (4, [.ref (z + 102), .ref (z + 103), .ref (z + 104), .ref (z + 105), .int (0 : Int32), .int (0 : Int32), .int (0 : Int32)]))) := ⟨_, rfl⟩
  refine pfX5_21 C dX5_init_33 hnm k101_7 (Nat.le_of_ble_eq_true rfl) rfl eu8.symm ?_
  refine x_aload_n C 0 dX5_init_36 rfl rfl ?_
  refine x_iconst (v := (0 : Int32)) C dX5_init_37 (by decide) ?_
  have k101_8 := (congrFun eu8 101).trans (hup_s _ _ _)
  obtain ⟨u9, eu9⟩ : ∃ w : HpT, w = (hup u8 101 (.inr (4, [.ref (z + 102), .ref (z + 103), .ref (z + 104), .ref (z + 105), .int (0 : Int32), .int (0 : Int32), .int (0 : Int32)]))) := ⟨_, rfl⟩
  refine pfX5_24 C dX5_init_38 k101_8 (Nat.le_of_ble_eq_true rfl) rfl eu9.symm ?_
  refine x_aload_n C 0 dX5_init_41 rfl rfl ?_
  refine x_iconst (v := (0 : Int32)) C dX5_init_42 (by decide) ?_
  have k101_9 := (congrFun eu9 101).trans (hup_s _ _ _)
  obtain ⟨u10, eu10⟩ : ∃ w : HpT, w = (hup u9 101 (.inr (4, [.ref (z + 102), .ref (z + 103), .ref (z + 104), .ref (z + 105), .int (0 : Int32), .int (0 : Int32), .int (0 : Int32)]))) := ⟨_, rfl⟩
  refine pfX5_28 C dX5_init_43 k101_9 (Nat.le_of_ble_eq_true rfl) rfl eu10.symm ?_
  refine x_aload_n C 0 dX5_init_46 rfl rfl ?_
  refine x_iconst (v := (0 : Int32)) C dX5_init_47 (by decide) ?_
  have k101_10 := (congrFun eu10 101).trans (hup_s _ _ _)
  obtain ⟨u11, eu11⟩ : ∃ w : HpT, w = (hup u10 101 (.inr (4, [.ref (z + 102), .ref (z + 103), .ref (z + 104), .ref (z + 105), .int (0 : Int32), .int (0 : Int32), .int (0 : Int32)]))) := ⟨_, rfl⟩
  refine pfX5_31 C dX5_init_48 k101_10 (Nat.le_of_ble_eq_true rfl) rfl eu11.symm ?_
  exact x_vret C hr hlk (Nat.le_of_ble_eq_true rfl) (Nat.le_of_ble_eq_true rfl) dX5_init_51 rfl (by rw [eu11, eu10, eu9, eu8, eu7, eu6, eu5, eu4, eu3, eu2, eu1]; simp only [hup_hup, hup_sk, ne_eq, Nat.reduceEqDiff, not_false_eq_true]) rfl
set_option maxRecDepth 20000 in
theorem p_X2_init_0 {G : GT} {l : Launch} {z : Nat} (u : HpT) (h106 : u 106 = some (.inr (1, [.null, .null, .int (0 : Int32)]))) : Mt G l z yX2_init cX2_init 2 none { frames := 1, cells := 2, slots := 12, locals := 14 } [.ref (z + 106), .int (6 : Int32)] u 107 none (hup (hup (hup u 107 (aI G 6 (fun _ => 0))) 108 (aI G 6 (fun _ => 0))) 106 (.inr (1, [.ref (z + 107), .ref (z + 108), .int (0 : Int32)]))) 109 := by
  refine mt_of (by decide +kernel) (Nat.le_of_ble_eq_true rfl) ?_
  intro p e s m below meth c C hr hlk hnm
  refine x_aload_n C 0 dX2_init_0 rfl rfl ?_
  refine x_objInit C kmX2_3 kObjI kObjC (Nat.le_of_ble_eq_true rfl) (Nat.le_of_ble_eq_true rfl) dX2_init_1 ?_
  refine x_aload_n C 0 dX2_init_4 rfl rfl ?_
  refine x_iconst (v := (0 : Int32)) C dX2_init_5 (by decide) ?_
  obtain ⟨u1, eu1⟩ : ∃ w : HpT, w = (hup u 106 (.inr (1, [.null, .null, .int (0 : Int32)]))) := ⟨_, rfl⟩
  refine pfX2_9 C dX2_init_6 h106 (Nat.le_of_ble_eq_true rfl) rfl eu1.symm ?_
  refine x_aload_n C 0 dX2_init_9 rfl rfl ?_
  refine x_iconst (v := (0 : Int32)) C dX2_init_10 (by decide) ?_
  refine x_iload_n C 1 dX2_init_11 rfl rfl ?_
  refine x_max C kmX2_15 kMs_max kzMath kMc_max (Nat.le_of_ble_eq_true rfl) (Nat.le_of_ble_eq_true rfl) (Nat.le_of_ble_eq_true rfl) (Nat.le_of_ble_eq_true rfl) dX2_init_12 ?_
  refine x_eqi (w := (6 : Int32)) (by decide) ?_
  refine x_newI C ka_int 6 (by decide) (by decide) (Nat.le_of_ble_eq_true rfl) (Nat.le_of_ble_eq_true rfl) (Nat.le_of_ble_eq_true rfl) dX2_init_15 ?_
  obtain ⟨u2, eu2⟩ : ∃ w : HpT, w = (hup u1 107 (aI G 6 (fun _ => 0))) := ⟨_, rfl⟩
  refine x_norm (st2 := [.ref (z + 107), .ref (z + 106)]) (kc2 := 1) (ks2 := 6) (n2 := 108) rfl rfl rfl rfl eu2.symm ?_
  have k106_1 := (congrFun eu1 106).trans (hup_s _ _ _)
  have k106_2 := (congrFun eu2 106).trans (hup_n' (by decide) (k106_1))
  obtain ⟨u3, eu3⟩ : ∃ w : HpT, w = (hup u2 106 (.inr (1, [.ref (z + 107), .null, .int (0 : Int32)]))) := ⟨_, rfl⟩
  refine pfX2_21 C dX2_init_17 hnm k106_2 (Nat.le_of_ble_eq_true rfl) rfl eu3.symm ?_
  refine x_aload_n C 0 dX2_init_20 rfl rfl ?_
  refine x_iconst (v := (0 : Int32)) C dX2_init_21 (by decide) ?_
  refine x_iload_n C 1 dX2_init_22 rfl rfl ?_
  refine x_max C kmX2_15 kMs_max kzMath kMc_max (Nat.le_of_ble_eq_true rfl) (Nat.le_of_ble_eq_true rfl) (Nat.le_of_ble_eq_true rfl) (Nat.le_of_ble_eq_true rfl) dX2_init_23 ?_
  refine x_eqi (w := (6 : Int32)) (by decide) ?_
  refine x_newI C ka_int 6 (by decide) (by decide) (Nat.le_of_ble_eq_true rfl) (Nat.le_of_ble_eq_true rfl) (Nat.le_of_ble_eq_true rfl) dX2_init_26 ?_
  obtain ⟨u4, eu4⟩ : ∃ w : HpT, w = (hup u3 108 (aI G 6 (fun _ => 0))) := ⟨_, rfl⟩
  refine x_norm (st2 := [.ref (z + 108), .ref (z + 106)]) (kc2 := 2) (ks2 := 12) (n2 := 109) rfl rfl rfl rfl eu4.symm ?_
  have k106_3 := (congrFun eu3 106).trans (hup_s _ _ _)
  have k106_4 := (congrFun eu4 106).trans (hup_n' (by decide) (k106_3))
  obtain ⟨u5, eu5⟩ : ∃ w : HpT, w = (hup u4 106 (.inr (1, [.ref (z + 107), .ref (z + 108), .int (0 : Int32)]))) := ⟨_, rfl⟩
  refine pfX2_25 C dX2_init_28 hnm k106_4 (Nat.le_of_ble_eq_true rfl) rfl eu5.symm ?_
  exact x_vret C hr hlk (Nat.le_of_ble_eq_true rfl) (Nat.le_of_ble_eq_true rfl) dX2_init_31 rfl (by rw [eu5, eu4, eu3, eu2, eu1]; simp only [hup_hup, hup_sk, ne_eq, Nat.reduceEqDiff, not_false_eq_true]) rfl
set_option maxRecDepth 20000 in
theorem p_X2_init_1 {G : GT} {l : Launch} {z : Nat} (u : HpT) (h109 : u 109 = some (.inr (1, [.null, .null, .int (0 : Int32)]))) : Mt G l z yX2_init cX2_init 2 none { frames := 1, cells := 2, slots := 40, locals := 14 } [.ref (z + 109), .int (20 : Int32)] u 110 none (hup (hup (hup u 110 (aI G 20 (fun _ => 0))) 111 (aI G 20 (fun _ => 0))) 109 (.inr (1, [.ref (z + 110), .ref (z + 111), .int (0 : Int32)]))) 112 := by
  refine mt_of (by decide +kernel) (Nat.le_of_ble_eq_true rfl) ?_
  intro p e s m below meth c C hr hlk hnm
  refine x_aload_n C 0 dX2_init_0 rfl rfl ?_
  refine x_objInit C kmX2_3 kObjI kObjC (Nat.le_of_ble_eq_true rfl) (Nat.le_of_ble_eq_true rfl) dX2_init_1 ?_
  refine x_aload_n C 0 dX2_init_4 rfl rfl ?_
  refine x_iconst (v := (0 : Int32)) C dX2_init_5 (by decide) ?_
  obtain ⟨u1, eu1⟩ : ∃ w : HpT, w = (hup u 109 (.inr (1, [.null, .null, .int (0 : Int32)]))) := ⟨_, rfl⟩
  refine pfX2_9 C dX2_init_6 h109 (Nat.le_of_ble_eq_true rfl) rfl eu1.symm ?_
  refine x_aload_n C 0 dX2_init_9 rfl rfl ?_
  refine x_iconst (v := (0 : Int32)) C dX2_init_10 (by decide) ?_
  refine x_iload_n C 1 dX2_init_11 rfl rfl ?_
  refine x_max C kmX2_15 kMs_max kzMath kMc_max (Nat.le_of_ble_eq_true rfl) (Nat.le_of_ble_eq_true rfl) (Nat.le_of_ble_eq_true rfl) (Nat.le_of_ble_eq_true rfl) dX2_init_12 ?_
  refine x_eqi (w := (20 : Int32)) (by decide) ?_
  refine x_newI C ka_int 20 (by decide) (by decide) (Nat.le_of_ble_eq_true rfl) (Nat.le_of_ble_eq_true rfl) (Nat.le_of_ble_eq_true rfl) dX2_init_15 ?_
  obtain ⟨u2, eu2⟩ : ∃ w : HpT, w = (hup u1 110 (aI G 20 (fun _ => 0))) := ⟨_, rfl⟩
  refine x_norm (st2 := [.ref (z + 110), .ref (z + 109)]) (kc2 := 1) (ks2 := 20) (n2 := 111) rfl rfl rfl rfl eu2.symm ?_
  have k109_1 := (congrFun eu1 109).trans (hup_s _ _ _)
  have k109_2 := (congrFun eu2 109).trans (hup_n' (by decide) (k109_1))
  obtain ⟨u3, eu3⟩ : ∃ w : HpT, w = (hup u2 109 (.inr (1, [.ref (z + 110), .null, .int (0 : Int32)]))) := ⟨_, rfl⟩
  refine pfX2_21 C dX2_init_17 hnm k109_2 (Nat.le_of_ble_eq_true rfl) rfl eu3.symm ?_
  refine x_aload_n C 0 dX2_init_20 rfl rfl ?_
  refine x_iconst (v := (0 : Int32)) C dX2_init_21 (by decide) ?_
  refine x_iload_n C 1 dX2_init_22 rfl rfl ?_
  refine x_max C kmX2_15 kMs_max kzMath kMc_max (Nat.le_of_ble_eq_true rfl) (Nat.le_of_ble_eq_true rfl) (Nat.le_of_ble_eq_true rfl) (Nat.le_of_ble_eq_true rfl) dX2_init_23 ?_
  refine x_eqi (w := (20 : Int32)) (by decide) ?_
  refine x_newI C ka_int 20 (by decide) (by decide) (Nat.le_of_ble_eq_true rfl) (Nat.le_of_ble_eq_true rfl) (Nat.le_of_ble_eq_true rfl) dX2_init_26 ?_
  obtain ⟨u4, eu4⟩ : ∃ w : HpT, w = (hup u3 111 (aI G 20 (fun _ => 0))) := ⟨_, rfl⟩
  refine x_norm (st2 := [.ref (z + 111), .ref (z + 109)]) (kc2 := 2) (ks2 := 40) (n2 := 112) rfl rfl rfl rfl eu4.symm ?_
  have k109_3 := (congrFun eu3 109).trans (hup_s _ _ _)
  have k109_4 := (congrFun eu4 109).trans (hup_n' (by decide) (k109_3))
  obtain ⟨u5, eu5⟩ : ∃ w : HpT, w = (hup u4 109 (.inr (1, [.ref (z + 110), .ref (z + 111), .int (0 : Int32)]))) := ⟨_, rfl⟩
  refine pfX2_25 C dX2_init_28 hnm k109_4 (Nat.le_of_ble_eq_true rfl) rfl eu5.symm ?_
  exact x_vret C hr hlk (Nat.le_of_ble_eq_true rfl) (Nat.le_of_ble_eq_true rfl) dX2_init_31 rfl (by rw [eu5, eu4, eu3, eu2, eu1]; simp only [hup_hup, hup_sk, ne_eq, Nat.reduceEqDiff, not_false_eq_true]) rfl
set_option maxRecDepth 20000 in
theorem p_X1_init_0 {G : GT} {l : Launch} {z : Nat} (u : HpT) (h112 : u 112 = some (.inr (0, [.int (0 : Int32), .int (0 : Int32), .int (0 : Int32), .int (0 : Int32), .null, .null, .null, .null, .null, .null]))) : Mt G l z yX1_init cX1_init 1 none { frames := 1, cells := 6, slots := 290, locals := 12 } [.ref (z + 112)] u 113 none (hup (hup (hup (hup (hup (hup (hup u 113 (aI G 8 (fun _ => 0))) 114 (aI G 8 (fun _ => 0))) 115 (aI G 6 (fun _ => 0))) 116 (aI G 6 (fun _ => 0))) 117 (aI G 6 (fun _ => 0))) 118 (aI G 256 (fun _ => 0))) 112 (.inr (0, [.int (0 : Int32), .int (0 : Int32), .int (0 : Int32), .int (0 : Int32), .ref (z + 113), .ref (z + 114), .ref (z + 115), .ref (z + 116), .ref (z + 117), .ref (z + 118)]))) 119 := by
  refine mt_of (by decide +kernel) (Nat.le_of_ble_eq_true rfl) ?_
  intro p e s m below meth c C hr hlk hnm
  refine x_aload_n C 0 dX1_init_0 rfl rfl ?_
  refine x_objInit C kmX1_3 kObjI kObjC (Nat.le_of_ble_eq_true rfl) (Nat.le_of_ble_eq_true rfl) dX1_init_1 ?_
  refine x_aload_n C 0 dX1_init_4 rfl rfl ?_
  refine x_iconst (v := (0 : Int32)) C dX1_init_5 (by decide) ?_
  obtain ⟨u1, eu1⟩ : ∃ w : HpT, w = (hup u 112 (.inr (0, [.int (0 : Int32), .int (0 : Int32), .int (0 : Int32), .int (0 : Int32), .null, .null, .null, .null, .null, .null]))) := ⟨_, rfl⟩
  refine pfX1_9 C dX1_init_6 h112 (Nat.le_of_ble_eq_true rfl) rfl eu1.symm ?_
  refine x_aload_n C 0 dX1_init_9 rfl rfl ?_
  refine x_iconst (v := (0 : Int32)) C dX1_init_10 (by decide) ?_
  have k112_1 := (congrFun eu1 112).trans (hup_s _ _ _)
  obtain ⟨u2, eu2⟩ : ∃ w : HpT, w = (hup u1 112 (.inr (0, [.int (0 : Int32), .int (0 : Int32), .int (0 : Int32), .int (0 : Int32), .null, .null, .null, .null, .null, .null]))) := ⟨_, rfl⟩
  refine pfX1_15 C dX1_init_11 k112_1 (Nat.le_of_ble_eq_true rfl) rfl eu2.symm ?_
  refine x_aload_n C 0 dX1_init_14 rfl rfl ?_
  refine x_iconst (v := (0 : Int32)) C dX1_init_15 (by decide) ?_
  have k112_2 := (congrFun eu2 112).trans (hup_s _ _ _)
  obtain ⟨u3, eu3⟩ : ∃ w : HpT, w = (hup u2 112 (.inr (0, [.int (0 : Int32), .int (0 : Int32), .int (0 : Int32), .int (0 : Int32), .null, .null, .null, .null, .null, .null]))) := ⟨_, rfl⟩
  refine pfX1_18 C dX1_init_16 k112_2 (Nat.le_of_ble_eq_true rfl) rfl eu3.symm ?_
  refine x_aload_n C 0 dX1_init_19 rfl rfl ?_
  refine x_iconst (v := (0 : Int32)) C dX1_init_20 (by decide) ?_
  have k112_3 := (congrFun eu3 112).trans (hup_s _ _ _)
  obtain ⟨u4, eu4⟩ : ∃ w : HpT, w = (hup u3 112 (.inr (0, [.int (0 : Int32), .int (0 : Int32), .int (0 : Int32), .int (0 : Int32), .null, .null, .null, .null, .null, .null]))) := ⟨_, rfl⟩
  refine pfX1_21 C dX1_init_21 k112_3 (Nat.le_of_ble_eq_true rfl) rfl eu4.symm ?_
  refine x_aload_n C 0 dX1_init_24 rfl rfl ?_
  refine x_bipush (v := (8 : Int32)) C dX1_init_25 (by decide) ?_
  refine x_newI C ka_int 8 (by decide) (by decide) (Nat.le_of_ble_eq_true rfl) (Nat.le_of_ble_eq_true rfl) (Nat.le_of_ble_eq_true rfl) dX1_init_27 ?_
  obtain ⟨u5, eu5⟩ : ∃ w : HpT, w = (hup u4 113 (aI G 8 (fun _ => 0))) := ⟨_, rfl⟩
  refine x_norm (st2 := [.ref (z + 113), .ref (z + 112)]) (kc2 := 1) (ks2 := 8) (n2 := 114) rfl rfl rfl rfl eu5.symm ?_
  have k112_4 := (congrFun eu4 112).trans (hup_s _ _ _)
  have k112_5 := (congrFun eu5 112).trans (hup_n' (by decide) (k112_4))
  obtain ⟨u6, eu6⟩ : ∃ w : HpT, w = (hup u5 112 (.inr (0, [.int (0 : Int32), .int (0 : Int32), .int (0 : Int32), .int (0 : Int32), .ref (z + 113), .null, .null, .null, .null, .null]))) := ⟨_, rfl⟩
  refine pfX1_24 C dX1_init_29 hnm k112_5 (Nat.le_of_ble_eq_true rfl) rfl eu6.symm ?_
  refine x_aload_n C 0 dX1_init_32 rfl rfl ?_
  refine x_bipush (v := (8 : Int32)) C dX1_init_33 (by decide) ?_
  refine x_newI C ka_int 8 (by decide) (by decide) (Nat.le_of_ble_eq_true rfl) (Nat.le_of_ble_eq_true rfl) (Nat.le_of_ble_eq_true rfl) dX1_init_35 ?_
  obtain ⟨u7, eu7⟩ : ∃ w : HpT, w = (hup u6 114 (aI G 8 (fun _ => 0))) := ⟨_, rfl⟩
  refine x_norm (st2 := [.ref (z + 114), .ref (z + 112)]) (kc2 := 2) (ks2 := 16) (n2 := 115) rfl rfl rfl rfl eu7.symm ?_
  have k112_6 := (congrFun eu6 112).trans (hup_s _ _ _)
  have k112_7 := (congrFun eu7 112).trans (hup_n' (by decide) (k112_6))
  obtain ⟨u8, eu8⟩ : ∃ w : HpT, w = (hup u7 112 (.inr (0, [.int (0 : Int32), .int (0 : Int32), .int (0 : Int32), .int (0 : Int32), .ref (z + 113), .ref (z + 114), .null, .null, .null, .null]))) := ⟨_, rfl⟩
  refine pfX1_28 C dX1_init_37 hnm k112_7 (Nat.le_of_ble_eq_true rfl) rfl eu8.symm ?_
  refine x_aload_n C 0 dX1_init_40 rfl rfl ?_
  refine x_bipush (v := (6 : Int32)) C dX1_init_41 (by decide) ?_
  refine x_newI C ka_int 6 (by decide) (by decide) (Nat.le_of_ble_eq_true rfl) (Nat.le_of_ble_eq_true rfl) (Nat.le_of_ble_eq_true rfl) dX1_init_43 ?_
  obtain ⟨u9, eu9⟩ : ∃ w : HpT, w = (hup u8 115 (aI G 6 (fun _ => 0))) := ⟨_, rfl⟩
  refine x_norm (st2 := [.ref (z + 115), .ref (z + 112)]) (kc2 := 3) (ks2 := 22) (n2 := 116) rfl rfl rfl rfl eu9.symm ?_
  have k112_8 := (congrFun eu8 112).trans (hup_s _ _ _)
  have k112_9 := (congrFun eu9 112).trans (hup_n' (by decide) (k112_8))
  obtain ⟨u10, eu10⟩ : ∃ w : HpT, w = (hup u9 112 (.inr (0, [.int (0 : Int32), .int (0 : Int32), .int (0 : Int32), .int (0 : Int32), .ref (z + 113), .ref (z + 114), .ref (z + 115), .null, .null, .null]))) := ⟨_, rfl⟩
  refine pfX1_31 C dX1_init_45 hnm k112_9 (Nat.le_of_ble_eq_true rfl) rfl eu10.symm ?_
  refine x_aload_n C 0 dX1_init_48 rfl rfl ?_
  refine x_bipush (v := (6 : Int32)) C dX1_init_49 (by decide) ?_
  refine x_newI C ka_int 6 (by decide) (by decide) (Nat.le_of_ble_eq_true rfl) (Nat.le_of_ble_eq_true rfl) (Nat.le_of_ble_eq_true rfl) dX1_init_51 ?_
  obtain ⟨u11, eu11⟩ : ∃ w : HpT, w = (hup u10 116 (aI G 6 (fun _ => 0))) := ⟨_, rfl⟩
  refine x_norm (st2 := [.ref (z + 116), .ref (z + 112)]) (kc2 := 4) (ks2 := 28) (n2 := 117) rfl rfl rfl rfl eu11.symm ?_
  have k112_10 := (congrFun eu10 112).trans (hup_s _ _ _)
  have k112_11 := (congrFun eu11 112).trans (hup_n' (by decide) (k112_10))
  obtain ⟨u12, eu12⟩ : ∃ w : HpT, w = (hup u11 112 (.inr (0, [.int (0 : Int32), .int (0 : Int32), .int (0 : Int32), .int (0 : Int32), .ref (z + 113), .ref (z + 114), .ref (z + 115), .ref (z + 116), .null, .null]))) := ⟨_, rfl⟩
  refine pfX1_34 C dX1_init_53 hnm k112_11 (Nat.le_of_ble_eq_true rfl) rfl eu12.symm ?_
  refine x_aload_n C 0 dX1_init_56 rfl rfl ?_
  refine x_bipush (v := (6 : Int32)) C dX1_init_57 (by decide) ?_
  refine x_newI C ka_int 6 (by decide) (by decide) (Nat.le_of_ble_eq_true rfl) (Nat.le_of_ble_eq_true rfl) (Nat.le_of_ble_eq_true rfl) dX1_init_59 ?_
  obtain ⟨u13, eu13⟩ : ∃ w : HpT, w = (hup u12 117 (aI G 6 (fun _ => 0))) := ⟨_, rfl⟩
  refine x_norm (st2 := [.ref (z + 117), .ref (z + 112)]) (kc2 := 5) (ks2 := 34) (n2 := 118) rfl rfl rfl rfl eu13.symm ?_
  have k112_12 := (congrFun eu12 112).trans (hup_s _ _ _)
  have k112_13 := (congrFun eu13 112).trans (hup_n' (by decide) (k112_12))
  obtain ⟨u14, eu14⟩ : ∃ w : HpT, w = (hup u13 112 (.inr (0, [.int (0 : Int32), .int (0 : Int32), .int (0 : Int32), .int (0 : Int32), .ref (z + 113), .ref (z + 114), .ref (z + 115), .ref (z + 116), .ref (z + 117), .null]))) := ⟨_, rfl⟩
  refine pfX1_37 C dX1_init_61 hnm k112_13 (Nat.le_of_ble_eq_true rfl) rfl eu14.symm ?_
  refine x_aload_n C 0 dX1_init_64 rfl rfl ?_
  refine x_sipush (v := (256 : Int32)) C dX1_init_65 (by decide) ?_
  refine x_newI C ka_int 256 (by decide) (by decide) (Nat.le_of_ble_eq_true rfl) (Nat.le_of_ble_eq_true rfl) (Nat.le_of_ble_eq_true rfl) dX1_init_68 ?_
  obtain ⟨u15, eu15⟩ : ∃ w : HpT, w = (hup u14 118 (aI G 256 (fun _ => 0))) := ⟨_, rfl⟩
  refine x_norm (st2 := [.ref (z + 118), .ref (z + 112)]) (kc2 := 6) (ks2 := 290) (n2 := 119) rfl rfl rfl rfl eu15.symm ?_
  have k112_14 := (congrFun eu14 112).trans (hup_s _ _ _)
  have k112_15 := (congrFun eu15 112).trans (hup_n' (by decide) (k112_14))
  obtain ⟨u16, eu16⟩ : ∃ w : HpT, w = (hup u15 112 (.inr (0, [.int (0 : Int32), .int (0 : Int32), .int (0 : Int32), .int (0 : Int32), .ref (z + 113), .ref (z + 114), .ref (z + 115), .ref (z + 116), .ref (z + 117), .ref (z + 118)]))) := ⟨_, rfl⟩
  refine pfX1_40 C dX1_init_70 hnm k112_15 (Nat.le_of_ble_eq_true rfl) rfl eu16.symm ?_
  exact x_vret C hr hlk (Nat.le_of_ble_eq_true rfl) (Nat.le_of_ble_eq_true rfl) dX1_init_73 rfl (by rw [eu16, eu15, eu14, eu13, eu12, eu11, eu10, eu9, eu8, eu7, eu6, eu5, eu4, eu3, eu2, eu1]; simp only [hup_hup, hup_sk, ne_eq, Nat.reduceEqDiff, not_false_eq_true]) rfl
set_option maxRecDepth 20000 in
theorem p_X1_init_1 {G : GT} {l : Launch} {z : Nat} (u : HpT) (h119 : u 119 = some (.inr (0, [.int (0 : Int32), .int (0 : Int32), .int (0 : Int32), .int (0 : Int32), .null, .null, .null, .null, .null, .null]))) : Mt G l z yX1_init cX1_init 1 none { frames := 1, cells := 6, slots := 290, locals := 12 } [.ref (z + 119)] u 120 none (hup (hup (hup (hup (hup (hup (hup u 120 (aI G 8 (fun _ => 0))) 121 (aI G 8 (fun _ => 0))) 122 (aI G 6 (fun _ => 0))) 123 (aI G 6 (fun _ => 0))) 124 (aI G 6 (fun _ => 0))) 125 (aI G 256 (fun _ => 0))) 119 (.inr (0, [.int (0 : Int32), .int (0 : Int32), .int (0 : Int32), .int (0 : Int32), .ref (z + 120), .ref (z + 121), .ref (z + 122), .ref (z + 123), .ref (z + 124), .ref (z + 125)]))) 126 := by
  refine mt_of (by decide +kernel) (Nat.le_of_ble_eq_true rfl) ?_
  intro p e s m below meth c C hr hlk hnm
  refine x_aload_n C 0 dX1_init_0 rfl rfl ?_
  refine x_objInit C kmX1_3 kObjI kObjC (Nat.le_of_ble_eq_true rfl) (Nat.le_of_ble_eq_true rfl) dX1_init_1 ?_
  refine x_aload_n C 0 dX1_init_4 rfl rfl ?_
  refine x_iconst (v := (0 : Int32)) C dX1_init_5 (by decide) ?_
  obtain ⟨u1, eu1⟩ : ∃ w : HpT, w = (hup u 119 (.inr (0, [.int (0 : Int32), .int (0 : Int32), .int (0 : Int32), .int (0 : Int32), .null, .null, .null, .null, .null, .null]))) := ⟨_, rfl⟩
  refine pfX1_9 C dX1_init_6 h119 (Nat.le_of_ble_eq_true rfl) rfl eu1.symm ?_
  refine x_aload_n C 0 dX1_init_9 rfl rfl ?_
  refine x_iconst (v := (0 : Int32)) C dX1_init_10 (by decide) ?_
  have k119_1 := (congrFun eu1 119).trans (hup_s _ _ _)
  obtain ⟨u2, eu2⟩ : ∃ w : HpT, w = (hup u1 119 (.inr (0, [.int (0 : Int32), .int (0 : Int32), .int (0 : Int32), .int (0 : Int32), .null, .null, .null, .null, .null, .null]))) := ⟨_, rfl⟩
  refine pfX1_15 C dX1_init_11 k119_1 (Nat.le_of_ble_eq_true rfl) rfl eu2.symm ?_
  refine x_aload_n C 0 dX1_init_14 rfl rfl ?_
  refine x_iconst (v := (0 : Int32)) C dX1_init_15 (by decide) ?_
  have k119_2 := (congrFun eu2 119).trans (hup_s _ _ _)
  obtain ⟨u3, eu3⟩ : ∃ w : HpT, w = (hup u2 119 (.inr (0, [.int (0 : Int32), .int (0 : Int32), .int (0 : Int32), .int (0 : Int32), .null, .null, .null, .null, .null, .null]))) := ⟨_, rfl⟩
  refine pfX1_18 C dX1_init_16 k119_2 (Nat.le_of_ble_eq_true rfl) rfl eu3.symm ?_
  refine x_aload_n C 0 dX1_init_19 rfl rfl ?_
  refine x_iconst (v := (0 : Int32)) C dX1_init_20 (by decide) ?_
  have k119_3 := (congrFun eu3 119).trans (hup_s _ _ _)
  obtain ⟨u4, eu4⟩ : ∃ w : HpT, w = (hup u3 119 (.inr (0, [.int (0 : Int32), .int (0 : Int32), .int (0 : Int32), .int (0 : Int32), .null, .null, .null, .null, .null, .null]))) := ⟨_, rfl⟩
  refine pfX1_21 C dX1_init_21 k119_3 (Nat.le_of_ble_eq_true rfl) rfl eu4.symm ?_
  refine x_aload_n C 0 dX1_init_24 rfl rfl ?_
  refine x_bipush (v := (8 : Int32)) C dX1_init_25 (by decide) ?_
  refine x_newI C ka_int 8 (by decide) (by decide) (Nat.le_of_ble_eq_true rfl) (Nat.le_of_ble_eq_true rfl) (Nat.le_of_ble_eq_true rfl) dX1_init_27 ?_
  obtain ⟨u5, eu5⟩ : ∃ w : HpT, w = (hup u4 120 (aI G 8 (fun _ => 0))) := ⟨_, rfl⟩
  refine x_norm (st2 := [.ref (z + 120), .ref (z + 119)]) (kc2 := 1) (ks2 := 8) (n2 := 121) rfl rfl rfl rfl eu5.symm ?_
  have k119_4 := (congrFun eu4 119).trans (hup_s _ _ _)
  have k119_5 := (congrFun eu5 119).trans (hup_n' (by decide) (k119_4))
  obtain ⟨u6, eu6⟩ : ∃ w : HpT, w = (hup u5 119 (.inr (0, [.int (0 : Int32), .int (0 : Int32), .int (0 : Int32), .int (0 : Int32), .ref (z + 120), .null, .null, .null, .null, .null]))) := ⟨_, rfl⟩
  refine pfX1_24 C dX1_init_29 hnm k119_5 (Nat.le_of_ble_eq_true rfl) rfl eu6.symm ?_
  refine x_aload_n C 0 dX1_init_32 rfl rfl ?_
  refine x_bipush (v := (8 : Int32)) C dX1_init_33 (by decide) ?_
  refine x_newI C ka_int 8 (by decide) (by decide) (Nat.le_of_ble_eq_true rfl) (Nat.le_of_ble_eq_true rfl) (Nat.le_of_ble_eq_true rfl) dX1_init_35 ?_
  obtain ⟨u7, eu7⟩ : ∃ w : HpT, w = (hup u6 121 (aI G 8 (fun _ => 0))) := ⟨_, rfl⟩
  refine x_norm (st2 := [.ref (z + 121), .ref (z + 119)]) (kc2 := 2) (ks2 := 16) (n2 := 122) rfl rfl rfl rfl eu7.symm ?_
  have k119_6 := (congrFun eu6 119).trans (hup_s _ _ _)
  have k119_7 := (congrFun eu7 119).trans (hup_n' (by decide) (k119_6))
  obtain ⟨u8, eu8⟩ : ∃ w : HpT, w = (hup u7 119 (.inr (0, [.int (0 : Int32), .int (0 : Int32), .int (0 : Int32), .int (0 : Int32), .ref (z + 120), .ref (z + 121), .null, .null, .null, .null]))) := ⟨_, rfl⟩
  refine pfX1_28 C dX1_init_37 hnm k119_7 (Nat.le_of_ble_eq_true rfl) rfl eu8.symm ?_
  refine x_aload_n C 0 dX1_init_40 rfl rfl ?_
  refine x_bipush (v := (6 : Int32)) C dX1_init_41 (by decide) ?_
  refine x_newI C ka_int 6 (by decide) (by decide) (Nat.le_of_ble_eq_true rfl) (Nat.le_of_ble_eq_true rfl) (Nat.le_of_ble_eq_true rfl) dX1_init_43 ?_
  obtain ⟨u9, eu9⟩ : ∃ w : HpT, w = (hup u8 122 (aI G 6 (fun _ => 0))) := ⟨_, rfl⟩
  refine x_norm (st2 := [.ref (z + 122), .ref (z + 119)]) (kc2 := 3) (ks2 := 22) (n2 := 123) rfl rfl rfl rfl eu9.symm ?_
  have k119_8 := (congrFun eu8 119).trans (hup_s _ _ _)
  have k119_9 := (congrFun eu9 119).trans (hup_n' (by decide) (k119_8))
  obtain ⟨u10, eu10⟩ : ∃ w : HpT, w = (hup u9 119 (.inr (0, [.int (0 : Int32), .int (0 : Int32), .int (0 : Int32), .int (0 : Int32), .ref (z + 120), .ref (z + 121), .ref (z + 122), .null, .null, .null]))) := ⟨_, rfl⟩
  refine pfX1_31 C dX1_init_45 hnm k119_9 (Nat.le_of_ble_eq_true rfl) rfl eu10.symm ?_
  refine x_aload_n C 0 dX1_init_48 rfl rfl ?_
  refine x_bipush (v := (6 : Int32)) C dX1_init_49 (by decide) ?_
  refine x_newI C ka_int 6 (by decide) (by decide) (Nat.le_of_ble_eq_true rfl) (Nat.le_of_ble_eq_true rfl) (Nat.le_of_ble_eq_true rfl) dX1_init_51 ?_
  obtain ⟨u11, eu11⟩ : ∃ w : HpT, w = (hup u10 123 (aI G 6 (fun _ => 0))) := ⟨_, rfl⟩
  refine x_norm (st2 := [.ref (z + 123), .ref (z + 119)]) (kc2 := 4) (ks2 := 28) (n2 := 124) rfl rfl rfl rfl eu11.symm ?_
  have k119_10 := (congrFun eu10 119).trans (hup_s _ _ _)
  have k119_11 := (congrFun eu11 119).trans (hup_n' (by decide) (k119_10))
  obtain ⟨u12, eu12⟩ : ∃ w : HpT, w = (hup u11 119 (.inr (0, [.int (0 : Int32), .int (0 : Int32), .int (0 : Int32), .int (0 : Int32), .ref (z + 120), .ref (z + 121), .ref (z + 122), .ref (z + 123), .null, .null]))) := ⟨_, rfl⟩
  refine pfX1_34 C dX1_init_53 hnm k119_11 (Nat.le_of_ble_eq_true rfl) rfl eu12.symm ?_
  refine x_aload_n C 0 dX1_init_56 rfl rfl ?_
  refine x_bipush (v := (6 : Int32)) C dX1_init_57 (by decide) ?_
  refine x_newI C ka_int 6 (by decide) (by decide) (Nat.le_of_ble_eq_true rfl) (Nat.le_of_ble_eq_true rfl) (Nat.le_of_ble_eq_true rfl) dX1_init_59 ?_
  obtain ⟨u13, eu13⟩ : ∃ w : HpT, w = (hup u12 124 (aI G 6 (fun _ => 0))) := ⟨_, rfl⟩
  refine x_norm (st2 := [.ref (z + 124), .ref (z + 119)]) (kc2 := 5) (ks2 := 34) (n2 := 125) rfl rfl rfl rfl eu13.symm ?_
  have k119_12 := (congrFun eu12 119).trans (hup_s _ _ _)
  have k119_13 := (congrFun eu13 119).trans (hup_n' (by decide) (k119_12))
  obtain ⟨u14, eu14⟩ : ∃ w : HpT, w = (hup u13 119 (.inr (0, [.int (0 : Int32), .int (0 : Int32), .int (0 : Int32), .int (0 : Int32), .ref (z + 120), .ref (z + 121), .ref (z + 122), .ref (z + 123), .ref (z + 124), .null]))) := ⟨_, rfl⟩
  refine pfX1_37 C dX1_init_61 hnm k119_13 (Nat.le_of_ble_eq_true rfl) rfl eu14.symm ?_
  refine x_aload_n C 0 dX1_init_64 rfl rfl ?_
  refine x_sipush (v := (256 : Int32)) C dX1_init_65 (by decide) ?_
  refine x_newI C ka_int 256 (by decide) (by decide) (Nat.le_of_ble_eq_true rfl) (Nat.le_of_ble_eq_true rfl) (Nat.le_of_ble_eq_true rfl) dX1_init_68 ?_
  obtain ⟨u15, eu15⟩ : ∃ w : HpT, w = (hup u14 125 (aI G 256 (fun _ => 0))) := ⟨_, rfl⟩
  refine x_norm (st2 := [.ref (z + 125), .ref (z + 119)]) (kc2 := 6) (ks2 := 290) (n2 := 126) rfl rfl rfl rfl eu15.symm ?_
  have k119_14 := (congrFun eu14 119).trans (hup_s _ _ _)
  have k119_15 := (congrFun eu15 119).trans (hup_n' (by decide) (k119_14))
  obtain ⟨u16, eu16⟩ : ∃ w : HpT, w = (hup u15 119 (.inr (0, [.int (0 : Int32), .int (0 : Int32), .int (0 : Int32), .int (0 : Int32), .ref (z + 120), .ref (z + 121), .ref (z + 122), .ref (z + 123), .ref (z + 124), .ref (z + 125)]))) := ⟨_, rfl⟩
  refine pfX1_40 C dX1_init_70 hnm k119_15 (Nat.le_of_ble_eq_true rfl) rfl eu16.symm ?_
  exact x_vret C hr hlk (Nat.le_of_ble_eq_true rfl) (Nat.le_of_ble_eq_true rfl) dX1_init_73 rfl (by rw [eu16, eu15, eu14, eu13, eu12, eu11, eu10, eu9, eu8, eu7, eu6, eu5, eu4, eu3, eu2, eu1]; simp only [hup_hup, hup_sk, ne_eq, Nat.reduceEqDiff, not_false_eq_true]) rfl
set_option maxRecDepth 20000 in
theorem p_X3_init_31 {G : GT} {l : Launch} {z : Nat} (u : HpT) (h127 : u 127 = some (.inr (2, [.int (0 : Int32), .int (0 : Int32), .int (0 : Int32), .int (0 : Int32), .int (0 : Int32), .int (0 : Int32), .int (0 : Int32), .int (0 : Int32), .int (0 : Int32), .int (0 : Int32), .null, .null]))) : Mt G l z yX3_init cX3_init 1 none { frames := 1, cells := 2, slots := 12, locals := 12 } [.ref (z + 127)] u 128 none (hup (hup (hup u 128 (aI G 6 (fun _ => 0))) 129 (aI G 6 (fun _ => 0))) 127 (.inr (2, [.int (0 : Int32), .int (0 : Int32), .int (0 : Int32), .int (0 : Int32), .int (-1 : Int32), .int (0 : Int32), .int (-1 : Int32), .int (0 : Int32), .int (0 : Int32), .int (0 : Int32), .ref (z + 128), .ref (z + 129)]))) 130 := by
  refine mt_of (by decide +kernel) (Nat.le_of_ble_eq_true rfl) ?_
  intro p e s m below meth c C hr hlk hnm
  refine x_aload_n C 0 dX3_init_0 rfl rfl ?_
  refine x_objInit C kmX3_3 kObjI kObjC (Nat.le_of_ble_eq_true rfl) (Nat.le_of_ble_eq_true rfl) dX3_init_1 ?_
  refine x_aload_n C 0 dX3_init_4 rfl rfl ?_
  refine x_iconst (v := (0 : Int32)) C dX3_init_5 (by decide) ?_
  obtain ⟨u1, eu1⟩ : ∃ w : HpT, w = (hup u 127 (.inr (2, [.int (0 : Int32), .int (0 : Int32), .int (0 : Int32), .int (0 : Int32), .int (0 : Int32), .int (0 : Int32), .int (0 : Int32), .int (0 : Int32), .int (0 : Int32), .int (0 : Int32), .null, .null]))) := ⟨_, rfl⟩
  refine pfX3_9 C dX3_init_6 h127 (Nat.le_of_ble_eq_true rfl) rfl eu1.symm ?_
  refine x_aload_n C 0 dX3_init_9 rfl rfl ?_
  refine x_iconst (v := (0 : Int32)) C dX3_init_10 (by decide) ?_
  have k127_1 := (congrFun eu1 127).trans (hup_s _ _ _)
  obtain ⟨u2, eu2⟩ : ∃ w : HpT, w = (hup u1 127 (.inr (2, [.int (0 : Int32), .int (0 : Int32), .int (0 : Int32), .int (0 : Int32), .int (0 : Int32), .int (0 : Int32), .int (0 : Int32), .int (0 : Int32), .int (0 : Int32), .int (0 : Int32), .null, .null]))) := ⟨_, rfl⟩
  refine pfX3_15 C dX3_init_11 k127_1 (Nat.le_of_ble_eq_true rfl) rfl eu2.symm ?_
  refine x_aload_n C 0 dX3_init_14 rfl rfl ?_
  refine x_iconst (v := (0 : Int32)) C dX3_init_15 (by decide) ?_
  have k127_2 := (congrFun eu2 127).trans (hup_s _ _ _)
  obtain ⟨u3, eu3⟩ : ∃ w : HpT, w = (hup u2 127 (.inr (2, [.int (0 : Int32), .int (0 : Int32), .int (0 : Int32), .int (0 : Int32), .int (0 : Int32), .int (0 : Int32), .int (0 : Int32), .int (0 : Int32), .int (0 : Int32), .int (0 : Int32), .null, .null]))) := ⟨_, rfl⟩
  refine pfX3_18 C dX3_init_16 k127_2 (Nat.le_of_ble_eq_true rfl) rfl eu3.symm ?_
  refine x_aload_n C 0 dX3_init_19 rfl rfl ?_
  refine x_iconst (v := (0 : Int32)) C dX3_init_20 (by decide) ?_
  have k127_3 := (congrFun eu3 127).trans (hup_s _ _ _)
  obtain ⟨u4, eu4⟩ : ∃ w : HpT, w = (hup u3 127 (.inr (2, [.int (0 : Int32), .int (0 : Int32), .int (0 : Int32), .int (0 : Int32), .int (0 : Int32), .int (0 : Int32), .int (0 : Int32), .int (0 : Int32), .int (0 : Int32), .int (0 : Int32), .null, .null]))) := ⟨_, rfl⟩
  refine pfX3_21 C dX3_init_21 k127_3 (Nat.le_of_ble_eq_true rfl) rfl eu4.symm ?_
  refine x_aload_n C 0 dX3_init_24 rfl rfl ?_
  refine x_iconst (v := (-1 : Int32)) C dX3_init_25 (by decide) ?_
  have k127_4 := (congrFun eu4 127).trans (hup_s _ _ _)
  obtain ⟨u5, eu5⟩ : ∃ w : HpT, w = (hup u4 127 (.inr (2, [.int (0 : Int32), .int (0 : Int32), .int (0 : Int32), .int (0 : Int32), .int (-1 : Int32), .int (0 : Int32), .int (0 : Int32), .int (0 : Int32), .int (0 : Int32), .int (0 : Int32), .null, .null]))) := ⟨_, rfl⟩
  refine pfX3_24 C dX3_init_26 k127_4 (Nat.le_of_ble_eq_true rfl) rfl eu5.symm ?_
  refine x_aload_n C 0 dX3_init_29 rfl rfl ?_
  refine x_iconst (v := (0 : Int32)) C dX3_init_30 (by decide) ?_
  have k127_5 := (congrFun eu5 127).trans (hup_s _ _ _)
  obtain ⟨u6, eu6⟩ : ∃ w : HpT, w = (hup u5 127 (.inr (2, [.int (0 : Int32), .int (0 : Int32), .int (0 : Int32), .int (0 : Int32), .int (-1 : Int32), .int (0 : Int32), .int (0 : Int32), .int (0 : Int32), .int (0 : Int32), .int (0 : Int32), .null, .null]))) := ⟨_, rfl⟩
  refine pfX3_27 C dX3_init_31 k127_5 (Nat.le_of_ble_eq_true rfl) rfl eu6.symm ?_
  refine x_aload_n C 0 dX3_init_34 rfl rfl ?_
  refine x_iconst (v := (-1 : Int32)) C dX3_init_35 (by decide) ?_
  have k127_6 := (congrFun eu6 127).trans (hup_s _ _ _)
  obtain ⟨u7, eu7⟩ : ∃ w : HpT, w = (hup u6 127 (.inr (2, [.int (0 : Int32), .int (0 : Int32), .int (0 : Int32), .int (0 : Int32), .int (-1 : Int32), .int (0 : Int32), .int (-1 : Int32), .int (0 : Int32), .int (0 : Int32), .int (0 : Int32), .null, .null]))) := ⟨_, rfl⟩
  refine pfX3_30 C dX3_init_36 k127_6 (Nat.le_of_ble_eq_true rfl) rfl eu7.symm ?_
  refine x_aload_n C 0 dX3_init_39 rfl rfl ?_
  refine x_iconst (v := (0 : Int32)) C dX3_init_40 (by decide) ?_
  have k127_7 := (congrFun eu7 127).trans (hup_s _ _ _)
  obtain ⟨u8, eu8⟩ : ∃ w : HpT, w = (hup u7 127 (.inr (2, [.int (0 : Int32), .int (0 : Int32), .int (0 : Int32), .int (0 : Int32), .int (-1 : Int32), .int (0 : Int32), .int (-1 : Int32), .int (0 : Int32), .int (0 : Int32), .int (0 : Int32), .null, .null]))) := ⟨_, rfl⟩
  refine pfX3_33 C dX3_init_41 k127_7 (Nat.le_of_ble_eq_true rfl) rfl eu8.symm ?_
  refine x_aload_n C 0 dX3_init_44 rfl rfl ?_
  refine x_iconst (v := (0 : Int32)) C dX3_init_45 (by decide) ?_
  have k127_8 := (congrFun eu8 127).trans (hup_s _ _ _)
  obtain ⟨u9, eu9⟩ : ∃ w : HpT, w = (hup u8 127 (.inr (2, [.int (0 : Int32), .int (0 : Int32), .int (0 : Int32), .int (0 : Int32), .int (-1 : Int32), .int (0 : Int32), .int (-1 : Int32), .int (0 : Int32), .int (0 : Int32), .int (0 : Int32), .null, .null]))) := ⟨_, rfl⟩
  refine pfX3_36 C dX3_init_46 k127_8 (Nat.le_of_ble_eq_true rfl) rfl eu9.symm ?_
  refine x_aload_n C 0 dX3_init_49 rfl rfl ?_
  refine x_iconst (v := (0 : Int32)) C dX3_init_50 (by decide) ?_
  have k127_9 := (congrFun eu9 127).trans (hup_s _ _ _)
  obtain ⟨u10, eu10⟩ : ∃ w : HpT, w = (hup u9 127 (.inr (2, [.int (0 : Int32), .int (0 : Int32), .int (0 : Int32), .int (0 : Int32), .int (-1 : Int32), .int (0 : Int32), .int (-1 : Int32), .int (0 : Int32), .int (0 : Int32), .int (0 : Int32), .null, .null]))) := ⟨_, rfl⟩
  refine pfX3_39 C dX3_init_51 k127_9 (Nat.le_of_ble_eq_true rfl) rfl eu10.symm ?_
  refine x_aload_n C 0 dX3_init_54 rfl rfl ?_
  refine x_bipush (v := (6 : Int32)) C dX3_init_55 (by decide) ?_
  refine x_newI C ka_int 6 (by decide) (by decide) (Nat.le_of_ble_eq_true rfl) (Nat.le_of_ble_eq_true rfl) (Nat.le_of_ble_eq_true rfl) dX3_init_57 ?_
  obtain ⟨u11, eu11⟩ : ∃ w : HpT, w = (hup u10 128 (aI G 6 (fun _ => 0))) := ⟨_, rfl⟩
  refine x_norm (st2 := [.ref (z + 128), .ref (z + 127)]) (kc2 := 1) (ks2 := 6) (n2 := 129) rfl rfl rfl rfl eu11.symm ?_
  have k127_10 := (congrFun eu10 127).trans (hup_s _ _ _)
  have k127_11 := (congrFun eu11 127).trans (hup_n' (by decide) (k127_10))
  obtain ⟨u12, eu12⟩ : ∃ w : HpT, w = (hup u11 127 (.inr (2, [.int (0 : Int32), .int (0 : Int32), .int (0 : Int32), .int (0 : Int32), .int (-1 : Int32), .int (0 : Int32), .int (-1 : Int32), .int (0 : Int32), .int (0 : Int32), .int (0 : Int32), .ref (z + 128), .null]))) := ⟨_, rfl⟩
  refine pfX3_42 C dX3_init_59 hnm k127_11 (Nat.le_of_ble_eq_true rfl) rfl eu12.symm ?_
  refine x_aload_n C 0 dX3_init_62 rfl rfl ?_
  refine x_bipush (v := (6 : Int32)) C dX3_init_63 (by decide) ?_
  refine x_newI C ka_int 6 (by decide) (by decide) (Nat.le_of_ble_eq_true rfl) (Nat.le_of_ble_eq_true rfl) (Nat.le_of_ble_eq_true rfl) dX3_init_65 ?_
  obtain ⟨u13, eu13⟩ : ∃ w : HpT, w = (hup u12 129 (aI G 6 (fun _ => 0))) := ⟨_, rfl⟩
  refine x_norm (st2 := [.ref (z + 129), .ref (z + 127)]) (kc2 := 2) (ks2 := 12) (n2 := 130) rfl rfl rfl rfl eu13.symm ?_
  have k127_12 := (congrFun eu12 127).trans (hup_s _ _ _)
  have k127_13 := (congrFun eu13 127).trans (hup_n' (by decide) (k127_12))
  obtain ⟨u14, eu14⟩ : ∃ w : HpT, w = (hup u13 127 (.inr (2, [.int (0 : Int32), .int (0 : Int32), .int (0 : Int32), .int (0 : Int32), .int (-1 : Int32), .int (0 : Int32), .int (-1 : Int32), .int (0 : Int32), .int (0 : Int32), .int (0 : Int32), .ref (z + 128), .ref (z + 129)]))) := ⟨_, rfl⟩
  refine pfX3_46 C dX3_init_67 hnm k127_13 (Nat.le_of_ble_eq_true rfl) rfl eu14.symm ?_
  exact x_vret C hr hlk (Nat.le_of_ble_eq_true rfl) (Nat.le_of_ble_eq_true rfl) dX3_init_70 rfl (by rw [eu14, eu13, eu12, eu11, eu10, eu9, eu8, eu7, eu6, eu5, eu4, eu3, eu2, eu1]; simp only [hup_hup, hup_sk, ne_eq, Nat.reduceEqDiff, not_false_eq_true]) rfl
set_option maxRecDepth 20000 in
theorem p_X4_init_0 {G : GT} {l : Launch} {z : Nat} (u : HpT) (h126 : u 126 = some (.inr (3, [.null, .int (0 : Int32), .int (0 : Int32)]))) : Mt G l z yX4_init cX4_init 1 none { frames := 2, cells := 3, slots := 24, locals := 32 } [.ref (z + 126)] u 127 none (hup (hup (hup (hup (hup u 127 (.inr (2, [.int (0 : Int32), .int (0 : Int32), .int (0 : Int32), .int (0 : Int32), .int (0 : Int32), .int (0 : Int32), .int (0 : Int32), .int (0 : Int32), .int (0 : Int32), .int (0 : Int32), .null, .null]))) 128 (aI G 6 (fun _ => 0))) 129 (aI G 6 (fun _ => 0))) 127 (.inr (2, [.int (0 : Int32), .int (0 : Int32), .int (0 : Int32), .int (0 : Int32), .int (-1 : Int32), .int (0 : Int32), .int (-1 : Int32), .int (0 : Int32), .int (0 : Int32), .int (0 : Int32), .ref (z + 128), .ref (z + 129)]))) 126 (.inr (3, [.ref (z + 127), .int (0 : Int32), .int (0 : Int32)]))) 130 := by
  refine mt_of (by decide +kernel) (Nat.le_of_ble_eq_true rfl) ?_
  intro p e s m below meth c C hr hlk hnm
  refine x_aload_n C 0 dX4_init_0 rfl rfl ?_
  refine x_objInit C kmX4_1 kObjI kObjC (Nat.le_of_ble_eq_true rfl) (Nat.le_of_ble_eq_true rfl) dX4_init_1 ?_
  refine x_aload_n C 0 dX4_init_4 rfl rfl ?_
  refine x_new C gdX3 tyX3 tyX3_ok (ci := 2) rfl koX4_7 kiX3 kzX3 [.int (0 : Int32), .int (0 : Int32), .int (0 : Int32), .int (0 : Int32), .int (0 : Int32), .int (0 : Int32), .int (0 : Int32), .int (0 : Int32), .int (0 : Int32), .int (0 : Int32), .null, .null] (by decide +kernel) (Nat.le_of_ble_eq_true rfl) (Nat.le_of_ble_eq_true rfl) dX4_init_5 ?_
  obtain ⟨u1, eu1⟩ : ∃ w : HpT, w = (hup u 127 (.inr (2, [.int (0 : Int32), .int (0 : Int32), .int (0 : Int32), .int (0 : Int32), .int (0 : Int32), .int (0 : Int32), .int (0 : Int32), .int (0 : Int32), .int (0 : Int32), .int (0 : Int32), .null, .null]))) := ⟨_, rfl⟩
  refine x_norm (st2 := [.ref (z + 127), .ref (z + 126)]) (kc2 := 1) (ks2 := 12) (n2 := 128) rfl rfl rfl rfl eu1.symm ?_
  refine x_dup C dX4_init_8 rfl ?_
  have k127_1 := (congrFun eu1 127).trans (hup_s _ _ _)
  refine x_callIN C cl_X3_init knX4_9 (b := z + 127) (As := []) (rest := [.ref (z + 127), .ref (z + 126)]) (p_X3_init_31 u1 k127_1) rfl rfl (Nat.le_of_ble_eq_true rfl) ⟨Nat.le_of_ble_eq_true rfl, Nat.le_of_ble_eq_true rfl⟩ ⟨Nat.le_of_ble_eq_true rfl, Nat.le_of_ble_eq_true rfl⟩ dX4_init_9 ?_
  obtain ⟨u2, eu2⟩ : ∃ w : HpT, w = (hup (hup (hup u1 128 (aI G 6 (fun _ => 0))) 129 (aI G 6 (fun _ => 0))) 127 (.inr (2, [.int (0 : Int32), .int (0 : Int32), .int (0 : Int32), .int (0 : Int32), .int (-1 : Int32), .int (0 : Int32), .int (-1 : Int32), .int (0 : Int32), .int (0 : Int32), .int (0 : Int32), .ref (z + 128), .ref (z + 129)]))) := ⟨_, rfl⟩
  refine x_norm (st2 := [.ref (z + 127), .ref (z + 126)]) (kc2 := 3) (ks2 := 24) (n2 := 130) rfl rfl rfl rfl eu2.symm ?_
  have k126_1 := (congrFun eu1 126).trans (hup_n' (by decide) (h126))
  have k126_2 := (congrFun eu2 126).trans (hup_n' (by decide) (hup_n' (by decide) (hup_n' (by decide) (k126_1))))
  obtain ⟨u3, eu3⟩ : ∃ w : HpT, w = (hup u2 126 (.inr (3, [.ref (z + 127), .int (0 : Int32), .int (0 : Int32)]))) := ⟨_, rfl⟩
  refine pfX4_10 C dX4_init_12 hnm k126_2 (Nat.le_of_ble_eq_true rfl) rfl eu3.symm ?_
  refine x_aload_n C 0 dX4_init_15 rfl rfl ?_
  refine x_iconst (v := (0 : Int32)) C dX4_init_16 (by decide) ?_
  have k126_3 := (congrFun eu3 126).trans (hup_s _ _ _)
  obtain ⟨u4, eu4⟩ : ∃ w : HpT, w = (hup u3 126 (.inr (3, [.ref (z + 127), .int (0 : Int32), .int (0 : Int32)]))) := ⟨_, rfl⟩
  refine pfX4_16 C dX4_init_17 k126_3 (Nat.le_of_ble_eq_true rfl) rfl eu4.symm ?_
  refine x_aload_n C 0 dX4_init_20 rfl rfl ?_
  refine x_iconst (v := (0 : Int32)) C dX4_init_21 (by decide) ?_
  have k126_4 := (congrFun eu4 126).trans (hup_s _ _ _)
  obtain ⟨u5, eu5⟩ : ∃ w : HpT, w = (hup u4 126 (.inr (3, [.ref (z + 127), .int (0 : Int32), .int (0 : Int32)]))) := ⟨_, rfl⟩
  refine pfX4_20 C dX4_init_22 (by decide) (by decide) k126_4 (Nat.le_of_ble_eq_true rfl) rfl eu5.symm ?_
  exact x_vret C hr hlk (Nat.le_of_ble_eq_true rfl) (Nat.le_of_ble_eq_true rfl) dX4_init_25 rfl (by rw [eu5, eu4, eu3, eu2, eu1]; simp only [hup_hup, hup_sk, ne_eq, Nat.reduceEqDiff, not_false_eq_true]) rfl
