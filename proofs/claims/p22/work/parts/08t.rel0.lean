/-! small rows for both sides -/
theorem tl_0 : (0 : Int32).toInt = 0 := by decide
theorem tl_1 : (1 : Int32).toInt = 1 := by decide
theorem tl_2 : (2 : Int32).toInt = 2 := by decide
theorem tl_3 : (3 : Int32).toInt = 3 := by decide
theorem tl_4 : (4 : Int32).toInt = 4 := by decide
theorem tl_6 : (6 : Int32).toInt = 6 := by decide
theorem tl_8 : (8 : Int32).toInt = 8 := by decide
theorem tl_9 : (9 : Int32).toInt = 9 := by decide
theorem tl_10 : (10 : Int32).toInt = 10 := by decide
theorem tl_30 : (30 : Int32).toInt = 30 := by decide
theorem tl_31 : (31 : Int32).toInt = 31 := by decide
theorem tl_32 : (32 : Int32).toInt = 32 := by decide
theorem tl_48 : (48 : Int32).toInt = 48 := by decide
theorem tl_57 : (57 : Int32).toInt = 57 := by decide
theorem tl_59 : (59 : Int32).toInt = 59 := by decide
theorem tl_60 : (60 : Int32).toInt = 60 := by decide
theorem tl_107 : (107 : Int32).toInt = 107 := by decide
theorem tl_109 : (109 : Int32).toInt = 109 := by decide
theorem tl_116 : (116 : Int32).toInt = 116 := by decide
theorem tl_240 : (240 : Int32).toInt = 240 := by decide
theorem tl_255 : (255 : Int32).toInt = 255 := by decide
theorem tl_999 : (999 : Int32).toInt = 999 := by decide
theorem tl_m1 : (-1 : Int32).toInt = -1 := by decide
theorem tl_5 : (5 : Int32).toInt = 5 := by decide
theorem tl_7 : (7 : Int32).toInt = 7 := by decide
theorem tl_20 : (20 : Int32).toInt = 20 := by decide
theorem tl_24 : (24 : Int32).toInt = 24 := by decide
theorem tl_25 : (25 : Int32).toInt = 25 := by decide
theorem tl_29 : (29 : Int32).toInt = 29 := by decide
theorem tl_63 : (63 : Int32).toInt = 63 := by decide
theorem tl_64 : (64 : Int32).toInt = 64 := by decide
theorem tl_100 : (100 : Int32).toInt = 100 := by decide
theorem tl_256 : (256 : Int32).toInt = 256 := by decide
theorem tl_300 : (300 : Int32).toInt = 300 := by decide
theorem tl_2048 : (2048 : Int32).toInt = 2048 := by decide
theorem tl_9000 : (9000 : Int32).toInt = 9000 := by decide
theorem tl_9999 : (9999 : Int32).toInt = 9999 := by decide
theorem tl_900000 : (900000 : Int32).toInt = 900000 := by decide
theorem tl_999999 : (999999 : Int32).toInt = 999999 := by decide
theorem tl_m2 : (-2 : Int32).toInt = -2 := by decide
theorem tl_m10 : (-10 : Int32).toInt = -10 := by decide
theorem tl_1000000000 : (1000000000 : Int32).toInt = 1000000000 := by decide
theorem pc_in {a b c : Int32} : Pc (fun r => r = if b.toInt ≤ a.toInt ∧ a.toInt ≤ c.toInt then 1 else 0) (f_X10_in a b c) := by
  unfold f_X10_in
  refine pc_ite (fun h => ?_) (fun h => pc_ite (fun h2 => ?_) (fun h2 => ?_))
  · rw [Int32.lt_iff_toInt_lt] at h
    refine pc_some ?_
    rw [if_neg (by omega)]
  · rw [Int32.lt_iff_toInt_lt] at h2
    refine pc_some ?_
    rw [if_neg (by omega)]
  · rw [Int32.lt_iff_toInt_lt] at h h2
    refine pc_some ?_
    rw [if_pos (by omega)]
theorem in_0 {a b c r : Int32} (h : r = if b.toInt ≤ a.toInt ∧ a.toInt ≤ c.toInt then 1 else 0) (hn : ¬ (b.toInt ≤ a.toInt ∧ a.toInt ≤ c.toInt)) : r = 0 := by rw [h, if_neg hn]
theorem in_1 {a b c r : Int32} (h : r = if b.toInt ≤ a.toInt ∧ a.toInt ≤ c.toInt then 1 else 0) (hn : b.toInt ≤ a.toInt ∧ a.toInt ≤ c.toInt) : ¬ r = 0 := by rw [h, if_pos hn]; decide
theorem rc_refl {α : Type} (o : Option α) : Rc (fun a b => a = b) o o := fun v v2 h h2 => by rw [h] at h2; cases h2; rfl
theorem eq_dry (a b : Int32) : Rc (fun x y => x = y) (f_X9_dry a b) (f_X10_dry a b) := by
  unfold f_X9_dry f_X10_dry
  have t0 := tl_0
  have t60 := tl_60
  have t100 := tl_100
  refine rcr_bind pc_in (fun r1 _ h1 => ?_)
  refine rcl_ite (fun c => ?_) (fun c => rcl_ite (fun c2 => ?_) (fun c2 => ?_))
  · rw [Int32.lt_iff_toInt_lt] at c
    rw [if_pos (in_0 h1 (by omega))]
    exact rc_some rfl
  · rw [Int32.lt_iff_toInt_lt] at c2
    rw [if_pos (in_0 h1 (by omega))]
    exact rc_some rfl
  · rw [Int32.lt_iff_toInt_lt] at c c2
    rw [if_neg (in_1 h1 (by omega))]
    refine rcr_bind pc_in (fun r2 _ h2 => ?_)
    refine rcl_ite (fun c3 => ?_) (fun c3 => rcl_ite (fun c4 => ?_) (fun c4 => ?_))
    · rw [Int32.lt_iff_toInt_lt] at c3
      rw [if_pos (in_0 h2 (by omega))]
      exact rc_some rfl
    · rw [Int32.lt_iff_toInt_lt] at c4
      rw [if_pos (in_0 h2 (by omega))]
      exact rc_some rfl
    · rw [Int32.lt_iff_toInt_lt] at c3 c4
      rw [if_neg (in_1 h2 (by omega))]
      exact rc_refl _
theorem eq_keep (a : Int32) (w w' : Mem) : Rc (fun x y => x.1 = y.1) (f_X9_keep a w) (f_X10_keep a w') := by
  unfold f_X9_keep f_X10_keep
  have t0 := tl_0
  have t1 := tl_1
  have t2 := tl_2
  refine rcr_bind pc_in (fun r1 _ h1 => ?_)
  refine rcl_ite (fun c => ?_) (fun c => rcl_ite (fun c2 => ?_) (fun c2 => ?_))
  · rw [Int32.lt_iff_toInt_lt] at c
    rw [if_pos (in_0 h1 (by omega))]
    exact rc_some rfl
  · rw [Int32.lt_iff_toInt_lt] at c c2
    rw [if_neg (in_1 h1 (by omega))]
    refine rcl_ri (fun _ => rcl_bind (Q := fun _ => True) (fun _ _ => trivial) (fun w2 _ _ => rcl_pw (rcl_pw (rcl_bind (Q := fun _ => True) (fun _ _ => trivial) (fun w5 _ _ => ?_)))))
    refine rcr_wr (fun _ => rcr_wrl (fun _ => rcr_pw (rcr_bind (Q := fun _ => True) (fun _ _ => trivial) (fun w2 _ _ => rc_some rfl))))
  · rw [Int32.lt_iff_toInt_lt] at c c2
    rw [if_pos (in_0 h1 (by omega))]
    exact rc_some rfl
