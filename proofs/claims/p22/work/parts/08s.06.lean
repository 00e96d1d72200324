set_option maxRecDepth 20000 in
set_option maxHeartbeats 2000000 in
theorem sf_X10_readsClause {g : Nat → Int} (w : Mem) (hI : Inv g w) (pre0 : (w 134 2).toInt ≤ 240) (pre1 : ((w 134 6).toInt = 0 ∧ (w 134 7).toInt = 0 ∧ (w 134 8).toInt = 0 ∧ (w 134 9).toInt = 0) ∨ (1 ≤ (w 134 6).toInt ∧ (w 134 6).toInt ≤ 60 ∧ 1 ≤ (w 134 7).toInt ∧ (w 134 7).toInt ≤ 9)) : Sf (fun (q : Int32 × Mem) => (Inv g q.2) ∧ (0 ≤ q.1.toInt ∧ q.1.toInt ≤ 1) ∧ ((w 134 2).toInt ≤ (q.2 134 2).toInt) ∧ (q.1.toInt = 0 ∨ ((w 134 2).toInt < (q.2 134 2).toInt ∧ (((q.2 134 6).toInt = 0 ∧ (q.2 134 7).toInt = 0 ∧ (q.2 134 8).toInt = 0 ∧ (q.2 134 9).toInt = 0) ∨ (1 ≤ (q.2 134 6).toInt ∧ (q.2 134 6).toInt ≤ 60 ∧ 1 ≤ (q.2 134 7).toInt ∧ (q.2 134 7).toInt ≤ 9))))) (f_X10_readsClause w) := by
  obtain ⟨hg0, hg1⟩ := hI.1
  have h1_ : 0 ≤ (w 134 2).toInt ∧ (w 134 2).toInt ≤ 241 := iv_134_2 hI
  have zz2_l : -2147483648 ≤ (w 134 6).toInt := Int32.le_toInt (w 134 6)
  have zz2_h : (w 134 6).toInt ≤ 2147483647 := Int32.toInt_le (w 134 6)
  have zz3_l : -2147483648 ≤ (w 134 7).toInt := Int32.le_toInt (w 134 7)
  have zz3_h : (w 134 7).toInt ≤ 2147483647 := Int32.toInt_le (w 134 7)
  have h4_ : 0 ≤ (w 134 8).toInt ∧ (w 134 8).toInt ≤ 8 := iv_134_8 hI
  have h5_ : 0 ≤ (w 134 9).toInt ∧ (w 134 9).toInt ≤ 6 := iv_134_9 hI
  unfold f_X10_readsClause
  refine sf_bind (sf_X10_nextLetter  w hI) (fun q1 hqq1 hpq1 => ?_)
  obtain ⟨hIq1, hpq1_0, hpq1_1, hpq1_2⟩ := hpq1
  have h6_ : 0 ≤ (q1.2 134 2).toInt ∧ (q1.2 134 2).toInt ≤ 241 := iv_134_2 hIq1
  have h7_ : 0 ≤ (q1.2 134 0).toInt ∧ (q1.2 134 0).toInt ≤ 240 := iv_134_0 hIq1
  have h8_ : 0 ≤ (w 134 0).toInt ∧ (w 134 0).toInt ≤ 240 := iv_134_0 hI
  have k9_ : (q1.2 134 0).toInt = (w 134 0).toInt := congrArg Int32.toInt (fr_X10_nextLetter  w q1 hqq1 134 0 (by omega))
  have l_1 : (1 : Int32).toInt = 1 := by decide
  have e10_ : ((q1.2 134 2) + (1 : Int32)).toInt = (q1.2 134 2).toInt + (1 : Int32).toInt := i_add (by omega) (by omega)
  refine sf_pw (fun w2 ew2 => ?_)
  have hIw2 : Inv g w2 := by rw [ew2]; exact up_134_2 hIq1 (show 0 ≤ ((q1.2 134 2) + (1 : Int32)).toInt ∧ ((q1.2 134 2) + (1 : Int32)).toInt ≤ 241 from by omega)
  have zz11_l : -2147483648 ≤ q1.1.toInt := Int32.le_toInt q1.1
  have zz11_h : q1.1.toInt ≤ 2147483647 := Int32.toInt_le q1.1
  have l_107 : (107 : Int32).toInt = 107 := by decide
  refine sf_ite (fun c12_ => ?_) (fun c12_ => ?_)
  · have rc12_ : q1.1.toInt = 107 := by rw [i_eq_iff] at c12_; omega
    have k13_ : (q1.2 134 7).toInt = (w 134 7).toInt := congrArg Int32.toInt (fr_X10_nextLetter  w q1 hqq1 134 7 (by omega))
    have zz14_l : -2147483648 ≤ (q1.2 134 7).toInt := Int32.le_toInt (q1.2 134 7)
    have zz14_h : (q1.2 134 7).toInt ≤ 2147483647 := Int32.toInt_le (q1.2 134 7)
    have k15_ : (w2 134 7).toInt = (q1.2 134 7).toInt := by rw [ew2, wu_ne (by omega)]
    have zz16_l : -2147483648 ≤ (w2 134 7).toInt := Int32.le_toInt (w2 134 7)
    have zz16_h : (w2 134 7).toInt ≤ 2147483647 := Int32.toInt_le (w2 134 7)
    have l_0 : (0 : Int32).toInt = 0 := by decide
    refine sf_ite (fun c17_ => ?_) (fun c17_ => ?_)
    · have rc17_ : (w2 134 7).toInt = 0 := by rw [i_eq_iff] at c17_; omega
      refine sf_bind (sf_X10_readsHead  w2 hIw2) (fun q49 hqq49 hpq49 => ?_)
      obtain ⟨hIq49, hpq49_0, hpq49_1, hpq49_2⟩ := hpq49
      have h18_ : 0 ≤ (w2 134 2).toInt ∧ (w2 134 2).toInt ≤ 241 := iv_134_2 hIw2
      have k19_ : (w2 134 2).toInt = ((q1.2 134 2) + (1 : Int32)).toInt := by rw [ew2, wu_at]
      have h20_ : 0 ≤ (q49.2 134 2).toInt ∧ (q49.2 134 2).toInt ≤ 241 := iv_134_2 hIq49
      have zz21_l : -2147483648 ≤ (q49.2 134 6).toInt := Int32.le_toInt (q49.2 134 6)
      have zz21_h : (q49.2 134 6).toInt ≤ 2147483647 := Int32.toInt_le (q49.2 134 6)
      have zz22_l : -2147483648 ≤ (q49.2 134 7).toInt := Int32.le_toInt (q49.2 134 7)
      have zz22_h : (q49.2 134 7).toInt ≤ 2147483647 := Int32.toInt_le (q49.2 134 7)
      refine sf_zr (i_z01 (by omega) (by omega)) ?_
      have h23_ : 0 ≤ (q49.2 134 8).toInt ∧ (q49.2 134 8).toInt ≤ 8 := iv_134_8 hIq49
      have h24_ : 0 ≤ (w2 134 8).toInt ∧ (w2 134 8).toInt ≤ 8 := iv_134_8 hIw2
      have h25_ : 0 ≤ (q1.2 134 8).toInt ∧ (q1.2 134 8).toInt ≤ 8 := iv_134_8 hIq1
      have k26_ : (q1.2 134 8).toInt = (w 134 8).toInt := congrArg Int32.toInt (fr_X10_nextLetter  w q1 hqq1 134 8 (by omega))
      have k27_ : (w2 134 8).toInt = (q1.2 134 8).toInt := by rw [ew2, wu_ne (by omega)]
      have k28_ : (q49.2 134 8).toInt = (w2 134 8).toInt := congrArg Int32.toInt (fr_X10_readsHead  w2 q49 hqq49 134 8 (by omega))
      have h29_ : 0 ≤ (q49.2 134 9).toInt ∧ (q49.2 134 9).toInt ≤ 6 := iv_134_9 hIq49
      have h30_ : 0 ≤ (w2 134 9).toInt ∧ (w2 134 9).toInt ≤ 6 := iv_134_9 hIw2
      have h31_ : 0 ≤ (q1.2 134 9).toInt ∧ (q1.2 134 9).toInt ≤ 6 := iv_134_9 hIq1
      have k32_ : (q1.2 134 9).toInt = (w 134 9).toInt := congrArg Int32.toInt (fr_X10_nextLetter  w q1 hqq1 134 9 (by omega))
      have k33_ : (w2 134 9).toInt = (q1.2 134 9).toInt := by rw [ew2, wu_ne (by omega)]
      have k34_ : (q49.2 134 9).toInt = (w2 134 9).toInt := congrArg Int32.toInt (fr_X10_readsHead  w2 q49 hqq49 134 9 (by omega))
      exact sf_some (show (Inv g q49.2) ∧ (0 ≤ q49.1.toInt ∧ q49.1.toInt ≤ 1) ∧ ((w 134 2).toInt ≤ (q49.2 134 2).toInt) ∧ (q49.1.toInt = 0 ∨ ((w 134 2).toInt < (q49.2 134 2).toInt ∧ (((q49.2 134 6).toInt = 0 ∧ (q49.2 134 7).toInt = 0 ∧ (q49.2 134 8).toInt = 0 ∧ (q49.2 134 9).toInt = 0) ∨ (1 ≤ (q49.2 134 6).toInt ∧ (q49.2 134 6).toInt ≤ 60 ∧ 1 ≤ (q49.2 134 7).toInt ∧ (q49.2 134 7).toInt ≤ 9)))) from ⟨hIq49, by omega, by omega, by omega⟩)
    · have rc17_ : ¬ (w2 134 7).toInt = 0 := by rw [i_eq_iff] at c17_; omega
      refine sf_bind (Q := fun (v26 : Int32) => (1 ≤ v26.toInt) ∧ (v26.toInt ≤ 1) ∧ (v26.toInt = 0 ∨ q1.1.toInt = 107 ∨ q1.1.toInt = 109 ∨ q1.1.toInt = 116)) ?_ (fun v26 hqv26 hvv26 => ?_)
      · refine sf_ite (fun c35_ => ?_) (fun c35_ => ?_)
        · have rc35_ : q1.1.toInt = 107 := by rw [i_eq_iff] at c35_; omega
          exact sf_some (show (1 ≤ (1 : Int32).toInt) ∧ ((1 : Int32).toInt ≤ 1) ∧ ((1 : Int32).toInt = 0 ∨ q1.1.toInt = 107 ∨ q1.1.toInt = 109 ∨ q1.1.toInt = 116) from ⟨by omega, by omega, by omega⟩)
        · have rc35_ : ¬ q1.1.toInt = 107 := by rw [i_eq_iff] at c35_; omega
          exfalso; omega
      · obtain ⟨hvv26_0, hvv26_1, hvv26_2⟩ := hvv26
        refine sf_ite (fun c36_ => ?_) (fun c36_ => ?_)
        · have rc36_ : v26.toInt = 0 := by rw [i_eq_iff] at c36_; omega
          exfalso; omega
        · have rc36_ : ¬ v26.toInt = 0 := by rw [i_eq_iff] at c36_; omega
          refine sf_ite (fun c37_ => ?_) (fun c37_ => ?_)
          · have rc37_ : (w2 134 7).toInt = 0 := by rw [i_eq_iff] at c37_; omega
            refine sf_bind (sf_X10_fails (1 : Int32) (q1.2 134 2) w2 hIw2 (by omega) (by omega)) (fun q48 hqq48 hpq48 => ?_)
            obtain ⟨hIq48, hpq48_0, hpq48_1⟩ := hpq48
            have h38_ : 0 ≤ (q48.2 134 2).toInt ∧ (q48.2 134 2).toInt ≤ 241 := iv_134_2 hIq48
            have k39_ : (q1.2 134 6).toInt = (w 134 6).toInt := congrArg Int32.toInt (fr_X10_nextLetter  w q1 hqq1 134 6 (by omega))
            have zz40_l : -2147483648 ≤ (q1.2 134 6).toInt := Int32.le_toInt (q1.2 134 6)
            have zz40_h : (q1.2 134 6).toInt ≤ 2147483647 := Int32.toInt_le (q1.2 134 6)
            have k41_ : (w2 134 6).toInt = (q1.2 134 6).toInt := by rw [ew2, wu_ne (by omega)]
            have zz42_l : -2147483648 ≤ (w2 134 6).toInt := Int32.le_toInt (w2 134 6)
            have zz42_h : (w2 134 6).toInt ≤ 2147483647 := Int32.toInt_le (w2 134 6)
            have k43_ : (q48.2 134 6).toInt = (w2 134 6).toInt := congrArg Int32.toInt (fr_X10_fails (1 : Int32) (q1.2 134 2) w2 q48 hqq48 134 6 (by omega))
            have zz44_l : -2147483648 ≤ (q48.2 134 6).toInt := Int32.le_toInt (q48.2 134 6)
            have zz44_h : (q48.2 134 6).toInt ≤ 2147483647 := Int32.toInt_le (q48.2 134 6)
            have k45_ : (q48.2 134 7).toInt = (w2 134 7).toInt := congrArg Int32.toInt (fr_X10_fails (1 : Int32) (q1.2 134 2) w2 q48 hqq48 134 7 (by omega))
            have h46_ : 0 ≤ (q48.2 134 8).toInt ∧ (q48.2 134 8).toInt ≤ 8 := iv_134_8 hIq48
            have h47_ : 0 ≤ (w2 134 8).toInt ∧ (w2 134 8).toInt ≤ 8 := iv_134_8 hIw2
            have h48_ : 0 ≤ (q1.2 134 8).toInt ∧ (q1.2 134 8).toInt ≤ 8 := iv_134_8 hIq1
            have k49_ : (q1.2 134 8).toInt = (w 134 8).toInt := congrArg Int32.toInt (fr_X10_nextLetter  w q1 hqq1 134 8 (by omega))
            have k50_ : (w2 134 8).toInt = (q1.2 134 8).toInt := by rw [ew2, wu_ne (by omega)]
            have k51_ : (q48.2 134 8).toInt = (w2 134 8).toInt := congrArg Int32.toInt (fr_X10_fails (1 : Int32) (q1.2 134 2) w2 q48 hqq48 134 8 (by omega))
            have h52_ : 0 ≤ (q48.2 134 9).toInt ∧ (q48.2 134 9).toInt ≤ 6 := iv_134_9 hIq48
            have h53_ : 0 ≤ (w2 134 9).toInt ∧ (w2 134 9).toInt ≤ 6 := iv_134_9 hIw2
            have h54_ : 0 ≤ (q1.2 134 9).toInt ∧ (q1.2 134 9).toInt ≤ 6 := iv_134_9 hIq1
            have k55_ : (q1.2 134 9).toInt = (w 134 9).toInt := congrArg Int32.toInt (fr_X10_nextLetter  w q1 hqq1 134 9 (by omega))
            have k56_ : (w2 134 9).toInt = (q1.2 134 9).toInt := by rw [ew2, wu_ne (by omega)]
            have k57_ : (q48.2 134 9).toInt = (w2 134 9).toInt := congrArg Int32.toInt (fr_X10_fails (1 : Int32) (q1.2 134 2) w2 q48 hqq48 134 9 (by omega))
            exact sf_some (show (Inv g q48.2) ∧ (0 ≤ (0 : Int32).toInt ∧ (0 : Int32).toInt ≤ 1) ∧ ((w 134 2).toInt ≤ (q48.2 134 2).toInt) ∧ ((0 : Int32).toInt = 0 ∨ ((w 134 2).toInt < (q48.2 134 2).toInt ∧ (((q48.2 134 6).toInt = 0 ∧ (q48.2 134 7).toInt = 0 ∧ (q48.2 134 8).toInt = 0 ∧ (q48.2 134 9).toInt = 0) ∨ (1 ≤ (q48.2 134 6).toInt ∧ (q48.2 134 6).toInt ≤ 60 ∧ 1 ≤ (q48.2 134 7).toInt ∧ (q48.2 134 7).toInt ≤ 9)))) from ⟨hIq48, by omega, by omega, by omega⟩)
          · have rc37_ : ¬ (w2 134 7).toInt = 0 := by rw [i_eq_iff] at c37_; omega
            refine sf_ite (fun c58_ => ?_) (fun c58_ => ?_)
            · have rc58_ : q1.1.toInt = 107 := by rw [i_eq_iff] at c58_; omega
              have l_3 : (3 : Int32).toInt = 3 := by decide
              refine sf_bind (sf_X10_fails (3 : Int32) (q1.2 134 2) w2 hIw2 (by omega) (by omega)) (fun q28 hqq28 hpq28 => ?_)
              obtain ⟨hIq28, hpq28_0, hpq28_1⟩ := hpq28
              have h59_ : 0 ≤ (q28.2 134 2).toInt ∧ (q28.2 134 2).toInt ≤ 241 := iv_134_2 hIq28
              have k60_ : (q1.2 134 6).toInt = (w 134 6).toInt := congrArg Int32.toInt (fr_X10_nextLetter  w q1 hqq1 134 6 (by omega))
              have zz61_l : -2147483648 ≤ (q1.2 134 6).toInt := Int32.le_toInt (q1.2 134 6)
              have zz61_h : (q1.2 134 6).toInt ≤ 2147483647 := Int32.toInt_le (q1.2 134 6)
              have k62_ : (w2 134 6).toInt = (q1.2 134 6).toInt := by rw [ew2, wu_ne (by omega)]
              have zz63_l : -2147483648 ≤ (w2 134 6).toInt := Int32.le_toInt (w2 134 6)
              have zz63_h : (w2 134 6).toInt ≤ 2147483647 := Int32.toInt_le (w2 134 6)
              have k64_ : (q28.2 134 6).toInt = (w2 134 6).toInt := congrArg Int32.toInt (fr_X10_fails (3 : Int32) (q1.2 134 2) w2 q28 hqq28 134 6 (by omega))
              have zz65_l : -2147483648 ≤ (q28.2 134 6).toInt := Int32.le_toInt (q28.2 134 6)
              have zz65_h : (q28.2 134 6).toInt ≤ 2147483647 := Int32.toInt_le (q28.2 134 6)
              have k66_ : (q28.2 134 7).toInt = (w2 134 7).toInt := congrArg Int32.toInt (fr_X10_fails (3 : Int32) (q1.2 134 2) w2 q28 hqq28 134 7 (by omega))
              have zz67_l : -2147483648 ≤ (q28.2 134 7).toInt := Int32.le_toInt (q28.2 134 7)
              have zz67_h : (q28.2 134 7).toInt ≤ 2147483647 := Int32.toInt_le (q28.2 134 7)
              have h68_ : 0 ≤ (q28.2 134 8).toInt ∧ (q28.2 134 8).toInt ≤ 8 := iv_134_8 hIq28
              have h69_ : 0 ≤ (w2 134 8).toInt ∧ (w2 134 8).toInt ≤ 8 := iv_134_8 hIw2
              have h70_ : 0 ≤ (q1.2 134 8).toInt ∧ (q1.2 134 8).toInt ≤ 8 := iv_134_8 hIq1
              have k71_ : (q1.2 134 8).toInt = (w 134 8).toInt := congrArg Int32.toInt (fr_X10_nextLetter  w q1 hqq1 134 8 (by omega))
              have k72_ : (w2 134 8).toInt = (q1.2 134 8).toInt := by rw [ew2, wu_ne (by omega)]
              have k73_ : (q28.2 134 8).toInt = (w2 134 8).toInt := congrArg Int32.toInt (fr_X10_fails (3 : Int32) (q1.2 134 2) w2 q28 hqq28 134 8 (by omega))
              have h74_ : 0 ≤ (q28.2 134 9).toInt ∧ (q28.2 134 9).toInt ≤ 6 := iv_134_9 hIq28
              have h75_ : 0 ≤ (w2 134 9).toInt ∧ (w2 134 9).toInt ≤ 6 := iv_134_9 hIw2
              have h76_ : 0 ≤ (q1.2 134 9).toInt ∧ (q1.2 134 9).toInt ≤ 6 := iv_134_9 hIq1
              have k77_ : (q1.2 134 9).toInt = (w 134 9).toInt := congrArg Int32.toInt (fr_X10_nextLetter  w q1 hqq1 134 9 (by omega))
              have k78_ : (w2 134 9).toInt = (q1.2 134 9).toInt := by rw [ew2, wu_ne (by omega)]
              have k79_ : (q28.2 134 9).toInt = (w2 134 9).toInt := congrArg Int32.toInt (fr_X10_fails (3 : Int32) (q1.2 134 2) w2 q28 hqq28 134 9 (by omega))
              exact sf_some (show (Inv g q28.2) ∧ (0 ≤ (0 : Int32).toInt ∧ (0 : Int32).toInt ≤ 1) ∧ ((w 134 2).toInt ≤ (q28.2 134 2).toInt) ∧ ((0 : Int32).toInt = 0 ∨ ((w 134 2).toInt < (q28.2 134 2).toInt ∧ (((q28.2 134 6).toInt = 0 ∧ (q28.2 134 7).toInt = 0 ∧ (q28.2 134 8).toInt = 0 ∧ (q28.2 134 9).toInt = 0) ∨ (1 ≤ (q28.2 134 6).toInt ∧ (q28.2 134 6).toInt ≤ 60 ∧ 1 ≤ (q28.2 134 7).toInt ∧ (q28.2 134 7).toInt ≤ 9)))) from ⟨hIq28, by omega, by omega, by omega⟩)
            · have rc58_ : ¬ q1.1.toInt = 107 := by rw [i_eq_iff] at c58_; omega
              exfalso; omega
  · have rc12_ : ¬ q1.1.toInt = 107 := by rw [i_eq_iff] at c12_; omega
    refine sf_bind (Q := fun (v3 : Int32) => (0 ≤ v3.toInt) ∧ (v3.toInt ≤ 1) ∧ (v3.toInt = 0 ∨ q1.1.toInt = 107 ∨ q1.1.toInt = 109 ∨ q1.1.toInt = 116)) ?_ (fun v3 hqv3 hvv3 => ?_)
    · refine sf_ite (fun c80_ => ?_) (fun c80_ => ?_)
      · have rc80_ : q1.1.toInt = 107 := by rw [i_eq_iff] at c80_; omega
        exact sf_some (show (0 ≤ (1 : Int32).toInt) ∧ ((1 : Int32).toInt ≤ 1) ∧ ((1 : Int32).toInt = 0 ∨ q1.1.toInt = 107 ∨ q1.1.toInt = 109 ∨ q1.1.toInt = 116) from ⟨by omega, by omega, by omega⟩)
      · have rc80_ : ¬ q1.1.toInt = 107 := by rw [i_eq_iff] at c80_; omega
        have l_109 : (109 : Int32).toInt = 109 := by decide
        refine sf_ite (fun c81_ => ?_) (fun c81_ => ?_)
        · have rc81_ : q1.1.toInt = 109 := by rw [i_eq_iff] at c81_; omega
          exact sf_some (show (0 ≤ (1 : Int32).toInt) ∧ ((1 : Int32).toInt ≤ 1) ∧ ((1 : Int32).toInt = 0 ∨ q1.1.toInt = 107 ∨ q1.1.toInt = 109 ∨ q1.1.toInt = 116) from ⟨by omega, by omega, by omega⟩)
        · have rc81_ : ¬ q1.1.toInt = 109 := by rw [i_eq_iff] at c81_; omega
          have l_116 : (116 : Int32).toInt = 116 := by decide
          refine sf_ite (fun c82_ => ?_) (fun c82_ => ?_)
          · have rc82_ : q1.1.toInt = 116 := by rw [i_eq_iff] at c82_; omega
            exact sf_some (show (0 ≤ (1 : Int32).toInt) ∧ ((1 : Int32).toInt ≤ 1) ∧ ((1 : Int32).toInt = 0 ∨ q1.1.toInt = 107 ∨ q1.1.toInt = 109 ∨ q1.1.toInt = 116) from ⟨by omega, by omega, by omega⟩)
          · have rc82_ : ¬ q1.1.toInt = 116 := by rw [i_eq_iff] at c82_; omega
            have l_0 : (0 : Int32).toInt = 0 := by decide
            exact sf_some (show (0 ≤ (0 : Int32).toInt) ∧ ((0 : Int32).toInt ≤ 1) ∧ ((0 : Int32).toInt = 0 ∨ q1.1.toInt = 107 ∨ q1.1.toInt = 109 ∨ q1.1.toInt = 116) from ⟨by omega, by omega, by omega⟩)
    · obtain ⟨hvv3_0, hvv3_1, hvv3_2⟩ := hvv3
      have l_0 : (0 : Int32).toInt = 0 := by decide
      refine sf_ite (fun c83_ => ?_) (fun c83_ => ?_)
      · have rc83_ : v3.toInt = 0 := by rw [i_eq_iff] at c83_; omega
        refine sf_bind (sf_X10_fails (1 : Int32) (q1.2 134 2) w2 hIw2 (by omega) (by omega)) (fun q4 hqq4 hpq4 => ?_)
        obtain ⟨hIq4, hpq4_0, hpq4_1⟩ := hpq4
        have h84_ : 0 ≤ (q4.2 134 2).toInt ∧ (q4.2 134 2).toInt ≤ 241 := iv_134_2 hIq4
        have k85_ : (q1.2 134 6).toInt = (w 134 6).toInt := congrArg Int32.toInt (fr_X10_nextLetter  w q1 hqq1 134 6 (by omega))
        have zz86_l : -2147483648 ≤ (q1.2 134 6).toInt := Int32.le_toInt (q1.2 134 6)
        have zz86_h : (q1.2 134 6).toInt ≤ 2147483647 := Int32.toInt_le (q1.2 134 6)
        have k87_ : (w2 134 6).toInt = (q1.2 134 6).toInt := by rw [ew2, wu_ne (by omega)]
        have zz88_l : -2147483648 ≤ (w2 134 6).toInt := Int32.le_toInt (w2 134 6)
        have zz88_h : (w2 134 6).toInt ≤ 2147483647 := Int32.toInt_le (w2 134 6)
        have k89_ : (q4.2 134 6).toInt = (w2 134 6).toInt := congrArg Int32.toInt (fr_X10_fails (1 : Int32) (q1.2 134 2) w2 q4 hqq4 134 6 (by omega))
        have zz90_l : -2147483648 ≤ (q4.2 134 6).toInt := Int32.le_toInt (q4.2 134 6)
        have zz90_h : (q4.2 134 6).toInt ≤ 2147483647 := Int32.toInt_le (q4.2 134 6)
        have k91_ : (q1.2 134 7).toInt = (w 134 7).toInt := congrArg Int32.toInt (fr_X10_nextLetter  w q1 hqq1 134 7 (by omega))
        have zz92_l : -2147483648 ≤ (q1.2 134 7).toInt := Int32.le_toInt (q1.2 134 7)
        have zz92_h : (q1.2 134 7).toInt ≤ 2147483647 := Int32.toInt_le (q1.2 134 7)
        have k93_ : (w2 134 7).toInt = (q1.2 134 7).toInt := by rw [ew2, wu_ne (by omega)]
        have zz94_l : -2147483648 ≤ (w2 134 7).toInt := Int32.le_toInt (w2 134 7)
        have zz94_h : (w2 134 7).toInt ≤ 2147483647 := Int32.toInt_le (w2 134 7)
        have k95_ : (q4.2 134 7).toInt = (w2 134 7).toInt := congrArg Int32.toInt (fr_X10_fails (1 : Int32) (q1.2 134 2) w2 q4 hqq4 134 7 (by omega))
        have zz96_l : -2147483648 ≤ (q4.2 134 7).toInt := Int32.le_toInt (q4.2 134 7)
        have zz96_h : (q4.2 134 7).toInt ≤ 2147483647 := Int32.toInt_le (q4.2 134 7)
        have h97_ : 0 ≤ (q4.2 134 8).toInt ∧ (q4.2 134 8).toInt ≤ 8 := iv_134_8 hIq4
        have h98_ : 0 ≤ (w2 134 8).toInt ∧ (w2 134 8).toInt ≤ 8 := iv_134_8 hIw2
        have h99_ : 0 ≤ (q1.2 134 8).toInt ∧ (q1.2 134 8).toInt ≤ 8 := iv_134_8 hIq1
        have k100_ : (q1.2 134 8).toInt = (w 134 8).toInt := congrArg Int32.toInt (fr_X10_nextLetter  w q1 hqq1 134 8 (by omega))
        have k101_ : (w2 134 8).toInt = (q1.2 134 8).toInt := by rw [ew2, wu_ne (by omega)]
        have k102_ : (q4.2 134 8).toInt = (w2 134 8).toInt := congrArg Int32.toInt (fr_X10_fails (1 : Int32) (q1.2 134 2) w2 q4 hqq4 134 8 (by omega))
        have h103_ : 0 ≤ (q4.2 134 9).toInt ∧ (q4.2 134 9).toInt ≤ 6 := iv_134_9 hIq4
        have h104_ : 0 ≤ (w2 134 9).toInt ∧ (w2 134 9).toInt ≤ 6 := iv_134_9 hIw2
        have h105_ : 0 ≤ (q1.2 134 9).toInt ∧ (q1.2 134 9).toInt ≤ 6 := iv_134_9 hIq1
        have k106_ : (q1.2 134 9).toInt = (w 134 9).toInt := congrArg Int32.toInt (fr_X10_nextLetter  w q1 hqq1 134 9 (by omega))
        have k107_ : (w2 134 9).toInt = (q1.2 134 9).toInt := by rw [ew2, wu_ne (by omega)]
        have k108_ : (q4.2 134 9).toInt = (w2 134 9).toInt := congrArg Int32.toInt (fr_X10_fails (1 : Int32) (q1.2 134 2) w2 q4 hqq4 134 9 (by omega))
        exact sf_some (show (Inv g q4.2) ∧ (0 ≤ (0 : Int32).toInt ∧ (0 : Int32).toInt ≤ 1) ∧ ((w 134 2).toInt ≤ (q4.2 134 2).toInt) ∧ ((0 : Int32).toInt = 0 ∨ ((w 134 2).toInt < (q4.2 134 2).toInt ∧ (((q4.2 134 6).toInt = 0 ∧ (q4.2 134 7).toInt = 0 ∧ (q4.2 134 8).toInt = 0 ∧ (q4.2 134 9).toInt = 0) ∨ (1 ≤ (q4.2 134 6).toInt ∧ (q4.2 134 6).toInt ≤ 60 ∧ 1 ≤ (q4.2 134 7).toInt ∧ (q4.2 134 7).toInt ≤ 9)))) from ⟨hIq4, by omega, by omega, by omega⟩)
      · have rc83_ : ¬ v3.toInt = 0 := by rw [i_eq_iff] at c83_; omega
        have k109_ : (q1.2 134 7).toInt = (w 134 7).toInt := congrArg Int32.toInt (fr_X10_nextLetter  w q1 hqq1 134 7 (by omega))
        have zz110_l : -2147483648 ≤ (q1.2 134 7).toInt := Int32.le_toInt (q1.2 134 7)
        have zz110_h : (q1.2 134 7).toInt ≤ 2147483647 := Int32.toInt_le (q1.2 134 7)
        have k111_ : (w2 134 7).toInt = (q1.2 134 7).toInt := by rw [ew2, wu_ne (by omega)]
        have zz112_l : -2147483648 ≤ (w2 134 7).toInt := Int32.le_toInt (w2 134 7)
        have zz112_h : (w2 134 7).toInt ≤ 2147483647 := Int32.toInt_le (w2 134 7)
        refine sf_ite (fun c113_ => ?_) (fun c113_ => ?_)
        · have rc113_ : (w2 134 7).toInt = 0 := by rw [i_eq_iff] at c113_; omega
          refine sf_bind (sf_X10_fails (1 : Int32) (q1.2 134 2) w2 hIw2 (by omega) (by omega)) (fun q25 hqq25 hpq25 => ?_)
          obtain ⟨hIq25, hpq25_0, hpq25_1⟩ := hpq25
          have h114_ : 0 ≤ (q25.2 134 2).toInt ∧ (q25.2 134 2).toInt ≤ 241 := iv_134_2 hIq25
          have k115_ : (q1.2 134 6).toInt = (w 134 6).toInt := congrArg Int32.toInt (fr_X10_nextLetter  w q1 hqq1 134 6 (by omega))
          have zz116_l : -2147483648 ≤ (q1.2 134 6).toInt := Int32.le_toInt (q1.2 134 6)
          have zz116_h : (q1.2 134 6).toInt ≤ 2147483647 := Int32.toInt_le (q1.2 134 6)
          have k117_ : (w2 134 6).toInt = (q1.2 134 6).toInt := by rw [ew2, wu_ne (by omega)]
          have zz118_l : -2147483648 ≤ (w2 134 6).toInt := Int32.le_toInt (w2 134 6)
          have zz118_h : (w2 134 6).toInt ≤ 2147483647 := Int32.toInt_le (w2 134 6)
          have k119_ : (q25.2 134 6).toInt = (w2 134 6).toInt := congrArg Int32.toInt (fr_X10_fails (1 : Int32) (q1.2 134 2) w2 q25 hqq25 134 6 (by omega))
          have zz120_l : -2147483648 ≤ (q25.2 134 6).toInt := Int32.le_toInt (q25.2 134 6)
          have zz120_h : (q25.2 134 6).toInt ≤ 2147483647 := Int32.toInt_le (q25.2 134 6)
          have k121_ : (q25.2 134 7).toInt = (w2 134 7).toInt := congrArg Int32.toInt (fr_X10_fails (1 : Int32) (q1.2 134 2) w2 q25 hqq25 134 7 (by omega))
          have h122_ : 0 ≤ (q25.2 134 8).toInt ∧ (q25.2 134 8).toInt ≤ 8 := iv_134_8 hIq25
          have h123_ : 0 ≤ (w2 134 8).toInt ∧ (w2 134 8).toInt ≤ 8 := iv_134_8 hIw2
          have h124_ : 0 ≤ (q1.2 134 8).toInt ∧ (q1.2 134 8).toInt ≤ 8 := iv_134_8 hIq1
          have k125_ : (q1.2 134 8).toInt = (w 134 8).toInt := congrArg Int32.toInt (fr_X10_nextLetter  w q1 hqq1 134 8 (by omega))
          have k126_ : (w2 134 8).toInt = (q1.2 134 8).toInt := by rw [ew2, wu_ne (by omega)]
          have k127_ : (q25.2 134 8).toInt = (w2 134 8).toInt := congrArg Int32.toInt (fr_X10_fails (1 : Int32) (q1.2 134 2) w2 q25 hqq25 134 8 (by omega))
          have h128_ : 0 ≤ (q25.2 134 9).toInt ∧ (q25.2 134 9).toInt ≤ 6 := iv_134_9 hIq25
          have h129_ : 0 ≤ (w2 134 9).toInt ∧ (w2 134 9).toInt ≤ 6 := iv_134_9 hIw2
          have h130_ : 0 ≤ (q1.2 134 9).toInt ∧ (q1.2 134 9).toInt ≤ 6 := iv_134_9 hIq1
          have k131_ : (q1.2 134 9).toInt = (w 134 9).toInt := congrArg Int32.toInt (fr_X10_nextLetter  w q1 hqq1 134 9 (by omega))
          have k132_ : (w2 134 9).toInt = (q1.2 134 9).toInt := by rw [ew2, wu_ne (by omega)]
          have k133_ : (q25.2 134 9).toInt = (w2 134 9).toInt := congrArg Int32.toInt (fr_X10_fails (1 : Int32) (q1.2 134 2) w2 q25 hqq25 134 9 (by omega))
          exact sf_some (show (Inv g q25.2) ∧ (0 ≤ (0 : Int32).toInt ∧ (0 : Int32).toInt ≤ 1) ∧ ((w 134 2).toInt ≤ (q25.2 134 2).toInt) ∧ ((0 : Int32).toInt = 0 ∨ ((w 134 2).toInt < (q25.2 134 2).toInt ∧ (((q25.2 134 6).toInt = 0 ∧ (q25.2 134 7).toInt = 0 ∧ (q25.2 134 8).toInt = 0 ∧ (q25.2 134 9).toInt = 0) ∨ (1 ≤ (q25.2 134 6).toInt ∧ (q25.2 134 6).toInt ≤ 60 ∧ 1 ≤ (q25.2 134 7).toInt ∧ (q25.2 134 7).toInt ≤ 9)))) from ⟨hIq25, by omega, by omega, by omega⟩)
        · have rc113_ : ¬ (w2 134 7).toInt = 0 := by rw [i_eq_iff] at c113_; omega
          refine sf_ite (fun c134_ => ?_) (fun c134_ => ?_)
          · have rc134_ : q1.1.toInt = 107 := by rw [i_eq_iff] at c134_; omega
            have l_3 : (3 : Int32).toInt = 3 := by decide
            refine sf_bind (sf_X10_fails (3 : Int32) (q1.2 134 2) w2 hIw2 (by omega) (by omega)) (fun q5 hqq5 hpq5 => ?_)
            obtain ⟨hIq5, hpq5_0, hpq5_1⟩ := hpq5
            have h135_ : 0 ≤ (q5.2 134 2).toInt ∧ (q5.2 134 2).toInt ≤ 241 := iv_134_2 hIq5
            have k136_ : (q1.2 134 6).toInt = (w 134 6).toInt := congrArg Int32.toInt (fr_X10_nextLetter  w q1 hqq1 134 6 (by omega))
            have zz137_l : -2147483648 ≤ (q1.2 134 6).toInt := Int32.le_toInt (q1.2 134 6)
            have zz137_h : (q1.2 134 6).toInt ≤ 2147483647 := Int32.toInt_le (q1.2 134 6)
            have k138_ : (w2 134 6).toInt = (q1.2 134 6).toInt := by rw [ew2, wu_ne (by omega)]
            have zz139_l : -2147483648 ≤ (w2 134 6).toInt := Int32.le_toInt (w2 134 6)
            have zz139_h : (w2 134 6).toInt ≤ 2147483647 := Int32.toInt_le (w2 134 6)
            have k140_ : (q5.2 134 6).toInt = (w2 134 6).toInt := congrArg Int32.toInt (fr_X10_fails (3 : Int32) (q1.2 134 2) w2 q5 hqq5 134 6 (by omega))
            have zz141_l : -2147483648 ≤ (q5.2 134 6).toInt := Int32.le_toInt (q5.2 134 6)
            have zz141_h : (q5.2 134 6).toInt ≤ 2147483647 := Int32.toInt_le (q5.2 134 6)
            have k142_ : (q5.2 134 7).toInt = (w2 134 7).toInt := congrArg Int32.toInt (fr_X10_fails (3 : Int32) (q1.2 134 2) w2 q5 hqq5 134 7 (by omega))
            have zz143_l : -2147483648 ≤ (q5.2 134 7).toInt := Int32.le_toInt (q5.2 134 7)
            have zz143_h : (q5.2 134 7).toInt ≤ 2147483647 := Int32.toInt_le (q5.2 134 7)
            have h144_ : 0 ≤ (q5.2 134 8).toInt ∧ (q5.2 134 8).toInt ≤ 8 := iv_134_8 hIq5
            have h145_ : 0 ≤ (w2 134 8).toInt ∧ (w2 134 8).toInt ≤ 8 := iv_134_8 hIw2
            have h146_ : 0 ≤ (q1.2 134 8).toInt ∧ (q1.2 134 8).toInt ≤ 8 := iv_134_8 hIq1
            have k147_ : (q1.2 134 8).toInt = (w 134 8).toInt := congrArg Int32.toInt (fr_X10_nextLetter  w q1 hqq1 134 8 (by omega))
            have k148_ : (w2 134 8).toInt = (q1.2 134 8).toInt := by rw [ew2, wu_ne (by omega)]
            have k149_ : (q5.2 134 8).toInt = (w2 134 8).toInt := congrArg Int32.toInt (fr_X10_fails (3 : Int32) (q1.2 134 2) w2 q5 hqq5 134 8 (by omega))
            have h150_ : 0 ≤ (q5.2 134 9).toInt ∧ (q5.2 134 9).toInt ≤ 6 := iv_134_9 hIq5
            have h151_ : 0 ≤ (w2 134 9).toInt ∧ (w2 134 9).toInt ≤ 6 := iv_134_9 hIw2
            have h152_ : 0 ≤ (q1.2 134 9).toInt ∧ (q1.2 134 9).toInt ≤ 6 := iv_134_9 hIq1
            have k153_ : (q1.2 134 9).toInt = (w 134 9).toInt := congrArg Int32.toInt (fr_X10_nextLetter  w q1 hqq1 134 9 (by omega))
            have k154_ : (w2 134 9).toInt = (q1.2 134 9).toInt := by rw [ew2, wu_ne (by omega)]
            have k155_ : (q5.2 134 9).toInt = (w2 134 9).toInt := congrArg Int32.toInt (fr_X10_fails (3 : Int32) (q1.2 134 2) w2 q5 hqq5 134 9 (by omega))
            exact sf_some (show (Inv g q5.2) ∧ (0 ≤ (0 : Int32).toInt ∧ (0 : Int32).toInt ≤ 1) ∧ ((w 134 2).toInt ≤ (q5.2 134 2).toInt) ∧ ((0 : Int32).toInt = 0 ∨ ((w 134 2).toInt < (q5.2 134 2).toInt ∧ (((q5.2 134 6).toInt = 0 ∧ (q5.2 134 7).toInt = 0 ∧ (q5.2 134 8).toInt = 0 ∧ (q5.2 134 9).toInt = 0) ∨ (1 ≤ (q5.2 134 6).toInt ∧ (q5.2 134 6).toInt ≤ 60 ∧ 1 ≤ (q5.2 134 7).toInt ∧ (q5.2 134 7).toInt ≤ 9)))) from ⟨hIq5, by omega, by omega, by omega⟩)
          · have rc134_ : ¬ q1.1.toInt = 107 := by rw [i_eq_iff] at c134_; omega
            have l_109 : (109 : Int32).toInt = 109 := by decide
            refine sf_ite (fun c156_ => ?_) (fun c156_ => ?_)
            · have rc156_ : q1.1.toInt = 109 := by rw [i_eq_iff] at c156_; omega
              have h157_ : 0 ≤ (w2 134 8).toInt ∧ (w2 134 8).toInt ≤ 8 := iv_134_8 hIw2
              have h158_ : 0 ≤ (q1.2 134 8).toInt ∧ (q1.2 134 8).toInt ≤ 8 := iv_134_8 hIq1
              have k159_ : (q1.2 134 8).toInt = (w 134 8).toInt := congrArg Int32.toInt (fr_X10_nextLetter  w q1 hqq1 134 8 (by omega))
              have k160_ : (w2 134 8).toInt = (q1.2 134 8).toInt := by rw [ew2, wu_ne (by omega)]
              have l_8 : (8 : Int32).toInt = 8 := by decide
              refine sf_ite (fun c161_ => ?_) (fun c161_ => ?_)
              · have rc161_ : (w2 134 8).toInt = 8 := by rw [i_eq_iff] at c161_; omega
                have l_3 : (3 : Int32).toInt = 3 := by decide
                refine sf_bind (sf_X10_fails (3 : Int32) (q1.2 134 2) w2 hIw2 (by omega) (by omega)) (fun q15 hqq15 hpq15 => ?_)
                obtain ⟨hIq15, hpq15_0, hpq15_1⟩ := hpq15
                have h162_ : 0 ≤ (q15.2 134 2).toInt ∧ (q15.2 134 2).toInt ≤ 241 := iv_134_2 hIq15
                have k163_ : (q1.2 134 6).toInt = (w 134 6).toInt := congrArg Int32.toInt (fr_X10_nextLetter  w q1 hqq1 134 6 (by omega))
                have zz164_l : -2147483648 ≤ (q1.2 134 6).toInt := Int32.le_toInt (q1.2 134 6)
                have zz164_h : (q1.2 134 6).toInt ≤ 2147483647 := Int32.toInt_le (q1.2 134 6)
                have k165_ : (w2 134 6).toInt = (q1.2 134 6).toInt := by rw [ew2, wu_ne (by omega)]
                have zz166_l : -2147483648 ≤ (w2 134 6).toInt := Int32.le_toInt (w2 134 6)
                have zz166_h : (w2 134 6).toInt ≤ 2147483647 := Int32.toInt_le (w2 134 6)
                have k167_ : (q15.2 134 6).toInt = (w2 134 6).toInt := congrArg Int32.toInt (fr_X10_fails (3 : Int32) (q1.2 134 2) w2 q15 hqq15 134 6 (by omega))
                have zz168_l : -2147483648 ≤ (q15.2 134 6).toInt := Int32.le_toInt (q15.2 134 6)
                have zz168_h : (q15.2 134 6).toInt ≤ 2147483647 := Int32.toInt_le (q15.2 134 6)
                have k169_ : (q15.2 134 7).toInt = (w2 134 7).toInt := congrArg Int32.toInt (fr_X10_fails (3 : Int32) (q1.2 134 2) w2 q15 hqq15 134 7 (by omega))
                have zz170_l : -2147483648 ≤ (q15.2 134 7).toInt := Int32.le_toInt (q15.2 134 7)
                have zz170_h : (q15.2 134 7).toInt ≤ 2147483647 := Int32.toInt_le (q15.2 134 7)
                have h171_ : 0 ≤ (q15.2 134 8).toInt ∧ (q15.2 134 8).toInt ≤ 8 := iv_134_8 hIq15
                have k172_ : (q15.2 134 8).toInt = (w2 134 8).toInt := congrArg Int32.toInt (fr_X10_fails (3 : Int32) (q1.2 134 2) w2 q15 hqq15 134 8 (by omega))
                have h173_ : 0 ≤ (q15.2 134 9).toInt ∧ (q15.2 134 9).toInt ≤ 6 := iv_134_9 hIq15
                have h174_ : 0 ≤ (w2 134 9).toInt ∧ (w2 134 9).toInt ≤ 6 := iv_134_9 hIw2
                have h175_ : 0 ≤ (q1.2 134 9).toInt ∧ (q1.2 134 9).toInt ≤ 6 := iv_134_9 hIq1
                have k176_ : (q1.2 134 9).toInt = (w 134 9).toInt := congrArg Int32.toInt (fr_X10_nextLetter  w q1 hqq1 134 9 (by omega))
                have k177_ : (w2 134 9).toInt = (q1.2 134 9).toInt := by rw [ew2, wu_ne (by omega)]
                have k178_ : (q15.2 134 9).toInt = (w2 134 9).toInt := congrArg Int32.toInt (fr_X10_fails (3 : Int32) (q1.2 134 2) w2 q15 hqq15 134 9 (by omega))
                exact sf_some (show (Inv g q15.2) ∧ (0 ≤ (0 : Int32).toInt ∧ (0 : Int32).toInt ≤ 1) ∧ ((w 134 2).toInt ≤ (q15.2 134 2).toInt) ∧ ((0 : Int32).toInt = 0 ∨ ((w 134 2).toInt < (q15.2 134 2).toInt ∧ (((q15.2 134 6).toInt = 0 ∧ (q15.2 134 7).toInt = 0 ∧ (q15.2 134 8).toInt = 0 ∧ (q15.2 134 9).toInt = 0) ∨ (1 ≤ (q15.2 134 6).toInt ∧ (q15.2 134 6).toInt ≤ 60 ∧ 1 ≤ (q15.2 134 7).toInt ∧ (q15.2 134 7).toInt ≤ 9)))) from ⟨hIq15, by omega, by omega, by omega⟩)
              · have rc161_ : ¬ (w2 134 8).toInt = 8 := by rw [i_eq_iff] at c161_; omega
                have l_116 : (116 : Int32).toInt = 116 := by decide
                refine sf_ite (fun c179_ => ?_) (fun c179_ => ?_)
                · have rc179_ : q1.1.toInt = 116 := by rw [i_eq_iff] at c179_; omega
                  exfalso; omega
                · have rc179_ : ¬ q1.1.toInt = 116 := by rw [i_eq_iff] at c179_; omega
                  refine sf_ite (fun c180_ => ?_) (fun c180_ => ?_)
                  · have rc180_ : q1.1.toInt = 109 := by rw [i_eq_iff] at c180_; omega
                    refine sf_bind (sf_X10_readsMatter  w2 hIw2 (by omega)) (fun q18 hqq18 hpq18 => ?_)
                    obtain ⟨hIq18, hpq18_0, hpq18_1⟩ := hpq18
                    have h181_ : 0 ≤ (w2 134 2).toInt ∧ (w2 134 2).toInt ≤ 241 := iv_134_2 hIw2
                    have k182_ : (w2 134 2).toInt = ((q1.2 134 2) + (1 : Int32)).toInt := by rw [ew2, wu_at]
                    have h183_ : 0 ≤ (q18.2 134 2).toInt ∧ (q18.2 134 2).toInt ≤ 241 := iv_134_2 hIq18
                    refine sf_zr (i_z01 (by omega) (by omega)) ?_
                    have k184_ : (q1.2 134 6).toInt = (w 134 6).toInt := congrArg Int32.toInt (fr_X10_nextLetter  w q1 hqq1 134 6 (by omega))
                    have zz185_l : -2147483648 ≤ (q1.2 134 6).toInt := Int32.le_toInt (q1.2 134 6)
                    have zz185_h : (q1.2 134 6).toInt ≤ 2147483647 := Int32.toInt_le (q1.2 134 6)
                    have k186_ : (w2 134 6).toInt = (q1.2 134 6).toInt := by rw [ew2, wu_ne (by omega)]
                    have zz187_l : -2147483648 ≤ (w2 134 6).toInt := Int32.le_toInt (w2 134 6)
                    have zz187_h : (w2 134 6).toInt ≤ 2147483647 := Int32.toInt_le (w2 134 6)
                    have k188_ : (q18.2 134 6).toInt = (w2 134 6).toInt := congrArg Int32.toInt (fr_X10_readsMatter  w2 q18 hqq18 134 6 (by omega))
                    have zz189_l : -2147483648 ≤ (q18.2 134 6).toInt := Int32.le_toInt (q18.2 134 6)
                    have zz189_h : (q18.2 134 6).toInt ≤ 2147483647 := Int32.toInt_le (q18.2 134 6)
                    have k190_ : (q18.2 134 7).toInt = (w2 134 7).toInt := congrArg Int32.toInt (fr_X10_readsMatter  w2 q18 hqq18 134 7 (by omega))
                    have zz191_l : -2147483648 ≤ (q18.2 134 7).toInt := Int32.le_toInt (q18.2 134 7)
                    have zz191_h : (q18.2 134 7).toInt ≤ 2147483647 := Int32.toInt_le (q18.2 134 7)
                    have h192_ : 0 ≤ (q18.2 134 8).toInt ∧ (q18.2 134 8).toInt ≤ 8 := iv_134_8 hIq18
                    have h193_ : 0 ≤ (q18.2 134 9).toInt ∧ (q18.2 134 9).toInt ≤ 6 := iv_134_9 hIq18
                    have h194_ : 0 ≤ (w2 134 9).toInt ∧ (w2 134 9).toInt ≤ 6 := iv_134_9 hIw2
                    have h195_ : 0 ≤ (q1.2 134 9).toInt ∧ (q1.2 134 9).toInt ≤ 6 := iv_134_9 hIq1
                    have k196_ : (q1.2 134 9).toInt = (w 134 9).toInt := congrArg Int32.toInt (fr_X10_nextLetter  w q1 hqq1 134 9 (by omega))
                    have k197_ : (w2 134 9).toInt = (q1.2 134 9).toInt := by rw [ew2, wu_ne (by omega)]
                    have k198_ : (q18.2 134 9).toInt = (w2 134 9).toInt := congrArg Int32.toInt (fr_X10_readsMatter  w2 q18 hqq18 134 9 (by omega))
                    exact sf_some (show (Inv g q18.2) ∧ (0 ≤ q18.1.toInt ∧ q18.1.toInt ≤ 1) ∧ ((w 134 2).toInt ≤ (q18.2 134 2).toInt) ∧ (q18.1.toInt = 0 ∨ ((w 134 2).toInt < (q18.2 134 2).toInt ∧ (((q18.2 134 6).toInt = 0 ∧ (q18.2 134 7).toInt = 0 ∧ (q18.2 134 8).toInt = 0 ∧ (q18.2 134 9).toInt = 0) ∨ (1 ≤ (q18.2 134 6).toInt ∧ (q18.2 134 6).toInt ≤ 60 ∧ 1 ≤ (q18.2 134 7).toInt ∧ (q18.2 134 7).toInt ≤ 9)))) from ⟨hIq18, by omega, by omega, by omega⟩)
                  · have rc180_ : ¬ q1.1.toInt = 109 := by rw [i_eq_iff] at c180_; omega
                    exfalso; omega
            · have rc156_ : ¬ q1.1.toInt = 109 := by rw [i_eq_iff] at c156_; omega
              have l_116 : (116 : Int32).toInt = 116 := by decide
              refine sf_ite (fun c199_ => ?_) (fun c199_ => ?_)
              · have rc199_ : q1.1.toInt = 116 := by rw [i_eq_iff] at c199_; omega
                have h200_ : 0 ≤ (w2 134 9).toInt ∧ (w2 134 9).toInt ≤ 6 := iv_134_9 hIw2
                have h201_ : 0 ≤ (q1.2 134 9).toInt ∧ (q1.2 134 9).toInt ≤ 6 := iv_134_9 hIq1
                have k202_ : (q1.2 134 9).toInt = (w 134 9).toInt := congrArg Int32.toInt (fr_X10_nextLetter  w q1 hqq1 134 9 (by omega))
                have k203_ : (w2 134 9).toInt = (q1.2 134 9).toInt := by rw [ew2, wu_ne (by omega)]
                have l_6 : (6 : Int32).toInt = 6 := by decide
                refine sf_ite (fun c204_ => ?_) (fun c204_ => ?_)
                · have rc204_ : (w2 134 9).toInt = 6 := by rw [i_eq_iff] at c204_; omega
                  have l_3 : (3 : Int32).toInt = 3 := by decide
                  refine sf_bind (sf_X10_fails (3 : Int32) (q1.2 134 2) w2 hIw2 (by omega) (by omega)) (fun q14 hqq14 hpq14 => ?_)
                  obtain ⟨hIq14, hpq14_0, hpq14_1⟩ := hpq14
                  have h205_ : 0 ≤ (q14.2 134 2).toInt ∧ (q14.2 134 2).toInt ≤ 241 := iv_134_2 hIq14
                  have k206_ : (q1.2 134 6).toInt = (w 134 6).toInt := congrArg Int32.toInt (fr_X10_nextLetter  w q1 hqq1 134 6 (by omega))
                  have zz207_l : -2147483648 ≤ (q1.2 134 6).toInt := Int32.le_toInt (q1.2 134 6)
                  have zz207_h : (q1.2 134 6).toInt ≤ 2147483647 := Int32.toInt_le (q1.2 134 6)
                  have k208_ : (w2 134 6).toInt = (q1.2 134 6).toInt := by rw [ew2, wu_ne (by omega)]
                  have zz209_l : -2147483648 ≤ (w2 134 6).toInt := Int32.le_toInt (w2 134 6)
                  have zz209_h : (w2 134 6).toInt ≤ 2147483647 := Int32.toInt_le (w2 134 6)
                  have k210_ : (q14.2 134 6).toInt = (w2 134 6).toInt := congrArg Int32.toInt (fr_X10_fails (3 : Int32) (q1.2 134 2) w2 q14 hqq14 134 6 (by omega))
                  have zz211_l : -2147483648 ≤ (q14.2 134 6).toInt := Int32.le_toInt (q14.2 134 6)
                  have zz211_h : (q14.2 134 6).toInt ≤ 2147483647 := Int32.toInt_le (q14.2 134 6)
                  have k212_ : (q14.2 134 7).toInt = (w2 134 7).toInt := congrArg Int32.toInt (fr_X10_fails (3 : Int32) (q1.2 134 2) w2 q14 hqq14 134 7 (by omega))
                  have zz213_l : -2147483648 ≤ (q14.2 134 7).toInt := Int32.le_toInt (q14.2 134 7)
                  have zz213_h : (q14.2 134 7).toInt ≤ 2147483647 := Int32.toInt_le (q14.2 134 7)
                  have h214_ : 0 ≤ (q14.2 134 8).toInt ∧ (q14.2 134 8).toInt ≤ 8 := iv_134_8 hIq14
                  have h215_ : 0 ≤ (w2 134 8).toInt ∧ (w2 134 8).toInt ≤ 8 := iv_134_8 hIw2
                  have h216_ : 0 ≤ (q1.2 134 8).toInt ∧ (q1.2 134 8).toInt ≤ 8 := iv_134_8 hIq1
                  have k217_ : (q1.2 134 8).toInt = (w 134 8).toInt := congrArg Int32.toInt (fr_X10_nextLetter  w q1 hqq1 134 8 (by omega))
                  have k218_ : (w2 134 8).toInt = (q1.2 134 8).toInt := by rw [ew2, wu_ne (by omega)]
                  have k219_ : (q14.2 134 8).toInt = (w2 134 8).toInt := congrArg Int32.toInt (fr_X10_fails (3 : Int32) (q1.2 134 2) w2 q14 hqq14 134 8 (by omega))
                  have h220_ : 0 ≤ (q14.2 134 9).toInt ∧ (q14.2 134 9).toInt ≤ 6 := iv_134_9 hIq14
                  have k221_ : (q14.2 134 9).toInt = (w2 134 9).toInt := congrArg Int32.toInt (fr_X10_fails (3 : Int32) (q1.2 134 2) w2 q14 hqq14 134 9 (by omega))
                  exact sf_some (show (Inv g q14.2) ∧ (0 ≤ (0 : Int32).toInt ∧ (0 : Int32).toInt ≤ 1) ∧ ((w 134 2).toInt ≤ (q14.2 134 2).toInt) ∧ ((0 : Int32).toInt = 0 ∨ ((w 134 2).toInt < (q14.2 134 2).toInt ∧ (((q14.2 134 6).toInt = 0 ∧ (q14.2 134 7).toInt = 0 ∧ (q14.2 134 8).toInt = 0 ∧ (q14.2 134 9).toInt = 0) ∨ (1 ≤ (q14.2 134 6).toInt ∧ (q14.2 134 6).toInt ≤ 60 ∧ 1 ≤ (q14.2 134 7).toInt ∧ (q14.2 134 7).toInt ≤ 9)))) from ⟨hIq14, by omega, by omega, by omega⟩)
                · have rc204_ : ¬ (w2 134 9).toInt = 6 := by rw [i_eq_iff] at c204_; omega
                  refine sf_ite (fun c222_ => ?_) (fun c222_ => ?_)
                  · have rc222_ : q1.1.toInt = 109 := by rw [i_eq_iff] at c222_; omega
                    exfalso; omega
                  · have rc222_ : ¬ q1.1.toInt = 109 := by rw [i_eq_iff] at c222_; omega
                    refine sf_bind (sf_X10_readsTraveller  w2 hIw2 (by omega)) (fun q10 hqq10 hpq10 => ?_)
                    obtain ⟨hIq10, hpq10_0, hpq10_1⟩ := hpq10
                    have h223_ : 0 ≤ (w2 134 2).toInt ∧ (w2 134 2).toInt ≤ 241 := iv_134_2 hIw2
                    have k224_ : (w2 134 2).toInt = ((q1.2 134 2) + (1 : Int32)).toInt := by rw [ew2, wu_at]
                    have h225_ : 0 ≤ (q10.2 134 2).toInt ∧ (q10.2 134 2).toInt ≤ 241 := iv_134_2 hIq10
                    refine sf_zr (i_z01 (by omega) (by omega)) ?_
                    have k226_ : (q1.2 134 6).toInt = (w 134 6).toInt := congrArg Int32.toInt (fr_X10_nextLetter  w q1 hqq1 134 6 (by omega))
                    have zz227_l : -2147483648 ≤ (q1.2 134 6).toInt := Int32.le_toInt (q1.2 134 6)
                    have zz227_h : (q1.2 134 6).toInt ≤ 2147483647 := Int32.toInt_le (q1.2 134 6)
                    have k228_ : (w2 134 6).toInt = (q1.2 134 6).toInt := by rw [ew2, wu_ne (by omega)]
                    have zz229_l : -2147483648 ≤ (w2 134 6).toInt := Int32.le_toInt (w2 134 6)
                    have zz229_h : (w2 134 6).toInt ≤ 2147483647 := Int32.toInt_le (w2 134 6)
                    have k230_ : (q10.2 134 6).toInt = (w2 134 6).toInt := congrArg Int32.toInt (fr_X10_readsTraveller  w2 q10 hqq10 134 6 (by omega))
                    have zz231_l : -2147483648 ≤ (q10.2 134 6).toInt := Int32.le_toInt (q10.2 134 6)
                    have zz231_h : (q10.2 134 6).toInt ≤ 2147483647 := Int32.toInt_le (q10.2 134 6)
                    have k232_ : (q10.2 134 7).toInt = (w2 134 7).toInt := congrArg Int32.toInt (fr_X10_readsTraveller  w2 q10 hqq10 134 7 (by omega))
                    have zz233_l : -2147483648 ≤ (q10.2 134 7).toInt := Int32.le_toInt (q10.2 134 7)
                    have zz233_h : (q10.2 134 7).toInt ≤ 2147483647 := Int32.toInt_le (q10.2 134 7)
                    have h234_ : 0 ≤ (q10.2 134 8).toInt ∧ (q10.2 134 8).toInt ≤ 8 := iv_134_8 hIq10
                    have h235_ : 0 ≤ (w2 134 8).toInt ∧ (w2 134 8).toInt ≤ 8 := iv_134_8 hIw2
                    have h236_ : 0 ≤ (q1.2 134 8).toInt ∧ (q1.2 134 8).toInt ≤ 8 := iv_134_8 hIq1
                    have k237_ : (q1.2 134 8).toInt = (w 134 8).toInt := congrArg Int32.toInt (fr_X10_nextLetter  w q1 hqq1 134 8 (by omega))
                    have k238_ : (w2 134 8).toInt = (q1.2 134 8).toInt := by rw [ew2, wu_ne (by omega)]
                    have k239_ : (q10.2 134 8).toInt = (w2 134 8).toInt := congrArg Int32.toInt (fr_X10_readsTraveller  w2 q10 hqq10 134 8 (by omega))
                    have h240_ : 0 ≤ (q10.2 134 9).toInt ∧ (q10.2 134 9).toInt ≤ 6 := iv_134_9 hIq10
                    exact sf_some (show (Inv g q10.2) ∧ (0 ≤ q10.1.toInt ∧ q10.1.toInt ≤ 1) ∧ ((w 134 2).toInt ≤ (q10.2 134 2).toInt) ∧ (q10.1.toInt = 0 ∨ ((w 134 2).toInt < (q10.2 134 2).toInt ∧ (((q10.2 134 6).toInt = 0 ∧ (q10.2 134 7).toInt = 0 ∧ (q10.2 134 8).toInt = 0 ∧ (q10.2 134 9).toInt = 0) ∨ (1 ≤ (q10.2 134 6).toInt ∧ (q10.2 134 6).toInt ≤ 60 ∧ 1 ≤ (q10.2 134 7).toInt ∧ (q10.2 134 7).toInt ≤ 9)))) from ⟨hIq10, by omega, by omega, by omega⟩)
              · have rc199_ : ¬ q1.1.toInt = 116 := by rw [i_eq_iff] at c199_; omega
                refine sf_ite (fun c241_ => ?_) (fun c241_ => ?_)
                · have rc241_ : q1.1.toInt = 109 := by rw [i_eq_iff] at c241_; omega
                  have h242_ : 0 ≤ (w2 134 8).toInt ∧ (w2 134 8).toInt ≤ 8 := iv_134_8 hIw2
                  have h243_ : 0 ≤ (q1.2 134 8).toInt ∧ (q1.2 134 8).toInt ≤ 8 := iv_134_8 hIq1
                  have k244_ : (q1.2 134 8).toInt = (w 134 8).toInt := congrArg Int32.toInt (fr_X10_nextLetter  w q1 hqq1 134 8 (by omega))
                  have k245_ : (w2 134 8).toInt = (q1.2 134 8).toInt := by rw [ew2, wu_ne (by omega)]
                  refine sf_bind (sf_X10_readsMatter  w2 hIw2 (by omega)) (fun q8 hqq8 hpq8 => ?_)
                  obtain ⟨hIq8, hpq8_0, hpq8_1⟩ := hpq8
                  have h246_ : 0 ≤ (w2 134 2).toInt ∧ (w2 134 2).toInt ≤ 241 := iv_134_2 hIw2
                  have k247_ : (w2 134 2).toInt = ((q1.2 134 2) + (1 : Int32)).toInt := by rw [ew2, wu_at]
                  have h248_ : 0 ≤ (q8.2 134 2).toInt ∧ (q8.2 134 2).toInt ≤ 241 := iv_134_2 hIq8
                  refine sf_zr (i_z01 (by omega) (by omega)) ?_
                  have k249_ : (q1.2 134 6).toInt = (w 134 6).toInt := congrArg Int32.toInt (fr_X10_nextLetter  w q1 hqq1 134 6 (by omega))
                  have zz250_l : -2147483648 ≤ (q1.2 134 6).toInt := Int32.le_toInt (q1.2 134 6)
                  have zz250_h : (q1.2 134 6).toInt ≤ 2147483647 := Int32.toInt_le (q1.2 134 6)
                  have k251_ : (w2 134 6).toInt = (q1.2 134 6).toInt := by rw [ew2, wu_ne (by omega)]
                  have zz252_l : -2147483648 ≤ (w2 134 6).toInt := Int32.le_toInt (w2 134 6)
                  have zz252_h : (w2 134 6).toInt ≤ 2147483647 := Int32.toInt_le (w2 134 6)
                  have k253_ : (q8.2 134 6).toInt = (w2 134 6).toInt := congrArg Int32.toInt (fr_X10_readsMatter  w2 q8 hqq8 134 6 (by omega))
                  have zz254_l : -2147483648 ≤ (q8.2 134 6).toInt := Int32.le_toInt (q8.2 134 6)
                  have zz254_h : (q8.2 134 6).toInt ≤ 2147483647 := Int32.toInt_le (q8.2 134 6)
                  have k255_ : (q8.2 134 7).toInt = (w2 134 7).toInt := congrArg Int32.toInt (fr_X10_readsMatter  w2 q8 hqq8 134 7 (by omega))
                  have zz256_l : -2147483648 ≤ (q8.2 134 7).toInt := Int32.le_toInt (q8.2 134 7)
                  have zz256_h : (q8.2 134 7).toInt ≤ 2147483647 := Int32.toInt_le (q8.2 134 7)
                  have h257_ : 0 ≤ (q8.2 134 8).toInt ∧ (q8.2 134 8).toInt ≤ 8 := iv_134_8 hIq8
                  have h258_ : 0 ≤ (q8.2 134 9).toInt ∧ (q8.2 134 9).toInt ≤ 6 := iv_134_9 hIq8
                  have h259_ : 0 ≤ (w2 134 9).toInt ∧ (w2 134 9).toInt ≤ 6 := iv_134_9 hIw2
                  have h260_ : 0 ≤ (q1.2 134 9).toInt ∧ (q1.2 134 9).toInt ≤ 6 := iv_134_9 hIq1
                  have k261_ : (q1.2 134 9).toInt = (w 134 9).toInt := congrArg Int32.toInt (fr_X10_nextLetter  w q1 hqq1 134 9 (by omega))
                  have k262_ : (w2 134 9).toInt = (q1.2 134 9).toInt := by rw [ew2, wu_ne (by omega)]
                  have k263_ : (q8.2 134 9).toInt = (w2 134 9).toInt := congrArg Int32.toInt (fr_X10_readsMatter  w2 q8 hqq8 134 9 (by omega))
                  exact sf_some (show (Inv g q8.2) ∧ (0 ≤ q8.1.toInt ∧ q8.1.toInt ≤ 1) ∧ ((w 134 2).toInt ≤ (q8.2 134 2).toInt) ∧ (q8.1.toInt = 0 ∨ ((w 134 2).toInt < (q8.2 134 2).toInt ∧ (((q8.2 134 6).toInt = 0 ∧ (q8.2 134 7).toInt = 0 ∧ (q8.2 134 8).toInt = 0 ∧ (q8.2 134 9).toInt = 0) ∨ (1 ≤ (q8.2 134 6).toInt ∧ (q8.2 134 6).toInt ≤ 60 ∧ 1 ≤ (q8.2 134 7).toInt ∧ (q8.2 134 7).toInt ≤ 9)))) from ⟨hIq8, by omega, by omega, by omega⟩)
                · have rc241_ : ¬ q1.1.toInt = 109 := by rw [i_eq_iff] at c241_; omega
                  have h264_ : 0 ≤ (w2 134 9).toInt ∧ (w2 134 9).toInt ≤ 6 := iv_134_9 hIw2
                  have h265_ : 0 ≤ (q1.2 134 9).toInt ∧ (q1.2 134 9).toInt ≤ 6 := iv_134_9 hIq1
                  have k266_ : (q1.2 134 9).toInt = (w 134 9).toInt := congrArg Int32.toInt (fr_X10_nextLetter  w q1 hqq1 134 9 (by omega))
                  have k267_ : (w2 134 9).toInt = (q1.2 134 9).toInt := by rw [ew2, wu_ne (by omega)]
                  refine sf_bind (sf_X10_readsTraveller  w2 hIw2 (by omega)) (fun q6 hqq6 hpq6 => ?_)
                  obtain ⟨hIq6, hpq6_0, hpq6_1⟩ := hpq6
                  have h268_ : 0 ≤ (w2 134 2).toInt ∧ (w2 134 2).toInt ≤ 241 := iv_134_2 hIw2
                  have k269_ : (w2 134 2).toInt = ((q1.2 134 2) + (1 : Int32)).toInt := by rw [ew2, wu_at]
                  have h270_ : 0 ≤ (q6.2 134 2).toInt ∧ (q6.2 134 2).toInt ≤ 241 := iv_134_2 hIq6
                  refine sf_zr (i_z01 (by omega) (by omega)) ?_
                  have k271_ : (q1.2 134 6).toInt = (w 134 6).toInt := congrArg Int32.toInt (fr_X10_nextLetter  w q1 hqq1 134 6 (by omega))
                  have zz272_l : -2147483648 ≤ (q1.2 134 6).toInt := Int32.le_toInt (q1.2 134 6)
                  have zz272_h : (q1.2 134 6).toInt ≤ 2147483647 := Int32.toInt_le (q1.2 134 6)
                  have k273_ : (w2 134 6).toInt = (q1.2 134 6).toInt := by rw [ew2, wu_ne (by omega)]
                  have zz274_l : -2147483648 ≤ (w2 134 6).toInt := Int32.le_toInt (w2 134 6)
                  have zz274_h : (w2 134 6).toInt ≤ 2147483647 := Int32.toInt_le (w2 134 6)
                  have k275_ : (q6.2 134 6).toInt = (w2 134 6).toInt := congrArg Int32.toInt (fr_X10_readsTraveller  w2 q6 hqq6 134 6 (by omega))
                  have zz276_l : -2147483648 ≤ (q6.2 134 6).toInt := Int32.le_toInt (q6.2 134 6)
                  have zz276_h : (q6.2 134 6).toInt ≤ 2147483647 := Int32.toInt_le (q6.2 134 6)
                  have k277_ : (q6.2 134 7).toInt = (w2 134 7).toInt := congrArg Int32.toInt (fr_X10_readsTraveller  w2 q6 hqq6 134 7 (by omega))
                  have zz278_l : -2147483648 ≤ (q6.2 134 7).toInt := Int32.le_toInt (q6.2 134 7)
                  have zz278_h : (q6.2 134 7).toInt ≤ 2147483647 := Int32.toInt_le (q6.2 134 7)
                  have h279_ : 0 ≤ (q6.2 134 8).toInt ∧ (q6.2 134 8).toInt ≤ 8 := iv_134_8 hIq6
                  have h280_ : 0 ≤ (w2 134 8).toInt ∧ (w2 134 8).toInt ≤ 8 := iv_134_8 hIw2
                  have h281_ : 0 ≤ (q1.2 134 8).toInt ∧ (q1.2 134 8).toInt ≤ 8 := iv_134_8 hIq1
                  have k282_ : (q1.2 134 8).toInt = (w 134 8).toInt := congrArg Int32.toInt (fr_X10_nextLetter  w q1 hqq1 134 8 (by omega))
                  have k283_ : (w2 134 8).toInt = (q1.2 134 8).toInt := by rw [ew2, wu_ne (by omega)]
                  have k284_ : (q6.2 134 8).toInt = (w2 134 8).toInt := congrArg Int32.toInt (fr_X10_readsTraveller  w2 q6 hqq6 134 8 (by omega))
                  have h285_ : 0 ≤ (q6.2 134 9).toInt ∧ (q6.2 134 9).toInt ≤ 6 := iv_134_9 hIq6
                  exact sf_some (show (Inv g q6.2) ∧ (0 ≤ q6.1.toInt ∧ q6.1.toInt ≤ 1) ∧ ((w 134 2).toInt ≤ (q6.2 134 2).toInt) ∧ (q6.1.toInt = 0 ∨ ((w 134 2).toInt < (q6.2 134 2).toInt ∧ (((q6.2 134 6).toInt = 0 ∧ (q6.2 134 7).toInt = 0 ∧ (q6.2 134 8).toInt = 0 ∧ (q6.2 134 9).toInt = 0) ∨ (1 ≤ (q6.2 134 6).toInt ∧ (q6.2 134 6).toInt ≤ 60 ∧ 1 ≤ (q6.2 134 7).toInt ∧ (q6.2 134 7).toInt ≤ 9)))) from ⟨hIq6, by omega, by omega, by omega⟩)
set_option maxRecDepth 20000 in
set_option maxHeartbeats 2000000 in
theorem sf_X10_readsBridge {g : Nat → Int} (w : Mem) (hI : Inv g w) : Sf (fun (q : Int32 × Mem) => (Inv g q.2) ∧ (0 ≤ q.1.toInt ∧ q.1.toInt ≤ 1) ∧ (q.1.toInt = 0 ∨ (((q.2 134 6).toInt = 0 ∧ (q.2 134 7).toInt = 0 ∧ (q.2 134 8).toInt = 0 ∧ (q.2 134 9).toInt = 0) ∨ (1 ≤ (q.2 134 6).toInt ∧ (q.2 134 6).toInt ≤ 60 ∧ 1 ≤ (q.2 134 7).toInt ∧ (q.2 134 7).toInt ≤ 9)))) (f_X10_readsBridge w) := by
  obtain ⟨hg0, hg1⟩ := hI.1
  unfold f_X10_readsBridge
  have l_0 : (0 : Int32).toInt = 0 := by decide
  refine sf_pw (fun w1 ew1 => ?_)
  have hIw1 : Inv g w1 := by rw [ew1]; exact up_134_2 hI (show 0 ≤ (0 : Int32).toInt ∧ (0 : Int32).toInt ≤ 241 from by omega)
  refine sf_pw (fun w2 ew2 => ?_)
  have hIw2 : Inv g w2 := by rw [ew2]; exact uq_134_6 hIw1
  refine sf_pw (fun w3 ew3 => ?_)
  have hIw3 : Inv g w3 := by rw [ew3]; exact uq_134_7 hIw2
  refine sf_pw (fun w4 ew4 => ?_)
  have hIw4 : Inv g w4 := by rw [ew4]; exact up_134_8 hIw3 (show 0 ≤ (0 : Int32).toInt ∧ (0 : Int32).toInt ≤ 8 from by omega)
  refine sf_pw (fun w5 ew5 => ?_)
  have hIw5 : Inv g w5 := by rw [ew5]; exact up_134_9 hIw4 (show 0 ≤ (0 : Int32).toInt ∧ (0 : Int32).toInt ≤ 6 from by omega)
  refine sf_bind (Q := fun (v8 : (Int32 × Mem)) => (Inv g v8.2) ∧ (0 ≤ v8.1.toInt) ∧ (v8.1.toInt ≤ 1) ∧ (v8.1.toInt = 0 ∨ (((v8.2 134 6).toInt = 0 ∧ (v8.2 134 7).toInt = 0 ∧ (v8.2 134 8).toInt = 0 ∧ (v8.2 134 9).toInt = 0) ∨ (1 ≤ (v8.2 134 6).toInt ∧ (v8.2 134 6).toInt ≤ 60 ∧ 1 ≤ (v8.2 134 7).toInt ∧ (v8.2 134 7).toInt ≤ 9)))) ?_ (fun v8 hqv8 hvv8 => ?_)
  · have l_1 : (1 : Int32).toInt = 1 := by decide
    have k1_ : (w2 134 6).toInt = (0 : Int32).toInt := by rw [ew2, wu_at]
    have k2_ : (w3 134 6).toInt = (w2 134 6).toInt := by rw [ew3, wu_ne (by omega)]
    have k3_ : (w4 134 6).toInt = (w3 134 6).toInt := by rw [ew4, wu_ne (by omega)]
    have k4_ : (w5 134 6).toInt = (w4 134 6).toInt := by rw [ew5, wu_ne (by omega)]
    have k5_ : (w3 134 7).toInt = (0 : Int32).toInt := by rw [ew3, wu_at]
    have k6_ : (w4 134 7).toInt = (w3 134 7).toInt := by rw [ew4, wu_ne (by omega)]
    have k7_ : (w5 134 7).toInt = (w4 134 7).toInt := by rw [ew5, wu_ne (by omega)]
    have h8_ : 0 ≤ (w5 134 8).toInt ∧ (w5 134 8).toInt ≤ 8 := iv_134_8 hIw5
    have h9_ : 0 ≤ (w4 134 8).toInt ∧ (w4 134 8).toInt ≤ 8 := iv_134_8 hIw4
    have k10_ : (w4 134 8).toInt = (0 : Int32).toInt := by rw [ew4, wu_at]
    have k11_ : (w5 134 8).toInt = (w4 134 8).toInt := by rw [ew5, wu_ne (by omega)]
    have h12_ : 0 ≤ (w5 134 9).toInt ∧ (w5 134 9).toInt ≤ 6 := iv_134_9 hIw5
    have k13_ : (w5 134 9).toInt = (0 : Int32).toInt := by rw [ew5, wu_at]
    have h14_ : 0 ≤ (w5 134 2).toInt ∧ (w5 134 2).toInt ≤ 241 := iv_134_2 hIw5
    have h15_ : 0 ≤ (w4 134 2).toInt ∧ (w4 134 2).toInt ≤ 241 := iv_134_2 hIw4
    have h16_ : 0 ≤ (w3 134 2).toInt ∧ (w3 134 2).toInt ≤ 241 := iv_134_2 hIw3
    have h17_ : 0 ≤ (w2 134 2).toInt ∧ (w2 134 2).toInt ≤ 241 := iv_134_2 hIw2
    have h18_ : 0 ≤ (w1 134 2).toInt ∧ (w1 134 2).toInt ≤ 241 := iv_134_2 hIw1
    have k19_ : (w1 134 2).toInt = (0 : Int32).toInt := by rw [ew1, wu_at]
    have k20_ : (w2 134 2).toInt = (w1 134 2).toInt := by rw [ew2, wu_ne (by omega)]
    have k21_ : (w3 134 2).toInt = (w2 134 2).toInt := by rw [ew3, wu_ne (by omega)]
    have k22_ : (w4 134 2).toInt = (w3 134 2).toInt := by rw [ew4, wu_ne (by omega)]
    have k23_ : (w5 134 2).toInt = (w4 134 2).toInt := by rw [ew5, wu_ne (by omega)]
    refine sf_lp (fun (s27 : (Int32 × Mem)) => (Inv g s27.2) ∧ (0 ≤ s27.1.toInt) ∧ (s27.1.toInt ≤ 1) ∧ (s27.1.toInt = 0 ∨ (((s27.2 134 6).toInt = 0 ∧ (s27.2 134 7).toInt = 0 ∧ (s27.2 134 8).toInt = 0 ∧ (s27.2 134 9).toInt = 0) ∨ (1 ≤ (s27.2 134 6).toInt ∧ (s27.2 134 6).toInt ≤ 60 ∧ 1 ≤ (s27.2 134 7).toInt ∧ (s27.2 134 7).toInt ≤ 9)))) (fun (s27 : (Int32 × Mem)) => (2 * (242 - (s27.2 134 2).toInt) + s27.1.toInt).toNat) (fun s27 hss27 => ?_) _ _ (show (Inv g w5) ∧ (0 ≤ (1 : Int32).toInt) ∧ ((1 : Int32).toInt ≤ 1) ∧ ((1 : Int32).toInt = 0 ∨ (((w5 134 6).toInt = 0 ∧ (w5 134 7).toInt = 0 ∧ (w5 134 8).toInt = 0 ∧ (w5 134 9).toInt = 0) ∨ (1 ≤ (w5 134 6).toInt ∧ (w5 134 6).toInt ≤ 60 ∧ 1 ≤ (w5 134 7).toInt ∧ (w5 134 7).toInt ≤ 9))) from ⟨hIw5, by omega, by omega, by omega⟩) (show (2 * (242 - (w5 134 2).toInt) + (1 : Int32).toInt).toNat < 5000000000 from by omega)
    obtain ⟨hIs27, hss27_1, hss27_2, hss27_3⟩ := hss27
    refine (?_ : Sf (lpP _ _ (2 * (242 - (s27.2 134 2).toInt) + s27.1.toInt).toNat _) _)
    have zz24_l : -2147483648 ≤ (s27.2 134 6).toInt := Int32.le_toInt (s27.2 134 6)
    have zz24_h : (s27.2 134 6).toInt ≤ 2147483647 := Int32.toInt_le (s27.2 134 6)
    have zz25_l : -2147483648 ≤ (s27.2 134 7).toInt := Int32.le_toInt (s27.2 134 7)
    have zz25_h : (s27.2 134 7).toInt ≤ 2147483647 := Int32.toInt_le (s27.2 134 7)
    have h26_ : 0 ≤ (s27.2 134 8).toInt ∧ (s27.2 134 8).toInt ≤ 8 := iv_134_8 hIs27
    have h27_ : 0 ≤ (s27.2 134 9).toInt ∧ (s27.2 134 9).toInt ≤ 6 := iv_134_9 hIs27
    have h28_ : 0 ≤ (s27.2 134 2).toInt ∧ (s27.2 134 2).toInt ≤ 241 := iv_134_2 hIs27
    refine sf_ite (fun c29_ => ?_) (fun c29_ => ?_)
    · have rc29_ : s27.1.toInt = 0 := by rw [i_eq_iff] at c29_; omega
      exact sf_some (show (Inv g s27.2) ∧ (0 ≤ s27.1.toInt) ∧ (s27.1.toInt ≤ 1) ∧ (s27.1.toInt = 0 ∨ (((s27.2 134 6).toInt = 0 ∧ (s27.2 134 7).toInt = 0 ∧ (s27.2 134 8).toInt = 0 ∧ (s27.2 134 9).toInt = 0) ∨ (1 ≤ (s27.2 134 6).toInt ∧ (s27.2 134 6).toInt ≤ 60 ∧ 1 ≤ (s27.2 134 7).toInt ∧ (s27.2 134 7).toInt ≤ 9))) from ⟨hIs27, by omega, by omega, by omega⟩)
    · have rc29_ : ¬ s27.1.toInt = 0 := by rw [i_eq_iff] at c29_; omega
      refine sf_bind (sf_X10_nextLetter  s27.2 hIs27) (fun q6 hqq6 hpq6 => ?_)
      obtain ⟨hIq6, hpq6_0, hpq6_1, hpq6_2⟩ := hpq6
      have h30_ : 0 ≤ (q6.2 134 2).toInt ∧ (q6.2 134 2).toInt ≤ 241 := iv_134_2 hIq6
      have h31_ : 0 ≤ (q6.2 134 0).toInt ∧ (q6.2 134 0).toInt ≤ 240 := iv_134_0 hIq6
      have h32_ : 0 ≤ (s27.2 134 0).toInt ∧ (s27.2 134 0).toInt ≤ 240 := iv_134_0 hIs27
      have k33_ : (q6.2 134 0).toInt = (s27.2 134 0).toInt := congrArg Int32.toInt (fr_X10_nextLetter  s27.2 q6 hqq6 134 0 (by omega))
      have zz34_l : -2147483648 ≤ q6.1.toInt := Int32.le_toInt q6.1
      have zz34_h : q6.1.toInt ≤ 2147483647 := Int32.toInt_le q6.1
      have l_m1 : (-1 : Int32).toInt = -1 := by decide
      refine sf_ite (fun c35_ => ?_) (fun c35_ => ?_)
      · have rc35_ : q6.1.toInt = -1 := by rw [i_eq_iff] at c35_; omega
        have k36_ : (q6.2 134 6).toInt = (s27.2 134 6).toInt := congrArg Int32.toInt (fr_X10_nextLetter  s27.2 q6 hqq6 134 6 (by omega))
        have zz37_l : -2147483648 ≤ (q6.2 134 6).toInt := Int32.le_toInt (q6.2 134 6)
        have zz37_h : (q6.2 134 6).toInt ≤ 2147483647 := Int32.toInt_le (q6.2 134 6)
        have k38_ : (q6.2 134 7).toInt = (s27.2 134 7).toInt := congrArg Int32.toInt (fr_X10_nextLetter  s27.2 q6 hqq6 134 7 (by omega))
        have zz39_l : -2147483648 ≤ (q6.2 134 7).toInt := Int32.le_toInt (q6.2 134 7)
        have zz39_h : (q6.2 134 7).toInt ≤ 2147483647 := Int32.toInt_le (q6.2 134 7)
        have h40_ : 0 ≤ (q6.2 134 8).toInt ∧ (q6.2 134 8).toInt ≤ 8 := iv_134_8 hIq6
        have k41_ : (q6.2 134 8).toInt = (s27.2 134 8).toInt := congrArg Int32.toInt (fr_X10_nextLetter  s27.2 q6 hqq6 134 8 (by omega))
        have h42_ : 0 ≤ (q6.2 134 9).toInt ∧ (q6.2 134 9).toInt ≤ 6 := iv_134_9 hIq6
        have k43_ : (q6.2 134 9).toInt = (s27.2 134 9).toInt := congrArg Int32.toInt (fr_X10_nextLetter  s27.2 q6 hqq6 134 9 (by omega))
        exact sf_some (show (Inv g q6.2) ∧ (0 ≤ s27.1.toInt) ∧ (s27.1.toInt ≤ 1) ∧ (s27.1.toInt = 0 ∨ (((q6.2 134 6).toInt = 0 ∧ (q6.2 134 7).toInt = 0 ∧ (q6.2 134 8).toInt = 0 ∧ (q6.2 134 9).toInt = 0) ∨ (1 ≤ (q6.2 134 6).toInt ∧ (q6.2 134 6).toInt ≤ 60 ∧ 1 ≤ (q6.2 134 7).toInt ∧ (q6.2 134 7).toInt ≤ 9))) from ⟨hIq6, by omega, by omega, by omega⟩)
      · have rc35_ : ¬ q6.1.toInt = -1 := by rw [i_eq_iff] at c35_; omega
        have k44_ : (q6.2 134 6).toInt = (s27.2 134 6).toInt := congrArg Int32.toInt (fr_X10_nextLetter  s27.2 q6 hqq6 134 6 (by omega))
        have zz45_l : -2147483648 ≤ (q6.2 134 6).toInt := Int32.le_toInt (q6.2 134 6)
        have zz45_h : (q6.2 134 6).toInt ≤ 2147483647 := Int32.toInt_le (q6.2 134 6)
        have k46_ : (q6.2 134 7).toInt = (s27.2 134 7).toInt := congrArg Int32.toInt (fr_X10_nextLetter  s27.2 q6 hqq6 134 7 (by omega))
        have zz47_l : -2147483648 ≤ (q6.2 134 7).toInt := Int32.le_toInt (q6.2 134 7)
        have zz47_h : (q6.2 134 7).toInt ≤ 2147483647 := Int32.toInt_le (q6.2 134 7)
        have h48_ : 0 ≤ (q6.2 134 8).toInt ∧ (q6.2 134 8).toInt ≤ 8 := iv_134_8 hIq6
        have k49_ : (q6.2 134 8).toInt = (s27.2 134 8).toInt := congrArg Int32.toInt (fr_X10_nextLetter  s27.2 q6 hqq6 134 8 (by omega))
        have h50_ : 0 ≤ (q6.2 134 9).toInt ∧ (q6.2 134 9).toInt ≤ 6 := iv_134_9 hIq6
        have k51_ : (q6.2 134 9).toInt = (s27.2 134 9).toInt := congrArg Int32.toInt (fr_X10_nextLetter  s27.2 q6 hqq6 134 9 (by omega))
        refine sf_bind (sf_X10_readsClause  q6.2 hIq6 (by omega) (by omega)) (fun q7 hqq7 hpq7 => ?_)
        obtain ⟨hIq7, hpq7_0, hpq7_1, hpq7_2⟩ := hpq7
        have h52_ : 0 ≤ (q7.2 134 2).toInt ∧ (q7.2 134 2).toInt ≤ 241 := iv_134_2 hIq7
        have zz53_l : -2147483648 ≤ (q7.2 134 6).toInt := Int32.le_toInt (q7.2 134 6)
        have zz53_h : (q7.2 134 6).toInt ≤ 2147483647 := Int32.toInt_le (q7.2 134 6)
        have zz54_l : -2147483648 ≤ (q7.2 134 7).toInt := Int32.le_toInt (q7.2 134 7)
        have zz54_h : (q7.2 134 7).toInt ≤ 2147483647 := Int32.toInt_le (q7.2 134 7)
        have h55_ : 0 ≤ (q7.2 134 8).toInt ∧ (q7.2 134 8).toInt ≤ 8 := iv_134_8 hIq7
        have h56_ : 0 ≤ (q7.2 134 9).toInt ∧ (q7.2 134 9).toInt ≤ 6 := iv_134_9 hIq7
        exact sf_some (show ((Inv g q7.2) ∧ (0 ≤ q7.1.toInt) ∧ (q7.1.toInt ≤ 1) ∧ (q7.1.toInt = 0 ∨ (((q7.2 134 6).toInt = 0 ∧ (q7.2 134 7).toInt = 0 ∧ (q7.2 134 8).toInt = 0 ∧ (q7.2 134 9).toInt = 0) ∨ (1 ≤ (q7.2 134 6).toInt ∧ (q7.2 134 6).toInt ≤ 60 ∧ 1 ≤ (q7.2 134 7).toInt ∧ (q7.2 134 7).toInt ≤ 9)))) ∧ (2 * (242 - (q7.2 134 2).toInt) + q7.1.toInt).toNat < (2 * (242 - (s27.2 134 2).toInt) + s27.1.toInt).toNat from ⟨⟨hIq7, by omega, by omega, by omega⟩, by omega⟩)
  · obtain ⟨hIv8, hvv8_1, hvv8_2, hvv8_3⟩ := hvv8
    have zz57_l : -2147483648 ≤ (v8.2 134 6).toInt := Int32.le_toInt (v8.2 134 6)
    have zz57_h : (v8.2 134 6).toInt ≤ 2147483647 := Int32.toInt_le (v8.2 134 6)
    have zz58_l : -2147483648 ≤ (v8.2 134 7).toInt := Int32.le_toInt (v8.2 134 7)
    have zz58_h : (v8.2 134 7).toInt ≤ 2147483647 := Int32.toInt_le (v8.2 134 7)
    have h59_ : 0 ≤ (v8.2 134 8).toInt ∧ (v8.2 134 8).toInt ≤ 8 := iv_134_8 hIv8
    have h60_ : 0 ≤ (v8.2 134 9).toInt ∧ (v8.2 134 9).toInt ≤ 6 := iv_134_9 hIv8
    refine sf_zr (i_z01 (by omega) (by omega)) ?_
    exact sf_some (show (Inv g v8.2) ∧ (0 ≤ v8.1.toInt ∧ v8.1.toInt ≤ 1) ∧ (v8.1.toInt = 0 ∨ (((v8.2 134 6).toInt = 0 ∧ (v8.2 134 7).toInt = 0 ∧ (v8.2 134 8).toInt = 0 ∧ (v8.2 134 9).toInt = 0) ∨ (1 ≤ (v8.2 134 6).toInt ∧ (v8.2 134 6).toInt ≤ 60 ∧ 1 ≤ (v8.2 134 7).toInt ∧ (v8.2 134 7).toInt ≤ 9))) from ⟨hIv8, by omega, by omega⟩)
