def f_X10_told (a1 : Int32) (w : Mem) : Option (Int32 × Mem) :=
  (if a1 = (0 : Int32) then some (((w 134 15), w)) else (if a1 = (1 : Int32) then some (((w 134 16), w)) else (if a1 = (2 : Int32) then some (((w 134 17), w)) else (if a1 = (3 : Int32) then some (((w 134 18), w)) else (if a1 = (4 : Int32) then some (((w 134 0), w)) else (if a1 = (5 : Int32) then rd 25 (w 146) (0 : Int32) fun x6 => some ((x6, w)) else (if a1 = (6 : Int32) then rd 25 (w 146) (1 : Int32) fun x8 => some ((x8, w)) else (if a1 = (7 : Int32) then rd 25 (w 146) (2 : Int32) fun x10 => some ((x10, w)) else (if a1 = (8 : Int32) then rd 25 (w 146) (3 : Int32) fun x12 => some ((x12, w)) else (if a1 = (9 : Int32) then rd 25 (w 146) (4 : Int32) fun x14 => some ((x14, w)) else (if a1 = (10 : Int32) then rd 25 (w 146) (5 : Int32) fun x16 => some ((x16, w)) else (if a1 = (11 : Int32) then rd 25 (w 146) (6 : Int32) fun x18 => some ((x18, w)) else (if a1 = (12 : Int32) then (f_X10_are (0 : Int32) w).bind fun r20 => some ((r20, w)) else (if a1 = (13 : Int32) then (f_X10_are (2 : Int32) w).bind fun r22 => some ((r22, w)) else (if a1 = (14 : Int32) then (f_X10_are (3 : Int32) w).bind fun r24 => some ((r24, w)) else (if a1 = (15 : Int32) then (f_X10_nobodys w).bind fun r26 => some ((r26, w)) else (if a1 = (16 : Int32) then (f_X10_longestSat w).bind fun r28 => some ((r28, w)) else (if a1 = (17 : Int32) then (f_X10_bestToLearn w).bind fun q30 => some ((q30.1, q30.2)) else (if a1 = (18 : Int32) then some (((w 134 34), w)) else (if a1 = (19 : Int32) then some (((w 134 37), w)) else (if a1 = (20 : Int32) then some (((w 134 25), w)) else some (((-1000000002 : Int32), w)))))))))))))))))))))))
set_option maxRecDepth 20000 in
set_option maxHeartbeats 4000000 in
theorem tf_X10_told {G : GT} {l : Launch} {z n : Nat} (a1 : Int32) (w : Mem) (q : Int32 × Mem) (hq : f_X10_told a1 w = some q) : Mt G l z yX10_told cX10_told 2 (some .int) { frames := 5, cells := 0, slots := 0, locals := 121 } [.ref (z + 134), .int a1] (hp G z w) n (some (.int q.1)) (hp G z q.2) n := by
  refine mt_of (by decide +kernel) (Nat.le_of_ble_eq_true rfl) ?_
  intro p e s m below meth c C hr hlk hnm
  refine (?_ : DX p l e _ s m _ below meth c G z 2 n _ (fun v => v = q) 0 [(0, .ref (z + 134)), (1, .int a1)] [] w (f_X10_told a1 w)) q hq rfl
  unfold f_X10_told
  refine dx_iload_n C 1 dX10_told_0 rfl rfl ?_
  refine dx_ite (fun hs1 => ?_) (fun hs1 => ?_)
  · refine dx_tableIn C 100 dX10_told_1 (by rw [hs1]; decide) (by rw [hs1]; decide) (by rw [hs1]; rfl) (by decide) ?_
    refine dx_aload_n C 0 dX10_told_100 rfl rfl ?_
    refine dgX10_147 C dX10_told_101 ?_
    exact dx_iret2 C hr hlk dX10_told_104 (fun h => h)
  · refine dx_ite (fun hs2 => ?_) (fun hs2 => ?_)
    · refine dx_tableIn C 105 dX10_told_1 (by rw [hs2]; decide) (by rw [hs2]; decide) (by rw [hs2]; rfl) (by decide) ?_
      refine dx_aload_n C 0 dX10_told_105 rfl rfl ?_
      refine dgX10_150 C dX10_told_106 ?_
      exact dx_iret2 C hr hlk dX10_told_109 (fun h => h)
    · refine dx_ite (fun hs3 => ?_) (fun hs3 => ?_)
      · refine dx_tableIn C 110 dX10_told_1 (by rw [hs3]; decide) (by rw [hs3]; decide) (by rw [hs3]; rfl) (by decide) ?_
        refine dx_aload_n C 0 dX10_told_110 rfl rfl ?_
        refine dgX10_153 C dX10_told_111 ?_
        exact dx_iret2 C hr hlk dX10_told_114 (fun h => h)
      · refine dx_ite (fun hs4 => ?_) (fun hs4 => ?_)
        · refine dx_tableIn C 115 dX10_told_1 (by rw [hs4]; decide) (by rw [hs4]; decide) (by rw [hs4]; rfl) (by decide) ?_
          refine dx_aload_n C 0 dX10_told_115 rfl rfl ?_
          refine dgX10_156 C dX10_told_116 ?_
          exact dx_iret2 C hr hlk dX10_told_119 (fun h => h)
        · refine dx_ite (fun hs5 => ?_) (fun hs5 => ?_)
          · refine dx_tableIn C 120 dX10_told_1 (by rw [hs5]; decide) (by rw [hs5]; decide) (by rw [hs5]; rfl) (by decide) ?_
            refine dx_aload_n C 0 dX10_told_120 rfl rfl ?_
            refine dgX10_87 C dX10_told_121 ?_
            exact dx_iret2 C hr hlk dX10_told_124 (fun h => h)
          · refine dx_ite (fun hs7 => ?_) (fun hs7 => ?_)
            · refine dx_tableIn C 125 dX10_told_1 (by rw [hs7]; decide) (by rw [hs7]; decide) (by rw [hs7]; rfl) (by decide) ?_
              refine dx_aload_n C 0 dX10_told_125 rfl rfl ?_
              refine dgX10_47 C dX10_told_126 ?_
              refine dx_iconst (v := (0 : Int32)) C dX10_told_129 (by decide) ?_
              refine dx_rd C ly_146 dX10_told_130 (fun x6 => ?_)
              exact dx_iret2 C hr hlk dX10_told_131 (fun h => h)
            · refine dx_ite (fun hs9 => ?_) (fun hs9 => ?_)
              · refine dx_tableIn C 132 dX10_told_1 (by rw [hs9]; decide) (by rw [hs9]; decide) (by rw [hs9]; rfl) (by decide) ?_
                refine dx_aload_n C 0 dX10_told_132 rfl rfl ?_
                refine dgX10_47 C dX10_told_133 ?_
                refine dx_iconst (v := (1 : Int32)) C dX10_told_136 (by decide) ?_
                refine dx_rd C ly_146 dX10_told_137 (fun x8 => ?_)
                exact dx_iret2 C hr hlk dX10_told_138 (fun h => h)
              · refine dx_ite (fun hs11 => ?_) (fun hs11 => ?_)
                · refine dx_tableIn C 139 dX10_told_1 (by rw [hs11]; decide) (by rw [hs11]; decide) (by rw [hs11]; rfl) (by decide) ?_
                  refine dx_aload_n C 0 dX10_told_139 rfl rfl ?_
                  refine dgX10_47 C dX10_told_140 ?_
                  refine dx_iconst (v := (2 : Int32)) C dX10_told_143 (by decide) ?_
                  refine dx_rd C ly_146 dX10_told_144 (fun x10 => ?_)
                  exact dx_iret2 C hr hlk dX10_told_145 (fun h => h)
                · refine dx_ite (fun hs13 => ?_) (fun hs13 => ?_)
                  · refine dx_tableIn C 146 dX10_told_1 (by rw [hs13]; decide) (by rw [hs13]; decide) (by rw [hs13]; rfl) (by decide) ?_
                    refine dx_aload_n C 0 dX10_told_146 rfl rfl ?_
                    refine dgX10_47 C dX10_told_147 ?_
                    refine dx_iconst (v := (3 : Int32)) C dX10_told_150 (by decide) ?_
                    refine dx_rd C ly_146 dX10_told_151 (fun x12 => ?_)
                    exact dx_iret2 C hr hlk dX10_told_152 (fun h => h)
                  · refine dx_ite (fun hs15 => ?_) (fun hs15 => ?_)
                    · refine dx_tableIn C 153 dX10_told_1 (by rw [hs15]; decide) (by rw [hs15]; decide) (by rw [hs15]; rfl) (by decide) ?_
                      refine dx_aload_n C 0 dX10_told_153 rfl rfl ?_
                      refine dgX10_47 C dX10_told_154 ?_
                      refine dx_iconst (v := (4 : Int32)) C dX10_told_157 (by decide) ?_
                      refine dx_rd C ly_146 dX10_told_158 (fun x14 => ?_)
                      exact dx_iret2 C hr hlk dX10_told_159 (fun h => h)
                    · refine dx_ite (fun hs17 => ?_) (fun hs17 => ?_)
                      · refine dx_tableIn C 160 dX10_told_1 (by rw [hs17]; decide) (by rw [hs17]; decide) (by rw [hs17]; rfl) (by decide) ?_
                        refine dx_aload_n C 0 dX10_told_160 rfl rfl ?_
                        refine dgX10_47 C dX10_told_161 ?_
                        refine dx_iconst (v := (5 : Int32)) C dX10_told_164 (by decide) ?_
                        refine dx_rd C ly_146 dX10_told_165 (fun x16 => ?_)
                        exact dx_iret2 C hr hlk dX10_told_166 (fun h => h)
                      · refine dx_ite (fun hs19 => ?_) (fun hs19 => ?_)
                        · refine dx_tableIn C 167 dX10_told_1 (by rw [hs19]; decide) (by rw [hs19]; decide) (by rw [hs19]; rfl) (by decide) ?_
                          refine dx_aload_n C 0 dX10_told_167 rfl rfl ?_
                          refine dgX10_47 C dX10_told_168 ?_
                          refine dx_bipush (v := (6 : Int32)) C dX10_told_171 (by decide) ?_
                          refine dx_rd C ly_146 dX10_told_173 (fun x18 => ?_)
                          exact dx_iret2 C hr hlk dX10_told_174 (fun h => h)
                        · refine dx_ite (fun hs21 => ?_) (fun hs21 => ?_)
                          · refine dx_tableIn C 175 dX10_told_1 (by rw [hs21]; decide) (by rw [hs21]; decide) (by rw [hs21]; rfl) (by decide) ?_
                            refine dx_aload_n C 0 dX10_told_175 rfl rfl ?_
                            refine dx_iconst (v := (0 : Int32)) C dX10_told_176 (by decide) ?_
                            refine dx_callV1 C cl_X10_are kmX10_175 (ci := 9) (b := 134) (As := [.int (0 : Int32)]) (rest := []) rfl (hp_of ly_134) (tf_X10_are (0 : Int32) w) rfl rfl (Nat.le_of_ble_eq_true rfl) ⟨Nat.le_of_ble_eq_true rfl, Nat.le_of_ble_eq_true rfl⟩ dX10_told_177 (fun r20 => ?_)
                            exact dx_iret2 C hr hlk dX10_told_180 (fun h => h)
                          · refine dx_ite (fun hs23 => ?_) (fun hs23 => ?_)
                            · refine dx_tableIn C 181 dX10_told_1 (by rw [hs23]; decide) (by rw [hs23]; decide) (by rw [hs23]; rfl) (by decide) ?_
                              refine dx_aload_n C 0 dX10_told_181 rfl rfl ?_
                              refine dx_iconst (v := (2 : Int32)) C dX10_told_182 (by decide) ?_
                              refine dx_callV1 C cl_X10_are kmX10_175 (ci := 9) (b := 134) (As := [.int (2 : Int32)]) (rest := []) rfl (hp_of ly_134) (tf_X10_are (2 : Int32) w) rfl rfl (Nat.le_of_ble_eq_true rfl) ⟨Nat.le_of_ble_eq_true rfl, Nat.le_of_ble_eq_true rfl⟩ dX10_told_183 (fun r22 => ?_)
                              exact dx_iret2 C hr hlk dX10_told_186 (fun h => h)
                            · refine dx_ite (fun hs25 => ?_) (fun hs25 => ?_)
                              · refine dx_tableIn C 187 dX10_told_1 (by rw [hs25]; decide) (by rw [hs25]; decide) (by rw [hs25]; rfl) (by decide) ?_
                                refine dx_aload_n C 0 dX10_told_187 rfl rfl ?_
                                refine dx_iconst (v := (3 : Int32)) C dX10_told_188 (by decide) ?_
                                refine dx_callV1 C cl_X10_are kmX10_175 (ci := 9) (b := 134) (As := [.int (3 : Int32)]) (rest := []) rfl (hp_of ly_134) (tf_X10_are (3 : Int32) w) rfl rfl (Nat.le_of_ble_eq_true rfl) ⟨Nat.le_of_ble_eq_true rfl, Nat.le_of_ble_eq_true rfl⟩ dX10_told_189 (fun r24 => ?_)
                                exact dx_iret2 C hr hlk dX10_told_192 (fun h => h)
                              · refine dx_ite (fun hs27 => ?_) (fun hs27 => ?_)
                                · refine dx_tableIn C 193 dX10_told_1 (by rw [hs27]; decide) (by rw [hs27]; decide) (by rw [hs27]; rfl) (by decide) ?_
                                  refine dx_aload_n C 0 dX10_told_193 rfl rfl ?_
                                  refine dx_callV1 C cl_X10_nobodys kmX10_178 (ci := 9) (b := 134) (As := []) (rest := []) rfl (hp_of ly_134) (tf_X10_nobodys w) rfl rfl (Nat.le_of_ble_eq_true rfl) ⟨Nat.le_of_ble_eq_true rfl, Nat.le_of_ble_eq_true rfl⟩ dX10_told_194 (fun r26 => ?_)
                                  exact dx_iret2 C hr hlk dX10_told_197 (fun h => h)
                                · refine dx_ite (fun hs29 => ?_) (fun hs29 => ?_)
                                  · refine dx_tableIn C 198 dX10_told_1 (by rw [hs29]; decide) (by rw [hs29]; decide) (by rw [hs29]; rfl) (by decide) ?_
                                    refine dx_aload_n C 0 dX10_told_198 rfl rfl ?_
                                    refine dx_callV1 C cl_X10_longestSat kmX10_181 (ci := 9) (b := 134) (As := []) (rest := []) rfl (hp_of ly_134) (tf_X10_longestSat w) rfl rfl (Nat.le_of_ble_eq_true rfl) ⟨Nat.le_of_ble_eq_true rfl, Nat.le_of_ble_eq_true rfl⟩ dX10_told_199 (fun r28 => ?_)
                                    exact dx_iret2 C hr hlk dX10_told_202 (fun h => h)
                                  · refine dx_ite (fun hs31 => ?_) (fun hs31 => ?_)
                                    · refine dx_tableIn C 203 dX10_told_1 (by rw [hs31]; decide) (by rw [hs31]; decide) (by rw [hs31]; rfl) (by decide) ?_
                                      refine dx_aload_n C 0 dX10_told_203 rfl rfl ?_
                                      refine dx_callV2 C cl_X10_bestToLearn kmX10_184 (ci := 9) (b := 134) (As := []) (rest := []) rfl (hp_of ly_134) (tf_X10_bestToLearn w) rfl rfl (Nat.le_of_ble_eq_true rfl) ⟨Nat.le_of_ble_eq_true rfl, Nat.le_of_ble_eq_true rfl⟩ dX10_told_204 (fun q30 => ?_)
                                      exact dx_iret2 C hr hlk dX10_told_207 (fun h => h)
                                    · refine dx_ite (fun hs32 => ?_) (fun hs32 => ?_)
                                      · refine dx_tableIn C 208 dX10_told_1 (by rw [hs32]; decide) (by rw [hs32]; decide) (by rw [hs32]; rfl) (by decide) ?_
                                        refine dx_aload_n C 0 dX10_told_208 rfl rfl ?_
                                        refine dgX10_162 C dX10_told_209 ?_
                                        exact dx_iret2 C hr hlk dX10_told_212 (fun h => h)
                                      · refine dx_ite (fun hs33 => ?_) (fun hs33 => ?_)
                                        · refine dx_tableIn C 213 dX10_told_1 (by rw [hs33]; decide) (by rw [hs33]; decide) (by rw [hs33]; rfl) (by decide) ?_
                                          refine dx_aload_n C 0 dX10_told_213 rfl rfl ?_
                                          refine dgX10_165 C dX10_told_214 ?_
                                          exact dx_iret2 C hr hlk dX10_told_217 (fun h => h)
                                        · refine dx_ite (fun hs34 => ?_) (fun hs34 => ?_)
                                          · refine dx_tableIn C 218 dX10_told_1 (by rw [hs34]; decide) (by rw [hs34]; decide) (by rw [hs34]; rfl) (by decide) ?_
                                            refine dx_aload_n C 0 dX10_told_218 rfl rfl ?_
                                            refine dgX10_159 C dX10_told_219 ?_
                                            exact dx_iret2 C hr hlk dX10_told_222 (fun h => h)
                                          · have ehs1 : (a1).toInt ≠ 0 := fun q => hs1 ((i_eq_iff _ _).mpr (q.trans (by decide)))
                                            have ehs2 : (a1).toInt ≠ 1 := fun q => hs2 ((i_eq_iff _ _).mpr (q.trans (by decide)))
                                            have ehs3 : (a1).toInt ≠ 2 := fun q => hs3 ((i_eq_iff _ _).mpr (q.trans (by decide)))
                                            have ehs4 : (a1).toInt ≠ 3 := fun q => hs4 ((i_eq_iff _ _).mpr (q.trans (by decide)))
                                            have ehs5 : (a1).toInt ≠ 4 := fun q => hs5 ((i_eq_iff _ _).mpr (q.trans (by decide)))
                                            have ehs7 : (a1).toInt ≠ 5 := fun q => hs7 ((i_eq_iff _ _).mpr (q.trans (by decide)))
                                            have ehs9 : (a1).toInt ≠ 6 := fun q => hs9 ((i_eq_iff _ _).mpr (q.trans (by decide)))
                                            have ehs11 : (a1).toInt ≠ 7 := fun q => hs11 ((i_eq_iff _ _).mpr (q.trans (by decide)))
                                            have ehs13 : (a1).toInt ≠ 8 := fun q => hs13 ((i_eq_iff _ _).mpr (q.trans (by decide)))
                                            have ehs15 : (a1).toInt ≠ 9 := fun q => hs15 ((i_eq_iff _ _).mpr (q.trans (by decide)))
                                            have ehs17 : (a1).toInt ≠ 10 := fun q => hs17 ((i_eq_iff _ _).mpr (q.trans (by decide)))
                                            have ehs19 : (a1).toInt ≠ 11 := fun q => hs19 ((i_eq_iff _ _).mpr (q.trans (by decide)))
                                            have ehs21 : (a1).toInt ≠ 12 := fun q => hs21 ((i_eq_iff _ _).mpr (q.trans (by decide)))
                                            have ehs23 : (a1).toInt ≠ 13 := fun q => hs23 ((i_eq_iff _ _).mpr (q.trans (by decide)))
                                            have ehs25 : (a1).toInt ≠ 14 := fun q => hs25 ((i_eq_iff _ _).mpr (q.trans (by decide)))
                                            have ehs27 : (a1).toInt ≠ 15 := fun q => hs27 ((i_eq_iff _ _).mpr (q.trans (by decide)))
                                            have ehs29 : (a1).toInt ≠ 16 := fun q => hs29 ((i_eq_iff _ _).mpr (q.trans (by decide)))
                                            have ehs31 : (a1).toInt ≠ 17 := fun q => hs31 ((i_eq_iff _ _).mpr (q.trans (by decide)))
                                            have ehs32 : (a1).toInt ≠ 18 := fun q => hs32 ((i_eq_iff _ _).mpr (q.trans (by decide)))
                                            have ehs33 : (a1).toInt ≠ 19 := fun q => hs33 ((i_eq_iff _ _).mpr (q.trans (by decide)))
                                            have ehs34 : (a1).toInt ≠ 20 := fun q => hs34 ((i_eq_iff _ _).mpr (q.trans (by decide)))
                                            refine dx_tableOut C 223 dX10_told_1 (by omega) (by decide) ?_
                                            refine dx_ldc C kcX10_86 dX10_told_223 ?_
                                            exact dx_iret2 C hr hlk dX10_told_225 (fun h => h)
def f_X10_isMatter (a1 : Int32) (w : Mem) : Option (Int32) :=
  (f_X10_in a1 (0 : Int32) ((w 134 17) - (1 : Int32))).bind fun r1 => zr r1 (some (r1))
set_option maxRecDepth 20000 in
set_option maxHeartbeats 4000000 in
theorem tf_X10_isMatter {G : GT} {l : Launch} {z n : Nat} (a1 : Int32) (w : Mem) (q : Int32) (hq : f_X10_isMatter a1 w = some q) : Mt G l z yX10_isMatter cX10_isMatter 2 (some .boolean) { frames := 1, cells := 0, slots := 0, locals := 22 } [.ref (z + 134), .int a1] (hp G z w) n (some (.int q)) (hp G z w) n := by
  refine mt_of (by decide +kernel) (Nat.le_of_ble_eq_true rfl) ?_
  intro p e s m below meth c C hr hlk hnm
  refine (?_ : DX p l e _ s m _ below meth c G z 2 n _ (fun v => v = q) 0 [(0, .ref (z + 134)), (1, .int a1)] [] w (f_X10_isMatter a1 w)) q hq rfl
  unfold f_X10_isMatter
  refine dx_iload_n C 1 dX10_isMatter_0 rfl rfl ?_
  refine dx_iconst (v := (0 : Int32)) C dX10_isMatter_1 (by decide) ?_
  refine dx_aload_n C 0 dX10_isMatter_2 rfl rfl ?_
  refine dgX10_153 C dX10_isMatter_3 ?_
  refine dx_iconst (v := (1 : Int32)) C dX10_isMatter_6 (by decide) ?_
  refine dx_isub C dX10_isMatter_7 ?_
  refine dx_callS1 C cl_X10_in kmX10_82 (As := [.int a1, .int (0 : Int32), .int ((w 134 17) - (1 : Int32))]) (rest := []) (tf_X10_in a1 (0 : Int32) ((w 134 17) - (1 : Int32)) w) rfl rfl (Nat.le_of_ble_eq_true rfl) ⟨Nat.le_of_ble_eq_true rfl, Nat.le_of_ble_eq_true rfl⟩ dX10_isMatter_8 (fun r1 => ?_)
  refine dx_zr (fun hz2 => ?_)
  exact dx_zret1 C hr hlk hz2 dX10_isMatter_11 (fun h => h)
def f_X10_onward (a1 : Int32) (w : Mem) : Option (Int32) :=
  (lp (S := (Int32 × Int32)) (T := Int32) (fun s4 => (if s4.2 < (w 134 17) then (f_X10_has a1 s4.2).bind fun r1 => ((if r1 = 0 then some ((0 : Int32)) else rd 8 (w 142) s4.2 fun x3 => some (x3)) : Option Int32).bind fun v2 => some (Sum.inl ((s4.1 ||| v2), (s4.2 + (1 : Int32)))) else some (Sum.inr s4.1))) 5000000000 ((0 : Int32), (0 : Int32))).bind fun v4 => some (v4)
set_option maxRecDepth 20000 in
set_option maxHeartbeats 4000000 in
theorem tf_X10_onward {G : GT} {l : Launch} {z n : Nat} (a1 : Int32) (w : Mem) (q : Int32) (hq : f_X10_onward a1 w = some q) : Mt G l z yX10_onward cX10_onward 4 (some .int) { frames := 1, cells := 0, slots := 0, locals := 21 } [.ref (z + 134), .int a1] (hp G z w) n (some (.int q)) (hp G z w) n := by
  refine mt_of (by decide +kernel) (Nat.le_of_ble_eq_true rfl) ?_
  intro p e s m below meth c C hr hlk hnm
  refine (?_ : DX p l e _ s m _ below meth c G z 4 n _ (fun v => v = q) 0 [(0, .ref (z + 134)), (1, .int a1)] [] w (f_X10_onward a1 w)) q hq rfl
  unfold f_X10_onward
  refine dx_iconst (v := (0 : Int32)) C dX10_onward_0 (by decide) ?_
  refine dx_istore_n C [(2, .int (0 : Int32)), (0, .ref (z + 134)), (1, .int a1)] dX10_onward_1 rfl (by decide) rfl ?_
  refine dx_iconst (v := (0 : Int32)) C dX10_onward_2 (by decide) ?_
  refine dx_istore_n C [(3, .int (0 : Int32)), (2, .int (0 : Int32)), (0, .ref (z + 134)), (1, .int a1)] dX10_onward_3 rfl (by decide) rfl ?_
  refine dx_mv (lo2 := [(0, .ref (z + 134)), (1, .int a1), (2, .int (0 : Int32)), (3, .int (0 : Int32))]) [2, 3, 1, 0] rfl ?_
  refine dx_bind 39 (fun v4 => [(2, .int v4)]) (fun v4 => []) (fun v4 => w) (fun v4 => (?_ : DX p l e _ s m _ below meth c G z 4 n _ _ 39 [(2, .int v4)] [] w _)) ?_
  · refine dx_iload_n C 0 dX10_onward_39 rfl rfl ?_
    exact dx_iret1 C hr hlk dX10_onward_40 (fun h => h)
  · refine dx_lp (fun s4 => [(0, .ref (z + 134)), (1, .int a1), (2, .int s4.1), (3, .int s4.2)]) [] (fun s4 => w) (fun s4 => (?_ : DX p l e _ s m _ below meth c G z 4 n _ _ 4 [(0, .ref (z + 134)), (1, .int a1), (2, .int s4.1), (3, .int s4.2)] [] w _)) 5000000000 ((0 : Int32), (0 : Int32))
    refine dx_iload_n C 3 dX10_onward_4 rfl rfl ?_
    refine dx_aload_n C 0 dX10_onward_5 rfl rfl ?_
    refine dgX10_153 C dX10_onward_6 ?_
    refine dx_icmp_ge C 39 dX10_onward_9 (by decide) ?_ ?_
    · refine dx_mv (lo2 := [(2, .int s4.1)]) [2] rfl ?_
      exact dx_end (fun h => h)
    · refine dx_iload_n C 2 dX10_onward_12 rfl rfl ?_
      refine dx_iload_n C 1 dX10_onward_13 rfl rfl ?_
      refine dx_iload_n C 3 dX10_onward_14 rfl rfl ?_
      refine dx_callS1 C cl_X10_has kmX10_168 (As := [.int a1, .int s4.2]) (rest := [.int s4.1]) (tf_X10_has a1 s4.2 w) rfl rfl (Nat.le_of_ble_eq_true rfl) ⟨Nat.le_of_ble_eq_true rfl, Nat.le_of_ble_eq_true rfl⟩ dX10_onward_15 (fun r1 => ?_)
      refine dx_bind 31 (fun v2 => [(0, .ref (z + 134)), (1, .int a1), (3, .int s4.2)]) (fun v2 => [.int v2, .int s4.1]) (fun v2 => w) (fun v2 => (?_ : DX p l e _ s m _ below meth c G z 4 n _ _ 31 [(0, .ref (z + 134)), (1, .int a1), (3, .int s4.2)] [.int v2, .int s4.1] w _)) ?_
      · refine dx_ior C dX10_onward_31 ?_
        refine dx_istore_n C [(2, .int (s4.1 ||| v2)), (0, .ref (z + 134)), (1, .int a1), (3, .int s4.2)] dX10_onward_32 rfl (by decide) rfl ?_
        refine dx_iinc (v := (s4.2 + (1 : Int32))) C 3 [(3, .int (s4.2 + (1 : Int32))), (2, .int (s4.1 ||| v2)), (0, .ref (z + 134)), (1, .int a1)] dX10_onward_33 rfl rfl (by decide) rfl ?_
        refine dx_goto C 4 dX10_onward_36 (by decide) ?_
        refine dx_mv (lo2 := [(0, .ref (z + 134)), (1, .int a1), (2, .int (s4.1 ||| v2)), (3, .int (s4.2 + (1 : Int32)))]) [2, 3, 1, 0] rfl ?_
        exact dx_end (fun h => h)
      · refine dx_if_eq C 30 dX10_onward_18 (by decide) ?_ ?_
        · refine dx_iconst (v := (0 : Int32)) C dX10_onward_30 (by decide) ?_
          refine dx_mv (lo2 := [(0, .ref (z + 134)), (1, .int a1), (3, .int s4.2)]) [0, 1, 3] rfl ?_
          exact dx_end (fun h => h)
        · refine dx_aload_n C 0 dX10_onward_21 rfl rfl ?_
          refine dgX10_35 C dX10_onward_22 ?_
          refine dx_iload_n C 3 dX10_onward_25 rfl rfl ?_
          refine dx_rd C ly_142 dX10_onward_26 (fun x3 => ?_)
          refine dx_goto C 31 dX10_onward_27 (by decide) ?_
          refine dx_mv (lo2 := [(0, .ref (z + 134)), (1, .int a1), (3, .int s4.2)]) [0, 1, 3] rfl ?_
          exact dx_end (fun h => h)
def f_X10_leadsFrom (a1 : Int32) (w : Mem) : Option (Int32) :=
  rd 8 (w 142) a1 fun x1 => (lp (S := (Int32 × Int32)) (T := Int32) (fun s9 => (if s9.2 < (w 134 17) then (f_X10_onward s9.1 w).bind fun r2 => some (Sum.inl ((s9.1 ||| r2), (s9.2 + (1 : Int32)))) else some (Sum.inr s9.1))) 5000000000 (x1, (0 : Int32))).bind fun v3 => some (v3)
set_option maxRecDepth 20000 in
set_option maxHeartbeats 4000000 in
theorem tf_X10_leadsFrom {G : GT} {l : Launch} {z n : Nat} (a1 : Int32) (w : Mem) (q : Int32) (hq : f_X10_leadsFrom a1 w = some q) : Mt G l z yX10_leadsFrom cX10_leadsFrom 4 (some .int) { frames := 2, cells := 0, slots := 0, locals := 44 } [.ref (z + 134), .int a1] (hp G z w) n (some (.int q)) (hp G z w) n := by
  refine mt_of (by decide +kernel) (Nat.le_of_ble_eq_true rfl) ?_
  intro p e s m below meth c C hr hlk hnm
  refine (?_ : DX p l e _ s m _ below meth c G z 4 n _ (fun v => v = q) 0 [(0, .ref (z + 134)), (1, .int a1)] [] w (f_X10_leadsFrom a1 w)) q hq rfl
  unfold f_X10_leadsFrom
  refine dx_aload_n C 0 dX10_leadsFrom_0 rfl rfl ?_
  refine dgX10_35 C dX10_leadsFrom_1 ?_
  refine dx_iload_n C 1 dX10_leadsFrom_4 rfl rfl ?_
  refine dx_rd C ly_142 dX10_leadsFrom_5 (fun x1 => ?_)
  refine dx_istore_n C [(2, .int x1), (0, .ref (z + 134)), (1, .int a1)] dX10_leadsFrom_6 rfl (by decide) rfl ?_
  refine dx_iconst (v := (0 : Int32)) C dX10_leadsFrom_7 (by decide) ?_
  refine dx_istore_n C [(3, .int (0 : Int32)), (2, .int x1), (0, .ref (z + 134)), (1, .int a1)] dX10_leadsFrom_8 rfl (by decide) rfl ?_
  refine dx_mv (lo2 := [(0, .ref (z + 134)), (2, .int x1), (3, .int (0 : Int32))]) [2, 1, 0] rfl ?_
  refine dx_bind 31 (fun v3 => [(2, .int v3)]) (fun v3 => []) (fun v3 => w) (fun v3 => (?_ : DX p l e _ s m _ below meth c G z 4 n _ _ 31 [(2, .int v3)] [] w _)) ?_
  · refine dx_iload_n C 0 dX10_leadsFrom_31 rfl rfl ?_
    exact dx_iret1 C hr hlk dX10_leadsFrom_32 (fun h => h)
  · refine dx_lp (fun s9 => [(0, .ref (z + 134)), (2, .int s9.1), (3, .int s9.2)]) [] (fun s9 => w) (fun s9 => (?_ : DX p l e _ s m _ below meth c G z 4 n _ _ 9 [(0, .ref (z + 134)), (2, .int s9.1), (3, .int s9.2)] [] w _)) 5000000000 (x1, (0 : Int32))
    refine dx_iload_n C 2 dX10_leadsFrom_9 rfl rfl ?_
    refine dx_aload_n C 0 dX10_leadsFrom_10 rfl rfl ?_
    refine dgX10_153 C dX10_leadsFrom_11 ?_
    refine dx_icmp_ge C 31 dX10_leadsFrom_14 (by decide) ?_ ?_
    · refine dx_mv (lo2 := [(2, .int s9.1)]) [1] rfl ?_
      exact dx_end (fun h => h)
    · refine dx_iload_n C 1 dX10_leadsFrom_17 rfl rfl ?_
      refine dx_aload_n C 0 dX10_leadsFrom_18 rfl rfl ?_
      refine dx_iload_n C 1 dX10_leadsFrom_19 rfl rfl ?_
      refine dx_callV1 C cl_X10_onward kmX10_187 (ci := 9) (b := 134) (As := [.int s9.1]) (rest := [.int s9.1]) rfl (hp_of ly_134) (tf_X10_onward s9.1 w) rfl rfl (Nat.le_of_ble_eq_true rfl) ⟨Nat.le_of_ble_eq_true rfl, Nat.le_of_ble_eq_true rfl⟩ dX10_leadsFrom_20 (fun r2 => ?_)
      refine dx_ior C dX10_leadsFrom_23 ?_
      refine dx_istore_n C [(2, .int (s9.1 ||| r2)), (0, .ref (z + 134)), (3, .int s9.2)] dX10_leadsFrom_24 rfl (by decide) rfl ?_
      refine dx_iinc (v := (s9.2 + (1 : Int32))) C 2 [(3, .int (s9.2 + (1 : Int32))), (2, .int (s9.1 ||| r2)), (0, .ref (z + 134))] dX10_leadsFrom_25 rfl rfl (by decide) rfl ?_
      refine dx_goto C 9 dX10_leadsFrom_28 (by decide) ?_
      refine dx_mv (lo2 := [(0, .ref (z + 134)), (2, .int (s9.1 ||| r2)), (3, .int (s9.2 + (1 : Int32)))]) [2, 1, 0] rfl ?_
      exact dx_end (fun h => h)
def f_X10_roundOf (a1 : Int32) (w : Mem) : Option (Int32) :=
  lt (((1 : Int32) <<< (a1 &&& 31))) fun t1 => lp (S := (Int32 × Int32)) (T := Int32) (fun s6 => (if (w 134 17) < s6.2 then some (Sum.inr ((-1 : Int32))) else (f_X10_onward s6.1 w).bind fun r2 => (f_X10_has r2 a1).bind fun r3 => (if r3 = 0 then some (Sum.inl (r2, (s6.2 + (1 : Int32)))) else some (Sum.inr (s6.2))))) 5000000000 (t1, (1 : Int32))
set_option maxRecDepth 20000 in
set_option maxHeartbeats 4000000 in
theorem tf_X10_roundOf {G : GT} {l : Launch} {z n : Nat} (a1 : Int32) (w : Mem) (q : Int32) (hq : f_X10_roundOf a1 w = some q) : Mt G l z yX10_roundOf cX10_roundOf 4 (some .int) { frames := 2, cells := 0, slots := 0, locals := 44 } [.ref (z + 134), .int a1] (hp G z w) n (some (.int q)) (hp G z w) n := by
  refine mt_of (by decide +kernel) (Nat.le_of_ble_eq_true rfl) ?_
  intro p e s m below meth c C hr hlk hnm
  refine (?_ : DX p l e _ s m _ below meth c G z 4 n _ (fun v => v = q) 0 [(0, .ref (z + 134)), (1, .int a1)] [] w (f_X10_roundOf a1 w)) q hq rfl
  unfold f_X10_roundOf
  refine dx_iconst (v := (1 : Int32)) C dX10_roundOf_0 (by decide) ?_
  refine dx_iload_n C 1 dX10_roundOf_1 rfl rfl ?_
  refine dx_ishl C dX10_roundOf_2 ?_
  refine dx_lt (fun t1 => ?_)
  refine dx_istore_n C [(2, .int t1), (0, .ref (z + 134)), (1, .int a1)] dX10_roundOf_3 rfl (by decide) rfl ?_
  refine dx_iconst (v := (1 : Int32)) C dX10_roundOf_4 (by decide) ?_
  refine dx_istore_n C [(3, .int (1 : Int32)), (2, .int t1), (0, .ref (z + 134)), (1, .int a1)] dX10_roundOf_5 rfl (by decide) rfl ?_
  refine dx_mv (lo2 := [(0, .ref (z + 134)), (1, .int a1), (2, .int t1), (3, .int (1 : Int32))]) [2, 3, 1, 0] rfl ?_
  refine dx_lp (fun s6 => [(0, .ref (z + 134)), (1, .int a1), (2, .int s6.1), (3, .int s6.2)]) [] (fun s6 => w) (fun s6 => (?_ : DX p l e _ s m _ below meth c G z 4 n _ _ 6 [(0, .ref (z + 134)), (1, .int a1), (2, .int s6.1), (3, .int s6.2)] [] w _)) 5000000000 (t1, (1 : Int32))
  refine dx_iload_n C 3 dX10_roundOf_6 rfl rfl ?_
  refine dx_aload_n C 0 dX10_roundOf_7 rfl rfl ?_
  refine dgX10_153 C dX10_roundOf_8 ?_
  refine dx_icmp_gt C 36 dX10_roundOf_11 (by decide) ?_ ?_
  · refine dx_iconst (v := (-1 : Int32)) C dX10_roundOf_36 (by decide) ?_
    exact dx_iret1 C hr hlk dX10_roundOf_37 (fun h => h)
  · refine dx_aload_n C 0 dX10_roundOf_14 rfl rfl ?_
    refine dx_iload_n C 2 dX10_roundOf_15 rfl rfl ?_
    refine dx_callV1 C cl_X10_onward kmX10_187 (ci := 9) (b := 134) (As := [.int s6.1]) (rest := []) rfl (hp_of ly_134) (tf_X10_onward s6.1 w) rfl rfl (Nat.le_of_ble_eq_true rfl) ⟨Nat.le_of_ble_eq_true rfl, Nat.le_of_ble_eq_true rfl⟩ dX10_roundOf_16 (fun r2 => ?_)
    refine dx_istore_n C [(2, .int r2), (0, .ref (z + 134)), (1, .int a1), (3, .int s6.2)] dX10_roundOf_19 rfl (by decide) rfl ?_
    refine dx_iload_n C 0 dX10_roundOf_20 rfl rfl ?_
    refine dx_iload_n C 2 dX10_roundOf_21 rfl rfl ?_
    refine dx_callS1 C cl_X10_has kmX10_168 (As := [.int r2, .int a1]) (rest := []) (tf_X10_has r2 a1 w) rfl rfl (Nat.le_of_ble_eq_true rfl) ⟨Nat.le_of_ble_eq_true rfl, Nat.le_of_ble_eq_true rfl⟩ dX10_roundOf_22 (fun r3 => ?_)
    refine dx_if_eq C 30 dX10_roundOf_25 (by decide) ?_ ?_
    · refine dx_iinc (v := (s6.2 + (1 : Int32))) C 3 [(3, .int (s6.2 + (1 : Int32))), (2, .int r2), (0, .ref (z + 134)), (1, .int a1)] dX10_roundOf_30 rfl rfl (by decide) rfl ?_
      refine dx_goto C 6 dX10_roundOf_33 (by decide) ?_
      refine dx_mv (lo2 := [(0, .ref (z + 134)), (1, .int a1), (2, .int r2), (3, .int (s6.2 + (1 : Int32)))]) [2, 3, 1, 0] rfl ?_
      exact dx_end (fun h => h)
    · refine dx_iload_n C 3 dX10_roundOf_28 rfl rfl ?_
      exact dx_iret1 C hr hlk dX10_roundOf_29 (fun h => h)
def f_X10_matter (a1 : Int32) (a2 : Int32) (w : Mem) : Option (Int32) :=
  (f_X10_isMatter a1 w).bind fun r1 => (if r1 = 0 then some ((-1000000001 : Int32)) else (if a2 = (0 : Int32) then rd 8 (w 141) a1 fun x2 => some (x2) else (if a2 = (1 : Int32) then rd 8 (w 142) a1 fun x4 => some (x4) else (if a2 = (2 : Int32) then (f_X10_leadsFrom a1 w).bind fun r6 => some (r6) else (if a2 = (3 : Int32) then (f_X10_roundOf a1 w).bind fun r8 => some (r8) else some ((-1000000002 : Int32)))))))
set_option maxRecDepth 20000 in
set_option maxHeartbeats 4000000 in
theorem tf_X10_matter {G : GT} {l : Launch} {z n : Nat} (a1 : Int32) (a2 : Int32) (w : Mem) (q : Int32) (hq : f_X10_matter a1 a2 w = some q) : Mt G l z yX10_matter cX10_matter 3 (some .int) { frames := 3, cells := 0, slots := 0, locals := 67 } [.ref (z + 134), .int a1, .int a2] (hp G z w) n (some (.int q)) (hp G z w) n := by
  refine mt_of (by decide +kernel) (Nat.le_of_ble_eq_true rfl) ?_
  intro p e s m below meth c C hr hlk hnm
  refine (?_ : DX p l e _ s m _ below meth c G z 3 n _ (fun v => v = q) 0 [(0, .ref (z + 134)), (1, .int a1), (2, .int a2)] [] w (f_X10_matter a1 a2 w)) q hq rfl
  unfold f_X10_matter
  refine dx_aload_n C 0 dX10_matter_0 rfl rfl ?_
  refine dx_iload_n C 1 dX10_matter_1 rfl rfl ?_
  refine dx_callV1 C cl_X10_isMatter kmX10_190 (ci := 9) (b := 134) (As := [.int a1]) (rest := []) rfl (hp_of ly_134) (tf_X10_isMatter a1 w) rfl rfl (Nat.le_of_ble_eq_true rfl) ⟨Nat.le_of_ble_eq_true rfl, Nat.le_of_ble_eq_true rfl⟩ dX10_matter_2 (fun r1 => ?_)
  refine dx_if_ne C 11 dX10_matter_5 (by decide) ?_ ?_
  · refine dx_iload_n C 2 dX10_matter_11 rfl rfl ?_
    refine dx_ite (fun hs3 => ?_) (fun hs3 => ?_)
    · refine dx_tableIn C 44 dX10_matter_12 (by rw [hs3]; decide) (by rw [hs3]; decide) (by rw [hs3]; rfl) (by decide) ?_
      refine dx_aload_n C 0 dX10_matter_44 rfl rfl ?_
      refine dgX10_32 C dX10_matter_45 ?_
      refine dx_iload_n C 1 dX10_matter_48 rfl rfl ?_
      refine dx_rd C ly_141 dX10_matter_49 (fun x2 => ?_)
      exact dx_iret1 C hr hlk dX10_matter_50 (fun h => h)
    · refine dx_ite (fun hs5 => ?_) (fun hs5 => ?_)
      · refine dx_tableIn C 51 dX10_matter_12 (by rw [hs5]; decide) (by rw [hs5]; decide) (by rw [hs5]; rfl) (by decide) ?_
        refine dx_aload_n C 0 dX10_matter_51 rfl rfl ?_
        refine dgX10_35 C dX10_matter_52 ?_
        refine dx_iload_n C 1 dX10_matter_55 rfl rfl ?_
        refine dx_rd C ly_142 dX10_matter_56 (fun x4 => ?_)
        exact dx_iret1 C hr hlk dX10_matter_57 (fun h => h)
      · refine dx_ite (fun hs7 => ?_) (fun hs7 => ?_)
        · refine dx_tableIn C 58 dX10_matter_12 (by rw [hs7]; decide) (by rw [hs7]; decide) (by rw [hs7]; rfl) (by decide) ?_
          refine dx_aload_n C 0 dX10_matter_58 rfl rfl ?_
          refine dx_iload_n C 1 dX10_matter_59 rfl rfl ?_
          refine dx_callV1 C cl_X10_leadsFrom kmX10_194 (ci := 9) (b := 134) (As := [.int a1]) (rest := []) rfl (hp_of ly_134) (tf_X10_leadsFrom a1 w) rfl rfl (Nat.le_of_ble_eq_true rfl) ⟨Nat.le_of_ble_eq_true rfl, Nat.le_of_ble_eq_true rfl⟩ dX10_matter_60 (fun r6 => ?_)
          exact dx_iret1 C hr hlk dX10_matter_63 (fun h => h)
        · refine dx_ite (fun hs9 => ?_) (fun hs9 => ?_)
          · refine dx_tableIn C 64 dX10_matter_12 (by rw [hs9]; decide) (by rw [hs9]; decide) (by rw [hs9]; rfl) (by decide) ?_
            refine dx_aload_n C 0 dX10_matter_64 rfl rfl ?_
            refine dx_iload_n C 1 dX10_matter_65 rfl rfl ?_
            refine dx_callV1 C cl_X10_roundOf kmX10_197 (ci := 9) (b := 134) (As := [.int a1]) (rest := []) rfl (hp_of ly_134) (tf_X10_roundOf a1 w) rfl rfl (Nat.le_of_ble_eq_true rfl) ⟨Nat.le_of_ble_eq_true rfl, Nat.le_of_ble_eq_true rfl⟩ dX10_matter_66 (fun r8 => ?_)
            exact dx_iret1 C hr hlk dX10_matter_69 (fun h => h)
          · have ehs3 : (a2).toInt ≠ 0 := fun q => hs3 ((i_eq_iff _ _).mpr (q.trans (by decide)))
            have ehs5 : (a2).toInt ≠ 1 := fun q => hs5 ((i_eq_iff _ _).mpr (q.trans (by decide)))
            have ehs7 : (a2).toInt ≠ 2 := fun q => hs7 ((i_eq_iff _ _).mpr (q.trans (by decide)))
            have ehs9 : (a2).toInt ≠ 3 := fun q => hs9 ((i_eq_iff _ _).mpr (q.trans (by decide)))
            refine dx_tableOut C 70 dX10_matter_12 (by omega) (by decide) ?_
            refine dx_ldc C kcX10_86 dX10_matter_70 ?_
            exact dx_iret1 C hr hlk dX10_matter_72 (fun h => h)
  · refine dx_ldc C kcX10_193 dX10_matter_8 ?_
    exact dx_iret1 C hr hlk dX10_matter_10 (fun h => h)
def f_X10_isTraveller (a1 : Int32) (w : Mem) : Option (Int32) :=
  (f_X10_in a1 (0 : Int32) ((w 134 18) - (1 : Int32))).bind fun r1 => zr r1 (some (r1))
set_option maxRecDepth 20000 in
set_option maxHeartbeats 4000000 in
theorem tf_X10_isTraveller {G : GT} {l : Launch} {z n : Nat} (a1 : Int32) (w : Mem) (q : Int32) (hq : f_X10_isTraveller a1 w = some q) : Mt G l z yX10_isTraveller cX10_isTraveller 2 (some .boolean) { frames := 1, cells := 0, slots := 0, locals := 22 } [.ref (z + 134), .int a1] (hp G z w) n (some (.int q)) (hp G z w) n := by
  refine mt_of (by decide +kernel) (Nat.le_of_ble_eq_true rfl) ?_
  intro p e s m below meth c C hr hlk hnm
  refine (?_ : DX p l e _ s m _ below meth c G z 2 n _ (fun v => v = q) 0 [(0, .ref (z + 134)), (1, .int a1)] [] w (f_X10_isTraveller a1 w)) q hq rfl
  unfold f_X10_isTraveller
  refine dx_iload_n C 1 dX10_isTraveller_0 rfl rfl ?_
  refine dx_iconst (v := (0 : Int32)) C dX10_isTraveller_1 (by decide) ?_
  refine dx_aload_n C 0 dX10_isTraveller_2 rfl rfl ?_
  refine dgX10_156 C dX10_isTraveller_3 ?_
  refine dx_iconst (v := (1 : Int32)) C dX10_isTraveller_6 (by decide) ?_
  refine dx_isub C dX10_isTraveller_7 ?_
  refine dx_callS1 C cl_X10_in kmX10_82 (As := [.int a1, .int (0 : Int32), .int ((w 134 18) - (1 : Int32))]) (rest := []) (tf_X10_in a1 (0 : Int32) ((w 134 18) - (1 : Int32)) w) rfl rfl (Nat.le_of_ble_eq_true rfl) ⟨Nat.le_of_ble_eq_true rfl, Nat.le_of_ble_eq_true rfl⟩ dX10_isTraveller_8 (fun r1 => ?_)
  refine dx_zr (fun hz2 => ?_)
  exact dx_zret1 C hr hlk hz2 dX10_isTraveller_11 (fun h => h)
def f_X10_limit (a1 : Int32) (w : Mem) : Option (Int32) :=
  rd 6 (w 144) a1 fun x1 => some (((60 : Int32) - ((5 : Int32) * x1)))
set_option maxRecDepth 20000 in
set_option maxHeartbeats 4000000 in
theorem tf_X10_limit {G : GT} {l : Launch} {z n : Nat} (a1 : Int32) (w : Mem) (q : Int32) (hq : f_X10_limit a1 w = some q) : Mt G l z yX10_limit cX10_limit 2 (some .int) { frames := 0, cells := 0, slots := 0, locals := 0 } [.ref (z + 134), .int a1] (hp G z w) n (some (.int q)) (hp G z w) n := by
  refine mt_of (by decide +kernel) (Nat.le_of_ble_eq_true rfl) ?_
  intro p e s m below meth c C hr hlk hnm
  refine (?_ : DX p l e _ s m _ below meth c G z 2 n _ (fun v => v = q) 0 [(0, .ref (z + 134)), (1, .int a1)] [] w (f_X10_limit a1 w)) q hq rfl
  unfold f_X10_limit
  refine dx_bipush (v := (60 : Int32)) C dX10_limit_0 (by decide) ?_
  refine dx_iconst (v := (5 : Int32)) C dX10_limit_2 (by decide) ?_
  refine dx_aload_n C 0 dX10_limit_3 rfl rfl ?_
  refine dgX10_41 C dX10_limit_4 ?_
  refine dx_iload_n C 1 dX10_limit_7 rfl rfl ?_
  refine dx_rd C ly_144 dX10_limit_8 (fun x1 => ?_)
  refine dx_imul C dX10_limit_9 ?_
  refine dx_isub C dX10_limit_10 ?_
  exact dx_iret1 C hr hlk dX10_limit_11 (fun h => h)
def f_X10_favourite (a1 : Int32) (w : Mem) : Option (Int32) :=
  (lp (S := (Int32 × Int32 × Int32)) (T := Int32) (fun s7 => (if s7.2.2 < (w 134 17) then (f_X10_stayOf a1 s7.2.2 w).bind fun r1 => ((if s7.2.1 < r1 then some (s7.2.2) else some (s7.1)) : Option Int32).bind fun v2 => (f_X10_stayOf a1 s7.2.2 w).bind fun r3 => ((if s7.2.1 < r3 then (f_X10_stayOf a1 s7.2.2 w).bind fun r5 => some (r5) else some (s7.2.1)) : Option Int32).bind fun v4 => some (Sum.inl (v2, v4, (s7.2.2 + (1 : Int32)))) else some (Sum.inr s7.1))) 5000000000 ((-1 : Int32), (0 : Int32), (0 : Int32))).bind fun v6 => some (v6)
set_option maxRecDepth 20000 in
set_option maxHeartbeats 4000000 in
theorem tf_X10_favourite {G : GT} {l : Launch} {z n : Nat} (a1 : Int32) (w : Mem) (q : Int32) (hq : f_X10_favourite a1 w = some q) : Mt G l z yX10_favourite cX10_favourite 5 (some .int) { frames := 2, cells := 0, slots := 0, locals := 45 } [.ref (z + 134), .int a1] (hp G z w) n (some (.int q)) (hp G z w) n := by
  refine mt_of (by decide +kernel) (Nat.le_of_ble_eq_true rfl) ?_
  intro p e s m below meth c C hr hlk hnm
  refine (?_ : DX p l e _ s m _ below meth c G z 5 n _ (fun v => v = q) 0 [(0, .ref (z + 134)), (1, .int a1)] [] w (f_X10_favourite a1 w)) q hq rfl
  unfold f_X10_favourite
  refine dx_iconst (v := (-1 : Int32)) C dX10_favourite_0 (by decide) ?_
  refine dx_istore_n C [(2, .int (-1 : Int32)), (0, .ref (z + 134)), (1, .int a1)] dX10_favourite_1 rfl (by decide) rfl ?_
  refine dx_iconst (v := (0 : Int32)) C dX10_favourite_2 (by decide) ?_
  refine dx_istore_n C [(3, .int (0 : Int32)), (2, .int (-1 : Int32)), (0, .ref (z + 134)), (1, .int a1)] dX10_favourite_3 rfl (by decide) rfl ?_
  refine dx_iconst (v := (0 : Int32)) C dX10_favourite_4 (by decide) ?_
  refine dx_istore C [(4, .int (0 : Int32)), (3, .int (0 : Int32)), (2, .int (-1 : Int32)), (0, .ref (z + 134)), (1, .int a1)] dX10_favourite_5 (by decide) rfl ?_
  refine dx_mv (lo2 := [(0, .ref (z + 134)), (1, .int a1), (2, .int (-1 : Int32)), (3, .int (0 : Int32)), (4, .int (0 : Int32))]) [3, 4, 2, 1, 0] rfl ?_
  refine dx_bind 63 (fun v6 => [(2, .int v6)]) (fun v6 => []) (fun v6 => w) (fun v6 => (?_ : DX p l e _ s m _ below meth c G z 5 n _ _ 63 [(2, .int v6)] [] w _)) ?_
  · refine dx_iload_n C 0 dX10_favourite_63 rfl rfl ?_
    exact dx_iret1 C hr hlk dX10_favourite_64 (fun h => h)
  · refine dx_lp (fun s7 => [(0, .ref (z + 134)), (1, .int a1), (2, .int s7.1), (3, .int s7.2.1), (4, .int s7.2.2)]) [] (fun s7 => w) (fun s7 => (?_ : DX p l e _ s m _ below meth c G z 5 n _ _ 7 [(0, .ref (z + 134)), (1, .int a1), (2, .int s7.1), (3, .int s7.2.1), (4, .int s7.2.2)] [] w _)) 5000000000 ((-1 : Int32), (0 : Int32), (0 : Int32))
    refine dx_iload C 4 dX10_favourite_7 rfl ?_
    refine dx_aload_n C 0 dX10_favourite_9 rfl rfl ?_
    refine dgX10_153 C dX10_favourite_10 ?_
    refine dx_icmp_ge C 63 dX10_favourite_13 (by decide) ?_ ?_
    · refine dx_mv (lo2 := [(2, .int s7.1)]) [2] rfl ?_
      exact dx_end (fun h => h)
    · refine dx_aload_n C 0 dX10_favourite_16 rfl rfl ?_
      refine dx_iload_n C 1 dX10_favourite_17 rfl rfl ?_
      refine dx_iload C 4 dX10_favourite_18 rfl ?_
      refine dx_callV1 C cl_X10_stayOf kmX10_200 (ci := 9) (b := 134) (As := [.int a1, .int s7.2.2]) (rest := []) rfl (hp_of ly_134) (tf_X10_stayOf a1 s7.2.2 w) rfl rfl (Nat.le_of_ble_eq_true rfl) ⟨Nat.le_of_ble_eq_true rfl, Nat.le_of_ble_eq_true rfl⟩ dX10_favourite_20 (fun r1 => ?_)
      refine dx_iload_n C 3 dX10_favourite_23 rfl rfl ?_
      refine dx_bind 33 (fun v2 => [(0, .ref (z + 134)), (1, .int a1), (3, .int s7.2.1), (4, .int s7.2.2)]) (fun v2 => [.int v2]) (fun v2 => w) (fun v2 => (?_ : DX p l e _ s m _ below meth c G z 5 n _ _ 33 [(0, .ref (z + 134)), (1, .int a1), (3, .int s7.2.1), (4, .int s7.2.2)] [.int v2] w _)) ?_
      · refine dx_istore_n C [(2, .int v2), (0, .ref (z + 134)), (1, .int a1), (3, .int s7.2.1), (4, .int s7.2.2)] dX10_favourite_33 rfl (by decide) rfl ?_
        refine dx_aload_n C 1 dX10_favourite_34 rfl rfl ?_
        refine dx_iload_n C 2 dX10_favourite_35 rfl rfl ?_
        refine dx_iload C 4 dX10_favourite_36 rfl ?_
        refine dx_callV1 C cl_X10_stayOf kmX10_200 (ci := 9) (b := 134) (As := [.int a1, .int s7.2.2]) (rest := []) rfl (hp_of ly_134) (tf_X10_stayOf a1 s7.2.2 w) rfl rfl (Nat.le_of_ble_eq_true rfl) ⟨Nat.le_of_ble_eq_true rfl, Nat.le_of_ble_eq_true rfl⟩ dX10_favourite_38 (fun r3 => ?_)
        refine dx_iload_n C 3 dX10_favourite_41 rfl rfl ?_
        refine dx_bind 56 (fun v4 => [(0, .ref (z + 134)), (1, .int a1), (2, .int v2), (4, .int s7.2.2)]) (fun v4 => [.int v4]) (fun v4 => w) (fun v4 => (?_ : DX p l e _ s m _ below meth c G z 5 n _ _ 56 [(0, .ref (z + 134)), (1, .int a1), (2, .int v2), (4, .int s7.2.2)] [.int v4] w _)) ?_
        · refine dx_istore_n C [(3, .int v4), (0, .ref (z + 134)), (1, .int a1), (2, .int v2), (4, .int s7.2.2)] dX10_favourite_56 rfl (by decide) rfl ?_
          refine dx_iinc (v := (s7.2.2 + (1 : Int32))) C 4 [(4, .int (s7.2.2 + (1 : Int32))), (3, .int v4), (0, .ref (z + 134)), (1, .int a1), (2, .int v2)] dX10_favourite_57 rfl rfl (by decide) rfl ?_
          refine dx_goto C 7 dX10_favourite_60 (by decide) ?_
          refine dx_mv (lo2 := [(0, .ref (z + 134)), (1, .int a1), (2, .int v2), (3, .int v4), (4, .int (s7.2.2 + (1 : Int32)))]) [2, 3, 4, 1, 0] rfl ?_
          exact dx_end (fun h => h)
        · refine dx_icmp_le C 55 dX10_favourite_42 (by decide) ?_ ?_
          · refine dx_iload_n C 3 dX10_favourite_55 rfl rfl ?_
            refine dx_mv (lo2 := [(0, .ref (z + 134)), (1, .int a1), (2, .int v2), (4, .int s7.2.2)]) [1, 2, 0, 4] rfl ?_
            exact dx_end (fun h => h)
          · refine dx_aload_n C 1 dX10_favourite_45 rfl rfl ?_
            refine dx_iload_n C 2 dX10_favourite_46 rfl rfl ?_
            refine dx_iload C 4 dX10_favourite_47 rfl ?_
            refine dx_callV1 C cl_X10_stayOf kmX10_200 (ci := 9) (b := 134) (As := [.int a1, .int s7.2.2]) (rest := []) rfl (hp_of ly_134) (tf_X10_stayOf a1 s7.2.2 w) rfl rfl (Nat.le_of_ble_eq_true rfl) ⟨Nat.le_of_ble_eq_true rfl, Nat.le_of_ble_eq_true rfl⟩ dX10_favourite_49 (fun r5 => ?_)
            refine dx_goto C 56 dX10_favourite_52 (by decide) ?_
            refine dx_mv (lo2 := [(0, .ref (z + 134)), (1, .int a1), (2, .int v2), (4, .int s7.2.2)]) [1, 2, 0, 4] rfl ?_
            exact dx_end (fun h => h)
      · refine dx_icmp_le C 32 dX10_favourite_24 (by decide) ?_ ?_
        · refine dx_iload_n C 2 dX10_favourite_32 rfl rfl ?_
          refine dx_mv (lo2 := [(0, .ref (z + 134)), (1, .int a1), (3, .int s7.2.1), (4, .int s7.2.2)]) [0, 1, 3, 4] rfl ?_
          exact dx_end (fun h => h)
        · refine dx_iload C 4 dX10_favourite_27 rfl ?_
          refine dx_goto C 33 dX10_favourite_29 (by decide) ?_
          refine dx_mv (lo2 := [(0, .ref (z + 134)), (1, .int a1), (3, .int s7.2.1), (4, .int s7.2.2)]) [0, 1, 3, 4] rfl ?_
          exact dx_end (fun h => h)
def f_X10_traveller (a1 : Int32) (a2 : Int32) (w : Mem) : Option (Int32) :=
  (f_X10_isTraveller a1 w).bind fun r1 => (if r1 = 0 then some ((-1000000001 : Int32)) else (if a2 = (0 : Int32) then rd 6 (w 143) a1 fun x2 => some (x2) else (if a2 = (1 : Int32) then rd 6 (w 144) a1 fun x4 => some (x4) else (if a2 = (2 : Int32) then rd 6 (w 145) a1 fun x6 => some (x6) else (if a2 = (3 : Int32) then rd 25 (w 146) ((13 : Int32) + a1) fun x8 => some (x8) else (if a2 = (4 : Int32) then rd 25 (w 146) ((19 : Int32) + a1) fun x10 => some (x10) else (if a2 = (5 : Int32) then rd 25 (w 146) ((7 : Int32) + a1) fun x12 => (if x12 = 0 then (f_X10_limit a1 w).bind fun r13 => rd 25 (w 146) ((19 : Int32) + a1) fun x14 => some ((r13 - x14)) else some ((0 : Int32))) else (if a2 = (6 : Int32) then (f_X10_favourite a1 w).bind fun r16 => some (r16) else some ((-1000000002 : Int32))))))))))
set_option maxRecDepth 20000 in
set_option maxHeartbeats 4000000 in
theorem tf_X10_traveller {G : GT} {l : Launch} {z n : Nat} (a1 : Int32) (a2 : Int32) (w : Mem) (q : Int32) (hq : f_X10_traveller a1 a2 w = some q) : Mt G l z yX10_traveller cX10_traveller 3 (some .int) { frames := 3, cells := 0, slots := 0, locals := 69 } [.ref (z + 134), .int a1, .int a2] (hp G z w) n (some (.int q)) (hp G z w) n := by
  refine mt_of (by decide +kernel) (Nat.le_of_ble_eq_true rfl) ?_
  intro p e s m below meth c C hr hlk hnm
  refine (?_ : DX p l e _ s m _ below meth c G z 3 n _ (fun v => v = q) 0 [(0, .ref (z + 134)), (1, .int a1), (2, .int a2)] [] w (f_X10_traveller a1 a2 w)) q hq rfl
  unfold f_X10_traveller
  refine dx_aload_n C 0 dX10_traveller_0 rfl rfl ?_
  refine dx_iload_n C 1 dX10_traveller_1 rfl rfl ?_
  refine dx_callV1 C cl_X10_isTraveller kmX10_203 (ci := 9) (b := 134) (As := [.int a1]) (rest := []) rfl (hp_of ly_134) (tf_X10_isTraveller a1 w) rfl rfl (Nat.le_of_ble_eq_true rfl) ⟨Nat.le_of_ble_eq_true rfl, Nat.le_of_ble_eq_true rfl⟩ dX10_traveller_2 (fun r1 => ?_)
  refine dx_if_ne C 11 dX10_traveller_5 (by decide) ?_ ?_
  · refine dx_iload_n C 2 dX10_traveller_11 rfl rfl ?_
    refine dx_ite (fun hs3 => ?_) (fun hs3 => ?_)
    · refine dx_tableIn C 56 dX10_traveller_12 (by rw [hs3]; decide) (by rw [hs3]; decide) (by rw [hs3]; rfl) (by decide) ?_
      refine dx_aload_n C 0 dX10_traveller_56 rfl rfl ?_
      refine dgX10_38 C dX10_traveller_57 ?_
      refine dx_iload_n C 1 dX10_traveller_60 rfl rfl ?_
      refine dx_rd C ly_143 dX10_traveller_61 (fun x2 => ?_)
      exact dx_iret1 C hr hlk dX10_traveller_62 (fun h => h)
    · refine dx_ite (fun hs5 => ?_) (fun hs5 => ?_)
      · refine dx_tableIn C 63 dX10_traveller_12 (by rw [hs5]; decide) (by rw [hs5]; decide) (by rw [hs5]; rfl) (by decide) ?_
        refine dx_aload_n C 0 dX10_traveller_63 rfl rfl ?_
        refine dgX10_41 C dX10_traveller_64 ?_
        refine dx_iload_n C 1 dX10_traveller_67 rfl rfl ?_
        refine dx_rd C ly_144 dX10_traveller_68 (fun x4 => ?_)
        exact dx_iret1 C hr hlk dX10_traveller_69 (fun h => h)
      · refine dx_ite (fun hs7 => ?_) (fun hs7 => ?_)
        · refine dx_tableIn C 70 dX10_traveller_12 (by rw [hs7]; decide) (by rw [hs7]; decide) (by rw [hs7]; rfl) (by decide) ?_
          refine dx_aload_n C 0 dX10_traveller_70 rfl rfl ?_
          refine dgX10_44 C dX10_traveller_71 ?_
          refine dx_iload_n C 1 dX10_traveller_74 rfl rfl ?_
          refine dx_rd C ly_145 dX10_traveller_75 (fun x6 => ?_)
          exact dx_iret1 C hr hlk dX10_traveller_76 (fun h => h)
        · refine dx_ite (fun hs9 => ?_) (fun hs9 => ?_)
          · refine dx_tableIn C 77 dX10_traveller_12 (by rw [hs9]; decide) (by rw [hs9]; decide) (by rw [hs9]; rfl) (by decide) ?_
            refine dx_aload_n C 0 dX10_traveller_77 rfl rfl ?_
            refine dgX10_47 C dX10_traveller_78 ?_
            refine dx_bipush (v := (13 : Int32)) C dX10_traveller_81 (by decide) ?_
            refine dx_iload_n C 1 dX10_traveller_83 rfl rfl ?_
            refine dx_iadd C dX10_traveller_84 ?_
            refine dx_rd C ly_146 dX10_traveller_85 (fun x8 => ?_)
            exact dx_iret1 C hr hlk dX10_traveller_86 (fun h => h)
          · refine dx_ite (fun hs11 => ?_) (fun hs11 => ?_)
            · refine dx_tableIn C 87 dX10_traveller_12 (by rw [hs11]; decide) (by rw [hs11]; decide) (by rw [hs11]; rfl) (by decide) ?_
              refine dx_aload_n C 0 dX10_traveller_87 rfl rfl ?_
              refine dgX10_47 C dX10_traveller_88 ?_
              refine dx_bipush (v := (19 : Int32)) C dX10_traveller_91 (by decide) ?_
              refine dx_iload_n C 1 dX10_traveller_93 rfl rfl ?_
              refine dx_iadd C dX10_traveller_94 ?_
              refine dx_rd C ly_146 dX10_traveller_95 (fun x10 => ?_)
              exact dx_iret1 C hr hlk dX10_traveller_96 (fun h => h)
            · refine dx_ite (fun hs15 => ?_) (fun hs15 => ?_)
              · refine dx_tableIn C 97 dX10_traveller_12 (by rw [hs15]; decide) (by rw [hs15]; decide) (by rw [hs15]; rfl) (by decide) ?_
                refine dx_aload_n C 0 dX10_traveller_97 rfl rfl ?_
                refine dgX10_47 C dX10_traveller_98 ?_
                refine dx_bipush (v := (7 : Int32)) C dX10_traveller_101 (by decide) ?_
                refine dx_iload_n C 1 dX10_traveller_103 rfl rfl ?_
                refine dx_iadd C dX10_traveller_104 ?_
                refine dx_rd C ly_146 dX10_traveller_105 (fun x12 => ?_)
                refine dx_if_ne C 127 dX10_traveller_106 (by decide) ?_ ?_
                · refine dx_iconst (v := (0 : Int32)) C dX10_traveller_127 (by decide) ?_
                  exact dx_iret1 C hr hlk dX10_traveller_128 (fun h => h)
                · refine dx_aload_n C 0 dX10_traveller_109 rfl rfl ?_
                  refine dx_iload_n C 1 dX10_traveller_110 rfl rfl ?_
                  refine dx_callV1 C cl_X10_limit kmX10_206 (ci := 9) (b := 134) (As := [.int a1]) (rest := []) rfl (hp_of ly_134) (tf_X10_limit a1 w) rfl rfl (Nat.le_of_ble_eq_true rfl) ⟨Nat.le_of_ble_eq_true rfl, Nat.le_of_ble_eq_true rfl⟩ dX10_traveller_111 (fun r13 => ?_)
                  refine dx_aload_n C 0 dX10_traveller_114 rfl rfl ?_
                  refine dgX10_47 C dX10_traveller_115 ?_
                  refine dx_bipush (v := (19 : Int32)) C dX10_traveller_118 (by decide) ?_
                  refine dx_iload_n C 1 dX10_traveller_120 rfl rfl ?_
                  refine dx_iadd C dX10_traveller_121 ?_
                  refine dx_rd C ly_146 dX10_traveller_122 (fun x14 => ?_)
                  refine dx_isub C dX10_traveller_123 ?_
                  refine dx_goto C 128 dX10_traveller_124 (by decide) ?_
                  exact dx_iret1 C hr hlk dX10_traveller_128 (fun h => h)
              · refine dx_ite (fun hs17 => ?_) (fun hs17 => ?_)
                · refine dx_tableIn C 129 dX10_traveller_12 (by rw [hs17]; decide) (by rw [hs17]; decide) (by rw [hs17]; rfl) (by decide) ?_
                  refine dx_aload_n C 0 dX10_traveller_129 rfl rfl ?_
                  refine dx_iload_n C 1 dX10_traveller_130 rfl rfl ?_
                  refine dx_callV1 C cl_X10_favourite kmX10_209 (ci := 9) (b := 134) (As := [.int a1]) (rest := []) rfl (hp_of ly_134) (tf_X10_favourite a1 w) rfl rfl (Nat.le_of_ble_eq_true rfl) ⟨Nat.le_of_ble_eq_true rfl, Nat.le_of_ble_eq_true rfl⟩ dX10_traveller_131 (fun r16 => ?_)
                  exact dx_iret1 C hr hlk dX10_traveller_134 (fun h => h)
                · have ehs3 : (a2).toInt ≠ 0 := fun q => hs3 ((i_eq_iff _ _).mpr (q.trans (by decide)))
                  have ehs5 : (a2).toInt ≠ 1 := fun q => hs5 ((i_eq_iff _ _).mpr (q.trans (by decide)))
                  have ehs7 : (a2).toInt ≠ 2 := fun q => hs7 ((i_eq_iff _ _).mpr (q.trans (by decide)))
                  have ehs9 : (a2).toInt ≠ 3 := fun q => hs9 ((i_eq_iff _ _).mpr (q.trans (by decide)))
                  have ehs11 : (a2).toInt ≠ 4 := fun q => hs11 ((i_eq_iff _ _).mpr (q.trans (by decide)))
                  have ehs15 : (a2).toInt ≠ 5 := fun q => hs15 ((i_eq_iff _ _).mpr (q.trans (by decide)))
                  have ehs17 : (a2).toInt ≠ 6 := fun q => hs17 ((i_eq_iff _ _).mpr (q.trans (by decide)))
                  refine dx_tableOut C 135 dX10_traveller_12 (by omega) (by decide) ?_
                  refine dx_ldc C kcX10_86 dX10_traveller_135 ?_
                  exact dx_iret1 C hr hlk dX10_traveller_137 (fun h => h)
  · refine dx_ldc C kcX10_193 dX10_traveller_8 ?_
    exact dx_iret1 C hr hlk dX10_traveller_10 (fun h => h)
def f_X10_remember (w : Mem) : Option (Mem) :=
  (lp (S := (Int32 × Mem)) (T := Mem) (fun s2 => (if s2.1 < (25 : Int32) then rd 25 (s2.2 146) s2.1 fun x1 => wr 750 147 (((25 : Int32) * (s2.2 134 26)) + s2.1) x1 s2.2 fun w2 => some (Sum.inl ((s2.1 + (1 : Int32)), w2)) else some (Sum.inr s2.2))) 5000000000 ((0 : Int32), w)).bind fun v3 => pw 134 26 (((v3 134 26) + (1 : Int32)) - ((v3 134 26) + (1 : Int32)) / (30 : Int32) * (30 : Int32)) v3 fun w4 => ((if (w4 134 25) < (30 : Int32) then some ((1 : Int32)) else some ((0 : Int32))) : Option Int32).bind fun v5 => pw 134 25 ((w4 134 25) + v5) w4 fun w6 => some (w6)
set_option maxRecDepth 20000 in
set_option maxHeartbeats 4000000 in
theorem tf_X10_remember {G : GT} {l : Launch} {z n : Nat} (w : Mem) (q : Mem) (hq : f_X10_remember w = some q) : Mt G l z yX10_remember cX10_remember 2 none { frames := 0, cells := 0, slots := 0, locals := 0 } [.ref (z + 134)] (hp G z w) n none (hp G z q) n := by
  refine mt_of (by decide +kernel) (Nat.le_of_ble_eq_true rfl) ?_
  intro p e s m below meth c C hr hlk hnm
  refine (?_ : DX p l e _ s m _ below meth c G z 2 n _ (fun v => v = q) 0 [(0, .ref (z + 134))] [] w (f_X10_remember w)) q hq rfl
  unfold f_X10_remember
  refine dx_iconst (v := (0 : Int32)) C dX10_remember_0 (by decide) ?_
  refine dx_istore_n C [(1, .int (0 : Int32)), (0, .ref (z + 134))] dX10_remember_1 rfl (by decide) rfl ?_
  refine dx_mv (lo2 := [(0, .ref (z + 134)), (1, .int (0 : Int32))]) [1, 0] rfl ?_
  refine dx_bind 34 (fun v3 => [(0, .ref (z + 134))]) (fun v3 => []) (fun v3 => v3) (fun v3 => (?_ : DX p l e _ s m _ below meth c G z 2 n _ _ 34 [(0, .ref (z + 134))] [] v3 _)) ?_
  · refine dx_aload_n C 0 dX10_remember_34 rfl rfl ?_
    refine dx_aload_n C 0 dX10_remember_35 rfl rfl ?_
    refine dgX10_212 C dX10_remember_36 ?_
    refine dx_iconst (v := (1 : Int32)) C dX10_remember_39 (by decide) ?_
    refine dx_iadd C dX10_remember_40 ?_
    refine dx_bipush (v := (30 : Int32)) C dX10_remember_41 (by decide) ?_
    refine dx_irem C dX10_remember_43 (by decide) ?_
    refine dpX10_212 C dX10_remember_44 (fun w4 => ?_)
    refine dx_aload_n C 0 dX10_remember_47 rfl rfl ?_
    refine dx_dup C dX10_remember_48 rfl ?_
    refine dgX10_159 C dX10_remember_49 ?_
    refine dx_aload_n C 0 dX10_remember_52 rfl rfl ?_
    refine dgX10_159 C dX10_remember_53 ?_
    refine dx_bipush (v := (30 : Int32)) C dX10_remember_56 (by decide) ?_
    refine dx_bind 66 (fun v5 => []) (fun v5 => [.int v5, .int (w4 134 25), .ref (z + 134)]) (fun v5 => w4) (fun v5 => (?_ : DX p l e _ s m _ below meth c G z 2 n _ _ 66 [] [.int v5, .int (w4 134 25), .ref (z + 134)] w4 _)) ?_
    · refine dx_iadd C dX10_remember_66 ?_
      refine dpX10_159 C dX10_remember_67 (fun w6 => ?_)
      exact dx_vret C hr hlk dX10_remember_70 (fun h => h)
    · refine dx_icmp_ge C 65 dX10_remember_58 (by decide) ?_ ?_
      · refine dx_iconst (v := (0 : Int32)) C dX10_remember_65 (by decide) ?_
        refine dx_mv (lo2 := []) [] rfl ?_
        exact dx_end (fun h => h)
      · refine dx_iconst (v := (1 : Int32)) C dX10_remember_61 (by decide) ?_
        refine dx_goto C 66 dX10_remember_62 (by decide) ?_
        refine dx_mv (lo2 := []) [] rfl ?_
        exact dx_end (fun h => h)
  · refine dx_lp (fun s2 => [(0, .ref (z + 134)), (1, .int s2.1)]) [] (fun s2 => s2.2) (fun s2 => (?_ : DX p l e _ s m _ below meth c G z 2 n _ _ 2 [(0, .ref (z + 134)), (1, .int s2.1)] [] s2.2 _)) 5000000000 ((0 : Int32), w)
    refine dx_iload_n C 1 dX10_remember_2 rfl rfl ?_
    refine dx_bipush (v := (25 : Int32)) C dX10_remember_3 (by decide) ?_
    refine dx_icmp_ge C 34 dX10_remember_5 (by decide) ?_ ?_
    · refine dx_mv (lo2 := [(0, .ref (z + 134))]) [0] rfl ?_
      exact dx_end (fun h => h)
    · refine dx_aload_n C 0 dX10_remember_8 rfl rfl ?_
      refine dgX10_50 C dX10_remember_9 ?_
      refine dx_bipush (v := (25 : Int32)) C dX10_remember_12 (by decide) ?_
      refine dx_aload_n C 0 dX10_remember_14 rfl rfl ?_
      refine dgX10_212 C dX10_remember_15 ?_
      refine dx_imul C dX10_remember_18 ?_
      refine dx_iload_n C 1 dX10_remember_19 rfl rfl ?_
      refine dx_iadd C dX10_remember_20 ?_
      refine dx_aload_n C 0 dX10_remember_21 rfl rfl ?_
      refine dgX10_47 C dX10_remember_22 ?_
      refine dx_iload_n C 1 dX10_remember_25 rfl rfl ?_
      refine dx_rd C ly_146 dX10_remember_26 (fun x1 => ?_)
      refine dx_wr C ly_147 dX10_remember_27 (fun w2 => ?_)
      refine dx_iinc (v := (s2.1 + (1 : Int32))) C 1 [(1, .int (s2.1 + (1 : Int32))), (0, .ref (z + 134))] dX10_remember_28 rfl rfl (by decide) rfl ?_
      refine dx_goto C 2 dX10_remember_31 (by decide) ?_
      refine dx_mv (lo2 := [(0, .ref (z + 134)), (1, .int (s2.1 + (1 : Int32)))]) [1, 0] rfl ?_
      exact dx_end (fun h => h)
def f_X10_seats (a1 : Int32) (w : Mem) : Option (Mem) :=
  wr 25 146 ((7 : Int32) + a1) (1 : Int32) w fun w1 => wr 25 146 (4 : Int32) a1 w1 fun w2 => wr 25 146 (5 : Int32) (0 : Int32) w2 fun w3 => wr 25 146 (6 : Int32) (-1 : Int32) w3 fun w4 => some (w4)
set_option maxRecDepth 20000 in
set_option maxHeartbeats 4000000 in
theorem tf_X10_seats {G : GT} {l : Launch} {z n : Nat} (a1 : Int32) (w : Mem) (q : Mem) (hq : f_X10_seats a1 w = some q) : Mt G l z yX10_seats cX10_seats 2 none { frames := 0, cells := 0, slots := 0, locals := 0 } [.ref (z + 134), .int a1] (hp G z w) n none (hp G z q) n := by
  refine mt_of (by decide +kernel) (Nat.le_of_ble_eq_true rfl) ?_
  intro p e s m below meth c C hr hlk hnm
  refine (?_ : DX p l e _ s m _ below meth c G z 2 n _ (fun v => v = q) 0 [(0, .ref (z + 134)), (1, .int a1)] [] w (f_X10_seats a1 w)) q hq rfl
  unfold f_X10_seats
  refine dx_aload_n C 0 dX10_seats_0 rfl rfl ?_
  refine dgX10_47 C dX10_seats_1 ?_
  refine dx_bipush (v := (7 : Int32)) C dX10_seats_4 (by decide) ?_
  refine dx_iload_n C 1 dX10_seats_6 rfl rfl ?_
  refine dx_iadd C dX10_seats_7 ?_
  refine dx_iconst (v := (1 : Int32)) C dX10_seats_8 (by decide) ?_
  refine dx_wr C ly_146 dX10_seats_9 (fun w1 => ?_)
  refine dx_aload_n C 0 dX10_seats_10 rfl rfl ?_
  refine dgX10_47 C dX10_seats_11 ?_
  refine dx_iconst (v := (4 : Int32)) C dX10_seats_14 (by decide) ?_
  refine dx_iload_n C 1 dX10_seats_15 rfl rfl ?_
  refine dx_wr C ly_146 dX10_seats_16 (fun w2 => ?_)
  refine dx_aload_n C 0 dX10_seats_17 rfl rfl ?_
  refine dgX10_47 C dX10_seats_18 ?_
  refine dx_iconst (v := (5 : Int32)) C dX10_seats_21 (by decide) ?_
  refine dx_iconst (v := (0 : Int32)) C dX10_seats_22 (by decide) ?_
  refine dx_wr C ly_146 dX10_seats_23 (fun w3 => ?_)
  refine dx_aload_n C 0 dX10_seats_24 rfl rfl ?_
  refine dgX10_47 C dX10_seats_25 ?_
  refine dx_bipush (v := (6 : Int32)) C dX10_seats_28 (by decide) ?_
  refine dx_iconst (v := (-1 : Int32)) C dX10_seats_30 (by decide) ?_
  refine dx_wr C ly_146 dX10_seats_31 (fun w4 => ?_)
  exact dx_vret C hr hlk dX10_seats_32 (fun h => h)
def f_X10_seat (a1 : Int32) (w : Mem) : Option (Int32 × Mem) :=
  (f_X10_isTraveller a1 w).bind fun r1 => (if r1 = 0 then some (((-1000000001 : Int32), w)) else rd 25 (w 146) (4 : Int32) fun x2 => (if x2 = (-1 : Int32) then rd 25 (w 146) ((7 : Int32) + a1) fun x3 => (if x3 = 0 then (f_X10_remember w).bind fun w4 => (f_X10_seats a1 w4).bind fun w5 => rd 25 (w5 146) ((19 : Int32) + a1) fun x6 => some ((x6, w5)) else some (((-1000000003 : Int32), w))) else some (((-1000000003 : Int32), w))))
set_option maxRecDepth 20000 in
set_option maxHeartbeats 4000000 in
theorem tf_X10_seat {G : GT} {l : Launch} {z n : Nat} (a1 : Int32) (w : Mem) (q : Int32 × Mem) (hq : f_X10_seat a1 w = some q) : Mt G l z yX10_seat cX10_seat 2 (some .int) { frames := 2, cells := 0, slots := 0, locals := 43 } [.ref (z + 134), .int a1] (hp G z w) n (some (.int q.1)) (hp G z q.2) n := by
  refine mt_of (by decide +kernel) (Nat.le_of_ble_eq_true rfl) ?_
  intro p e s m below meth c C hr hlk hnm
  refine (?_ : DX p l e _ s m _ below meth c G z 2 n _ (fun v => v = q) 0 [(0, .ref (z + 134)), (1, .int a1)] [] w (f_X10_seat a1 w)) q hq rfl
  unfold f_X10_seat
  refine dx_aload_n C 0 dX10_seat_0 rfl rfl ?_
  refine dx_iload_n C 1 dX10_seat_1 rfl rfl ?_
  refine dx_callV1 C cl_X10_isTraveller kmX10_203 (ci := 9) (b := 134) (As := [.int a1]) (rest := []) rfl (hp_of ly_134) (tf_X10_isTraveller a1 w) rfl rfl (Nat.le_of_ble_eq_true rfl) ⟨Nat.le_of_ble_eq_true rfl, Nat.le_of_ble_eq_true rfl⟩ dX10_seat_2 (fun r1 => ?_)
  refine dx_if_ne C 11 dX10_seat_5 (by decide) ?_ ?_
  · refine dx_aload_n C 0 dX10_seat_11 rfl rfl ?_
    refine dgX10_47 C dX10_seat_12 ?_
    refine dx_iconst (v := (4 : Int32)) C dX10_seat_15 (by decide) ?_
    refine dx_rd C ly_146 dX10_seat_16 (fun x2 => ?_)
    refine dx_iconst (v := (-1 : Int32)) C dX10_seat_17 (by decide) ?_
    refine dx_icmp_ne C 33 dX10_seat_18 (by decide) ?_ ?_
    · refine dx_ldc C kcX10_215 dX10_seat_33 ?_
      exact dx_iret2 C hr hlk dX10_seat_35 (fun h => h)
    · refine dx_aload_n C 0 dX10_seat_21 rfl rfl ?_
      refine dgX10_47 C dX10_seat_22 ?_
      refine dx_bipush (v := (7 : Int32)) C dX10_seat_25 (by decide) ?_
      refine dx_iload_n C 1 dX10_seat_27 rfl rfl ?_
      refine dx_iadd C dX10_seat_28 ?_
      refine dx_rd C ly_146 dX10_seat_29 (fun x3 => ?_)
      refine dx_if_eq C 36 dX10_seat_30 (by decide) ?_ ?_
      · refine dx_aload_n C 0 dX10_seat_36 rfl rfl ?_
        refine dx_callV3 C cl_X10_remember kmX10_216 (ci := 9) (b := 134) (As := []) (rest := []) rfl (hp_of ly_134) (tf_X10_remember w) rfl rfl (Nat.le_of_ble_eq_true rfl) ⟨Nat.le_of_ble_eq_true rfl, Nat.le_of_ble_eq_true rfl⟩ dX10_seat_37 (fun w4 => ?_)
        refine dx_aload_n C 0 dX10_seat_40 rfl rfl ?_
        refine dx_iload_n C 1 dX10_seat_41 rfl rfl ?_
        refine dx_callV3 C cl_X10_seats kmX10_219 (ci := 9) (b := 134) (As := [.int a1]) (rest := []) rfl (hp_of ly_134) (tf_X10_seats a1 w4) rfl rfl (Nat.le_of_ble_eq_true rfl) ⟨Nat.le_of_ble_eq_true rfl, Nat.le_of_ble_eq_true rfl⟩ dX10_seat_42 (fun w5 => ?_)
        refine dx_aload_n C 0 dX10_seat_45 rfl rfl ?_
        refine dgX10_47 C dX10_seat_46 ?_
        refine dx_bipush (v := (19 : Int32)) C dX10_seat_49 (by decide) ?_
        refine dx_iload_n C 1 dX10_seat_51 rfl rfl ?_
        refine dx_iadd C dX10_seat_52 ?_
        refine dx_rd C ly_146 dX10_seat_53 (fun x6 => ?_)
        exact dx_iret2 C hr hlk dX10_seat_54 (fun h => h)
      · refine dx_ldc C kcX10_215 dX10_seat_33 ?_
        exact dx_iret2 C hr hlk dX10_seat_35 (fun h => h)
  · refine dx_ldc C kcX10_193 dX10_seat_8 ?_
    exact dx_iret2 C hr hlk dX10_seat_10 (fun h => h)
def f_X10_isTellable (a1 : Int32) (w : Mem) : Option (Int32) :=
  rd 25 (w 146) (4 : Int32) fun x1 => (if x1 = (-1 : Int32) then some ((0 : Int32)) else rd 25 (w 146) (3 : Int32) fun x2 => (f_X10_has x2 a1).bind fun r3 => (if r3 = 0 then some ((0 : Int32)) else rd 25 (w 146) (5 : Int32) fun x4 => (f_X10_has x4 a1).bind fun r5 => (if r5 = 0 then some ((1 : Int32)) else some ((0 : Int32)))))
set_option maxRecDepth 20000 in
set_option maxHeartbeats 4000000 in
theorem tf_X10_isTellable {G : GT} {l : Launch} {z n : Nat} (a1 : Int32) (w : Mem) (q : Int32) (hq : f_X10_isTellable a1 w = some q) : Mt G l z yX10_isTellable cX10_isTellable 2 (some .boolean) { frames := 1, cells := 0, slots := 0, locals := 21 } [.ref (z + 134), .int a1] (hp G z w) n (some (.int q)) (hp G z w) n := by
  refine mt_of (by decide +kernel) (Nat.le_of_ble_eq_true rfl) ?_
  intro p e s m below meth c C hr hlk hnm
  refine (?_ : DX p l e _ s m _ below meth c G z 2 n _ (fun v => v = q) 0 [(0, .ref (z + 134)), (1, .int a1)] [] w (f_X10_isTellable a1 w)) q hq rfl
  unfold f_X10_isTellable
  refine dx_aload_n C 0 dX10_isTellable_0 rfl rfl ?_
  refine dgX10_47 C dX10_isTellable_1 ?_
  refine dx_iconst (v := (4 : Int32)) C dX10_isTellable_4 (by decide) ?_
  refine dx_rd C ly_146 dX10_isTellable_5 (fun x1 => ?_)
  refine dx_iconst (v := (-1 : Int32)) C dX10_isTellable_6 (by decide) ?_
  refine dx_icmp_eq C 40 dX10_isTellable_7 (by decide) ?_ ?_
  · refine dx_iconst (v := (0 : Int32)) C dX10_isTellable_40 (by decide) ?_
    exact dx_zret1 C hr hlk (by decide) dX10_isTellable_41 (fun h => h)
  · refine dx_aload_n C 0 dX10_isTellable_10 rfl rfl ?_
    refine dgX10_47 C dX10_isTellable_11 ?_
    refine dx_iconst (v := (3 : Int32)) C dX10_isTellable_14 (by decide) ?_
    refine dx_rd C ly_146 dX10_isTellable_15 (fun x2 => ?_)
    refine dx_iload_n C 1 dX10_isTellable_16 rfl rfl ?_
    refine dx_callS1 C cl_X10_has kmX10_168 (As := [.int x2, .int a1]) (rest := []) (tf_X10_has x2 a1 w) rfl rfl (Nat.le_of_ble_eq_true rfl) ⟨Nat.le_of_ble_eq_true rfl, Nat.le_of_ble_eq_true rfl⟩ dX10_isTellable_17 (fun r3 => ?_)
    refine dx_if_eq C 40 dX10_isTellable_20 (by decide) ?_ ?_
    · refine dx_iconst (v := (0 : Int32)) C dX10_isTellable_40 (by decide) ?_
      exact dx_zret1 C hr hlk (by decide) dX10_isTellable_41 (fun h => h)
    · refine dx_aload_n C 0 dX10_isTellable_23 rfl rfl ?_
      refine dgX10_47 C dX10_isTellable_24 ?_
      refine dx_iconst (v := (5 : Int32)) C dX10_isTellable_27 (by decide) ?_
      refine dx_rd C ly_146 dX10_isTellable_28 (fun x4 => ?_)
      refine dx_iload_n C 1 dX10_isTellable_29 rfl rfl ?_
      refine dx_callS1 C cl_X10_has kmX10_168 (As := [.int x4, .int a1]) (rest := []) (tf_X10_has x4 a1 w) rfl rfl (Nat.le_of_ble_eq_true rfl) ⟨Nat.le_of_ble_eq_true rfl, Nat.le_of_ble_eq_true rfl⟩ dX10_isTellable_30 (fun r5 => ?_)
      refine dx_if_ne C 40 dX10_isTellable_33 (by decide) ?_ ?_
      · refine dx_iconst (v := (0 : Int32)) C dX10_isTellable_40 (by decide) ?_
        exact dx_zret1 C hr hlk (by decide) dX10_isTellable_41 (fun h => h)
      · refine dx_iconst (v := (1 : Int32)) C dX10_isTellable_36 (by decide) ?_
        refine dx_goto C 41 dX10_isTellable_37 (by decide) ?_
        exact dx_zret1 C hr hlk (by decide) dX10_isTellable_41 (fun h => h)
def f_X10_passes (a1 : Int32) (w : Mem) : Option (Mem) :=
  (lp (S := (Int32 × Mem)) (T := Mem) (fun s2 => (if s2.1 < a1 then (lp (S := (Int32 × Mem)) (T := Mem) (fun s9 => (if s9.1 < (s9.2 134 18) then rd 25 (s9.2 146) ((7 : Int32) + s9.1) fun x1 => ((if x1 = 0 then some ((1 : Int32)) else some ((0 : Int32))) : Option Int32).bind fun v2 => rd 25 (s9.2 146) ((19 : Int32) + s9.1) fun x3 => ((if v2 = 0 then some ((0 : Int32)) else some ((1 : Int32))) : Option Int32).bind fun v4 => wr 25 146 ((19 : Int32) + s9.1) (x3 + v4) s9.2 fun w5 => ((if v2 = 0 then rd 25 (w5 146) ((7 : Int32) + s9.1) fun x8 => some (x8) else rd 25 (w5 146) ((19 : Int32) + s9.1) fun x9 => (f_X10_limit s9.1 w5).bind fun r10 => (if r10 < x9 then some ((3 : Int32)) else rd 25 (w5 146) ((7 : Int32) + s9.1) fun x11 => some (x11))) : Option Int32).bind fun v6 => wr 25 146 ((7 : Int32) + s9.1) v6 w5 fun w7 => some (Sum.inl ((s9.1 + (1 : Int32)), w7)) else some (Sum.inr s9.2))) 5000000000 ((0 : Int32), s2.2)).bind fun v12 => rd 25 (v12 146) (0 : Int32) fun x13 => wr 25 146 (0 : Int32) (x13 + (1 : Int32)) v12 fun w14 => some (Sum.inl ((s2.1 + (1 : Int32)), w14)) else some (Sum.inr s2.2))) 5000000000 ((0 : Int32), w)).bind fun v15 => some (v15)
set_option maxRecDepth 20000 in
set_option maxHeartbeats 4000000 in
theorem tf_X10_passes {G : GT} {l : Launch} {z n : Nat} (a1 : Int32) (w : Mem) (q : Mem) (hq : f_X10_passes a1 w = some q) : Mt G l z yX10_passes cX10_passes 5 none { frames := 1, cells := 0, slots := 0, locals := 21 } [.ref (z + 134), .int a1] (hp G z w) n none (hp G z q) n := by
  refine mt_of (by decide +kernel) (Nat.le_of_ble_eq_true rfl) ?_
  intro p e s m below meth c C hr hlk hnm
  refine (?_ : DX p l e _ s m _ below meth c G z 5 n _ (fun v => v = q) 0 [(0, .ref (z + 134)), (1, .int a1)] [] w (f_X10_passes a1 w)) q hq rfl
  unfold f_X10_passes
  refine dx_iconst (v := (0 : Int32)) C dX10_passes_0 (by decide) ?_
  refine dx_istore_n C [(2, .int (0 : Int32)), (0, .ref (z + 134)), (1, .int a1)] dX10_passes_1 rfl (by decide) rfl ?_
  refine dx_mv (lo2 := [(0, .ref (z + 134)), (1, .int a1), (2, .int (0 : Int32))]) [1, 2, 0] rfl ?_
  refine dx_bind 124 (fun v15 => []) (fun v15 => []) (fun v15 => v15) (fun v15 => (?_ : DX p l e _ s m _ below meth c G z 5 n _ _ 124 [] [] v15 _)) ?_
  · exact dx_vret C hr hlk dX10_passes_124 (fun h => h)
  · refine dx_lp (fun s2 => [(0, .ref (z + 134)), (1, .int a1), (2, .int s2.1)]) [] (fun s2 => s2.2) (fun s2 => (?_ : DX p l e _ s m _ below meth c G z 5 n _ _ 2 [(0, .ref (z + 134)), (1, .int a1), (2, .int s2.1)] [] s2.2 _)) 5000000000 ((0 : Int32), w)
    refine dx_iload_n C 2 dX10_passes_2 rfl rfl ?_
    refine dx_iload_n C 1 dX10_passes_3 rfl rfl ?_
    refine dx_icmp_ge C 124 dX10_passes_4 (by decide) ?_ ?_
    · refine dx_mv (lo2 := []) [] rfl ?_
      exact dx_end (fun h => h)
    · refine dx_iconst (v := (0 : Int32)) C dX10_passes_7 (by decide) ?_
      refine dx_istore_n C [(3, .int (0 : Int32)), (0, .ref (z + 134)), (1, .int a1), (2, .int s2.1)] dX10_passes_8 rfl (by decide) rfl ?_
      refine dx_mv (lo2 := [(0, .ref (z + 134)), (1, .int a1), (2, .int s2.1), (3, .int (0 : Int32))]) [1, 2, 3, 0] rfl ?_
      refine dx_bind 108 (fun v12 => [(0, .ref (z + 134)), (1, .int a1), (2, .int s2.1)]) (fun v12 => []) (fun v12 => v12) (fun v12 => (?_ : DX p l e _ s m _ below meth c G z 5 n _ _ 108 [(0, .ref (z + 134)), (1, .int a1), (2, .int s2.1)] [] v12 _)) ?_
      · refine dx_aload_n C 0 dX10_passes_108 rfl rfl ?_
        refine dgX10_47 C dX10_passes_109 ?_
        refine dx_iconst (v := (0 : Int32)) C dX10_passes_112 (by decide) ?_
        refine dx_dup2 C dX10_passes_113 rfl rfl ?_
        refine dx_rd C ly_146 dX10_passes_114 (fun x13 => ?_)
        refine dx_iconst (v := (1 : Int32)) C dX10_passes_115 (by decide) ?_
        refine dx_iadd C dX10_passes_116 ?_
        refine dx_wr C ly_146 dX10_passes_117 (fun w14 => ?_)
        refine dx_iinc (v := (s2.1 + (1 : Int32))) C 2 [(2, .int (s2.1 + (1 : Int32))), (0, .ref (z + 134)), (1, .int a1)] dX10_passes_118 rfl rfl (by decide) rfl ?_
        refine dx_goto C 2 dX10_passes_121 (by decide) ?_
        refine dx_mv (lo2 := [(0, .ref (z + 134)), (1, .int a1), (2, .int (s2.1 + (1 : Int32)))]) [1, 2, 0] rfl ?_
        exact dx_end (fun h => h)
      · refine dx_lp (fun s9 => [(0, .ref (z + 134)), (1, .int a1), (2, .int s2.1), (3, .int s9.1)]) [] (fun s9 => s9.2) (fun s9 => (?_ : DX p l e _ s m _ below meth c G z 5 n _ _ 9 [(0, .ref (z + 134)), (1, .int a1), (2, .int s2.1), (3, .int s9.1)] [] s9.2 _)) 5000000000 ((0 : Int32), s2.2)
        refine dx_iload_n C 3 dX10_passes_9 rfl rfl ?_
        refine dx_aload_n C 0 dX10_passes_10 rfl rfl ?_
        refine dgX10_156 C dX10_passes_11 ?_
        refine dx_icmp_ge C 108 dX10_passes_14 (by decide) ?_ ?_
        · refine dx_mv (lo2 := [(0, .ref (z + 134)), (1, .int a1), (2, .int s2.1)]) [0, 1, 2] rfl ?_
          exact dx_end (fun h => h)
        · refine dx_aload_n C 0 dX10_passes_17 rfl rfl ?_
          refine dgX10_47 C dX10_passes_18 ?_
          refine dx_bipush (v := (7 : Int32)) C dX10_passes_21 (by decide) ?_
          refine dx_iload_n C 3 dX10_passes_23 rfl rfl ?_
          refine dx_iadd C dX10_passes_24 ?_
          refine dx_rd C ly_146 dX10_passes_25 (fun x1 => ?_)
          refine dx_bind 34 (fun v2 => [(0, .ref (z + 134)), (1, .int a1), (2, .int s2.1), (3, .int s9.1)]) (fun v2 => [.int v2]) (fun v2 => s9.2) (fun v2 => (?_ : DX p l e _ s m _ below meth c G z 5 n _ _ 34 [(0, .ref (z + 134)), (1, .int a1), (2, .int s2.1), (3, .int s9.1)] [.int v2] s9.2 _)) ?_
          · refine dx_istore C [(4, .int v2), (0, .ref (z + 134)), (1, .int a1), (2, .int s2.1), (3, .int s9.1)] dX10_passes_34 (by decide) rfl ?_
            refine dx_aload_n C 1 dX10_passes_36 rfl rfl ?_
            refine dgX10_47 C dX10_passes_37 ?_
            refine dx_bipush (v := (19 : Int32)) C dX10_passes_40 (by decide) ?_
            refine dx_iload_n C 4 dX10_passes_42 rfl rfl ?_
            refine dx_iadd C dX10_passes_43 ?_
            refine dx_dup2 C dX10_passes_44 rfl rfl ?_
            refine dx_rd C ly_146 dX10_passes_45 (fun x3 => ?_)
            refine dx_iload C 0 dX10_passes_46 rfl ?_
            refine dx_bind 56 (fun v4 => [(0, .ref (z + 134)), (1, .int a1), (2, .int s2.1), (3, .int s9.1), (4, .int v2)]) (fun v4 => [.int v4, .int x3, .int ((19 : Int32) + s9.1), .ref (z + 146)]) (fun v4 => s9.2) (fun v4 => (?_ : DX p l e _ s m _ below meth c G z 5 n _ _ 56 [(0, .ref (z + 134)), (1, .int a1), (2, .int s2.1), (3, .int s9.1), (4, .int v2)] [.int v4, .int x3, .int ((19 : Int32) + s9.1), .ref (z + 146)] s9.2 _)) ?_
            · refine dx_iadd C dX10_passes_56 ?_
              refine dx_wr C ly_146 dX10_passes_57 (fun w5 => ?_)
              refine dx_aload_n C 0 dX10_passes_58 rfl rfl ?_
              refine dgX10_47 C dX10_passes_59 ?_
              refine dx_bipush (v := (7 : Int32)) C dX10_passes_62 (by decide) ?_
              refine dx_iload_n C 3 dX10_passes_64 rfl rfl ?_
              refine dx_iadd C dX10_passes_65 ?_
              refine dx_iload C 4 dX10_passes_66 rfl ?_
              refine dx_bind 101 (fun v6 => [(0, .ref (z + 134)), (1, .int a1), (2, .int s2.1), (3, .int s9.1)]) (fun v6 => [.int v6, .int ((7 : Int32) + s9.1), .ref (z + 146)]) (fun v6 => w5) (fun v6 => (?_ : DX p l e _ s m _ below meth c G z 5 n _ _ 101 [(0, .ref (z + 134)), (1, .int a1), (2, .int s2.1), (3, .int s9.1)] [.int v6, .int ((7 : Int32) + s9.1), .ref (z + 146)] w5 _)) ?_
              · refine dx_wr C ly_146 dX10_passes_101 (fun w7 => ?_)
                refine dx_iinc (v := (s9.1 + (1 : Int32))) C 3 [(3, .int (s9.1 + (1 : Int32))), (0, .ref (z + 134)), (1, .int a1), (2, .int s2.1)] dX10_passes_102 rfl rfl (by decide) rfl ?_
                refine dx_goto C 9 dX10_passes_105 (by decide) ?_
                refine dx_mv (lo2 := [(0, .ref (z + 134)), (1, .int a1), (2, .int s2.1), (3, .int (s9.1 + (1 : Int32)))]) [1, 2, 3, 0] rfl ?_
                exact dx_end (fun h => h)
              · refine dx_if_eq C 92 dX10_passes_68 (by decide) ?_ ?_
                · refine dx_aload_n C 0 dX10_passes_92 rfl rfl ?_
                  refine dgX10_47 C dX10_passes_93 ?_
                  refine dx_bipush (v := (7 : Int32)) C dX10_passes_96 (by decide) ?_
                  refine dx_iload_n C 3 dX10_passes_98 rfl rfl ?_
                  refine dx_iadd C dX10_passes_99 ?_
                  refine dx_rd C ly_146 dX10_passes_100 (fun x8 => ?_)
                  refine dx_mv (lo2 := [(0, .ref (z + 134)), (1, .int a1), (2, .int s2.1), (3, .int s9.1)]) [0, 1, 2, 3] rfl ?_
                  exact dx_end (fun h => h)
                · refine dx_aload_n C 0 dX10_passes_71 rfl rfl ?_
                  refine dgX10_47 C dX10_passes_72 ?_
                  refine dx_bipush (v := (19 : Int32)) C dX10_passes_75 (by decide) ?_
                  refine dx_iload_n C 3 dX10_passes_77 rfl rfl ?_
                  refine dx_iadd C dX10_passes_78 ?_
                  refine dx_rd C ly_146 dX10_passes_79 (fun x9 => ?_)
                  refine dx_aload_n C 0 dX10_passes_80 rfl rfl ?_
                  refine dx_iload_n C 3 dX10_passes_81 rfl rfl ?_
                  refine dx_callV1 C cl_X10_limit kmX10_206 (ci := 9) (b := 134) (As := [.int s9.1]) (rest := [.int x9, .int ((7 : Int32) + s9.1), .ref (z + 146)]) rfl (hp_of ly_134) (tf_X10_limit s9.1 w5) rfl rfl (Nat.le_of_ble_eq_true rfl) ⟨Nat.le_of_ble_eq_true rfl, Nat.le_of_ble_eq_true rfl⟩ dX10_passes_82 (fun r10 => ?_)
                  refine dx_icmp_le C 92 dX10_passes_85 (by decide) ?_ ?_
                  · refine dx_aload_n C 0 dX10_passes_92 rfl rfl ?_
                    refine dgX10_47 C dX10_passes_93 ?_
                    refine dx_bipush (v := (7 : Int32)) C dX10_passes_96 (by decide) ?_
                    refine dx_iload_n C 3 dX10_passes_98 rfl rfl ?_
                    refine dx_iadd C dX10_passes_99 ?_
                    refine dx_rd C ly_146 dX10_passes_100 (fun x11 => ?_)
                    refine dx_mv (lo2 := [(0, .ref (z + 134)), (1, .int a1), (2, .int s2.1), (3, .int s9.1)]) [0, 1, 2, 3] rfl ?_
                    exact dx_end (fun h => h)
                  · refine dx_iconst (v := (3 : Int32)) C dX10_passes_88 (by decide) ?_
                    refine dx_goto C 101 dX10_passes_89 (by decide) ?_
                    refine dx_mv (lo2 := [(0, .ref (z + 134)), (1, .int a1), (2, .int s2.1), (3, .int s9.1)]) [0, 1, 2, 3] rfl ?_
                    exact dx_end (fun h => h)
            · refine dx_if_eq C 55 dX10_passes_48 (by decide) ?_ ?_
              · refine dx_iconst (v := (0 : Int32)) C dX10_passes_55 (by decide) ?_
                refine dx_mv (lo2 := [(0, .ref (z + 134)), (1, .int a1), (2, .int s2.1), (3, .int s9.1), (4, .int v2)]) [1, 2, 3, 4, 0] rfl ?_
                exact dx_end (fun h => h)
              · refine dx_iconst (v := (1 : Int32)) C dX10_passes_51 (by decide) ?_
                refine dx_goto C 56 dX10_passes_52 (by decide) ?_
                refine dx_mv (lo2 := [(0, .ref (z + 134)), (1, .int a1), (2, .int s2.1), (3, .int s9.1), (4, .int v2)]) [1, 2, 3, 4, 0] rfl ?_
                exact dx_end (fun h => h)
          · refine dx_if_ne C 33 dX10_passes_26 (by decide) ?_ ?_
            · refine dx_iconst (v := (0 : Int32)) C dX10_passes_33 (by decide) ?_
              exact dx_end (fun h => h)
            · refine dx_iconst (v := (1 : Int32)) C dX10_passes_29 (by decide) ?_
              refine dx_goto C 34 dX10_passes_30 (by decide) ?_
              exact dx_end (fun h => h)
def f_X10_rises (w : Mem) : Option (Int32 × Mem) :=
  rd 25 (w 146) (4 : Int32) fun x1 => rd 25 (w 146) ((13 : Int32) + x1) fun x2 => (f_X10_payFor x2 w).bind fun r3 => rd 25 (w 146) (2 : Int32) fun x4 => ((if (999999 : Int32) < (x4 + r3) then some ((999999 : Int32)) else rd 25 (w 146) (2 : Int32) fun x18 => some ((x18 + r3))) : Option Int32).bind fun v5 => wr 25 146 (2 : Int32) v5 w fun w6 => wr 25 146 ((7 : Int32) + x1) (2 : Int32) w6 fun w7 => wr 25 146 (4 : Int32) (-1 : Int32) w7 fun w8 => wr 25 146 (5 : Int32) (0 : Int32) w8 fun w9 => wr 25 146 (6 : Int32) (-1 : Int32) w9 fun w10 => rd 6 (w10 145) x1 fun x11 => rd 25 (w10 146) (3 : Int32) fun x12 => lt ((x11 &&& (x12 ^^^ (-1 : Int32)))) fun t13 => rd 25 (w10 146) (3 : Int32) fun x14 => rd 6 (w10 143) x1 fun x15 => ((if x15 = (3 : Int32) then some ((t13 &&& (-t13))) else some ((0 : Int32))) : Option Int32).bind fun v16 => wr 25 146 (3 : Int32) (x14 ||| v16) w10 fun w17 => some ((r3, w17))
set_option maxRecDepth 20000 in
set_option maxHeartbeats 4000000 in
theorem tf_X10_rises {G : GT} {l : Launch} {z n : Nat} (w : Mem) (q : Int32 × Mem) (hq : f_X10_rises w = some q) : Mt G l z yX10_rises cX10_rises 4 (some .int) { frames := 1, cells := 0, slots := 0, locals := 21 } [.ref (z + 134)] (hp G z w) n (some (.int q.1)) (hp G z q.2) n := by
  refine mt_of (by decide +kernel) (Nat.le_of_ble_eq_true rfl) ?_
  intro p e s m below meth c C hr hlk hnm
  refine (?_ : DX p l e _ s m _ below meth c G z 4 n _ (fun v => v = q) 0 [(0, .ref (z + 134))] [] w (f_X10_rises w)) q hq rfl
  unfold f_X10_rises
  refine dx_aload_n C 0 dX10_rises_0 rfl rfl ?_
  refine dgX10_47 C dX10_rises_1 ?_
  refine dx_iconst (v := (4 : Int32)) C dX10_rises_4 (by decide) ?_
  refine dx_rd C ly_146 dX10_rises_5 (fun x1 => ?_)
  refine dx_istore_n C [(1, .int x1), (0, .ref (z + 134))] dX10_rises_6 rfl (by decide) rfl ?_
  refine dx_aload_n C 1 dX10_rises_7 rfl rfl ?_
  refine dx_aload_n C 1 dX10_rises_8 rfl rfl ?_
  refine dgX10_47 C dX10_rises_9 ?_
  refine dx_bipush (v := (13 : Int32)) C dX10_rises_12 (by decide) ?_
  refine dx_iload_n C 0 dX10_rises_14 rfl rfl ?_
  refine dx_iadd C dX10_rises_15 ?_
  refine dx_rd C ly_146 dX10_rises_16 (fun x2 => ?_)
  refine dx_callV1 C cl_X10_payFor kmX10_223 (ci := 9) (b := 134) (As := [.int x2]) (rest := []) rfl (hp_of ly_134) (tf_X10_payFor x2 w) rfl rfl (Nat.le_of_ble_eq_true rfl) ⟨Nat.le_of_ble_eq_true rfl, Nat.le_of_ble_eq_true rfl⟩ dX10_rises_17 (fun r3 => ?_)
  refine dx_istore_n C [(2, .int r3), (1, .int x1), (0, .ref (z + 134))] dX10_rises_20 rfl (by decide) rfl ?_
  refine dx_aload_n C 2 dX10_rises_21 rfl rfl ?_
  refine dgX10_47 C dX10_rises_22 ?_
  refine dx_iconst (v := (2 : Int32)) C dX10_rises_25 (by decide) ?_
  refine dx_aload_n C 2 dX10_rises_26 rfl rfl ?_
  refine dgX10_47 C dX10_rises_27 ?_
  refine dx_iconst (v := (2 : Int32)) C dX10_rises_30 (by decide) ?_
  refine dx_rd C ly_146 dX10_rises_31 (fun x4 => ?_)
  refine dx_iload_n C 0 dX10_rises_32 rfl rfl ?_
  refine dx_iadd C dX10_rises_33 ?_
  refine dx_ldc C kcX10_226 dX10_rises_34 ?_
  refine dx_bind 52 (fun v5 => [(0, .ref (z + 134)), (1, .int x1), (2, .int r3)]) (fun v5 => [.int v5, .int (2 : Int32), .ref (z + 146)]) (fun v5 => w) (fun v5 => (?_ : DX p l e _ s m _ below meth c G z 4 n _ _ 52 [(0, .ref (z + 134)), (1, .int x1), (2, .int r3)] [.int v5, .int (2 : Int32), .ref (z + 146)] w _)) ?_
  · refine dx_wr C ly_146 dX10_rises_52 (fun w6 => ?_)
    refine dx_aload_n C 0 dX10_rises_53 rfl rfl ?_
    refine dgX10_47 C dX10_rises_54 ?_
    refine dx_bipush (v := (7 : Int32)) C dX10_rises_57 (by decide) ?_
    refine dx_iload_n C 1 dX10_rises_59 rfl rfl ?_
    refine dx_iadd C dX10_rises_60 ?_
    refine dx_iconst (v := (2 : Int32)) C dX10_rises_61 (by decide) ?_
    refine dx_wr C ly_146 dX10_rises_62 (fun w7 => ?_)
    refine dx_aload_n C 0 dX10_rises_63 rfl rfl ?_
    refine dgX10_47 C dX10_rises_64 ?_
    refine dx_iconst (v := (4 : Int32)) C dX10_rises_67 (by decide) ?_
    refine dx_iconst (v := (-1 : Int32)) C dX10_rises_68 (by decide) ?_
    refine dx_wr C ly_146 dX10_rises_69 (fun w8 => ?_)
    refine dx_aload_n C 0 dX10_rises_70 rfl rfl ?_
    refine dgX10_47 C dX10_rises_71 ?_
    refine dx_iconst (v := (5 : Int32)) C dX10_rises_74 (by decide) ?_
    refine dx_iconst (v := (0 : Int32)) C dX10_rises_75 (by decide) ?_
    refine dx_wr C ly_146 dX10_rises_76 (fun w9 => ?_)
    refine dx_aload_n C 0 dX10_rises_77 rfl rfl ?_
    refine dgX10_47 C dX10_rises_78 ?_
    refine dx_bipush (v := (6 : Int32)) C dX10_rises_81 (by decide) ?_
    refine dx_iconst (v := (-1 : Int32)) C dX10_rises_83 (by decide) ?_
    refine dx_wr C ly_146 dX10_rises_84 (fun w10 => ?_)
    refine dx_aload_n C 0 dX10_rises_85 rfl rfl ?_
    refine dgX10_44 C dX10_rises_86 ?_
    refine dx_iload_n C 1 dX10_rises_89 rfl rfl ?_
    refine dx_rd C ly_145 dX10_rises_90 (fun x11 => ?_)
    refine dx_aload_n C 0 dX10_rises_91 rfl rfl ?_
    refine dgX10_47 C dX10_rises_92 ?_
    refine dx_iconst (v := (3 : Int32)) C dX10_rises_95 (by decide) ?_
    refine dx_rd C ly_146 dX10_rises_96 (fun x12 => ?_)
    refine dx_iconst (v := (-1 : Int32)) C dX10_rises_97 (by decide) ?_
    refine dx_ixor C dX10_rises_98 ?_
    refine dx_iand C dX10_rises_99 ?_
    refine dx_lt (fun t13 => ?_)
    refine dx_istore_n C [(3, .int t13), (0, .ref (z + 134)), (1, .int x1), (2, .int r3)] dX10_rises_100 rfl (by decide) rfl ?_
    refine dx_aload_n C 1 dX10_rises_101 rfl rfl ?_
    refine dgX10_47 C dX10_rises_102 ?_
    refine dx_iconst (v := (3 : Int32)) C dX10_rises_105 (by decide) ?_
    refine dx_dup2 C dX10_rises_106 rfl rfl ?_
    refine dx_rd C ly_146 dX10_rises_107 (fun x14 => ?_)
    refine dx_aload_n C 1 dX10_rises_108 rfl rfl ?_
    refine dgX10_38 C dX10_rises_109 ?_
    refine dx_iload_n C 2 dX10_rises_112 rfl rfl ?_
    refine dx_rd C ly_143 dX10_rises_113 (fun x15 => ?_)
    refine dx_iconst (v := (3 : Int32)) C dX10_rises_114 (by decide) ?_
    refine dx_bind 126 (fun v16 => [(2, .int r3)]) (fun v16 => [.int v16, .int x14, .int (3 : Int32), .ref (z + 146)]) (fun v16 => w10) (fun v16 => (?_ : DX p l e _ s m _ below meth c G z 4 n _ _ 126 [(2, .int r3)] [.int v16, .int x14, .int (3 : Int32), .ref (z + 146)] w10 _)) ?_
    · refine dx_ior C dX10_rises_126 ?_
      refine dx_wr C ly_146 dX10_rises_127 (fun w17 => ?_)
      refine dx_iload_n C 0 dX10_rises_128 rfl rfl ?_
      exact dx_iret2 C hr hlk dX10_rises_129 (fun h => h)
    · refine dx_icmp_ne C 125 dX10_rises_115 (by decide) ?_ ?_
      · refine dx_iconst (v := (0 : Int32)) C dX10_rises_125 (by decide) ?_
        refine dx_mv (lo2 := [(2, .int r3)]) [3] rfl ?_
        exact dx_end (fun h => h)
      · refine dx_iload_n C 0 dX10_rises_118 rfl rfl ?_
        refine dx_iload_n C 0 dX10_rises_119 rfl rfl ?_
        refine dx_ineg C dX10_rises_120 ?_
        refine dx_iand C dX10_rises_121 ?_
        refine dx_goto C 126 dX10_rises_122 (by decide) ?_
        refine dx_mv (lo2 := [(2, .int r3)]) [3] rfl ?_
        exact dx_end (fun h => h)
  · refine dx_icmp_le C 44 dX10_rises_36 (by decide) ?_ ?_
    · refine dx_aload_n C 2 dX10_rises_44 rfl rfl ?_
      refine dgX10_47 C dX10_rises_45 ?_
      refine dx_iconst (v := (2 : Int32)) C dX10_rises_48 (by decide) ?_
      refine dx_rd C ly_146 dX10_rises_49 (fun x18 => ?_)
      refine dx_iload_n C 0 dX10_rises_50 rfl rfl ?_
      refine dx_iadd C dX10_rises_51 ?_
      refine dx_mv (lo2 := [(0, .ref (z + 134)), (1, .int x1), (2, .int r3)]) [2, 1, 0] rfl ?_
      exact dx_end (fun h => h)
    · refine dx_ldc C kcX10_226 dX10_rises_39 ?_
      refine dx_goto C 52 dX10_rises_41 (by decide) ?_
      refine dx_mv (lo2 := [(0, .ref (z + 134)), (1, .int x1), (2, .int r3)]) [2, 1, 0] rfl ?_
      exact dx_end (fun h => h)
def f_X10_tells (a1 : Int32) (w : Mem) : Option (Int32 × Mem) :=
  rd 25 (w 146) (4 : Int32) fun x1 => rd 25 (w 146) (6 : Int32) fun x2 => (if x2 = (-1 : Int32) then (f_X10_stayOf x1 a1 w).bind fun r3 => rd 25 (w 146) (5 : Int32) fun x4 => wr 25 146 (5 : Int32) (x4 ||| ((1 : Int32) <<< (a1 &&& 31))) w fun w5 => wr 25 146 (6 : Int32) a1 w5 fun w6 => rd 25 (w6 146) ((13 : Int32) + x1) fun x7 => wr 25 146 ((13 : Int32) + x1) (x7 + r3) w6 fun w8 => (f_X10_passes r3 w8).bind fun w9 => some ((r3, w9)) else rd 25 (w 146) (6 : Int32) fun x10 => rd 8 (w 142) x10 fun x11 => (f_X10_has x11 a1).bind fun r12 => (if r12 = 0 then (f_X10_rises w).bind fun q20 => some (((-1 : Int32), q20.2)) else (f_X10_stayOf x1 a1 w).bind fun r13 => rd 25 (w 146) (5 : Int32) fun x14 => wr 25 146 (5 : Int32) (x14 ||| ((1 : Int32) <<< (a1 &&& 31))) w fun w15 => wr 25 146 (6 : Int32) a1 w15 fun w16 => rd 25 (w16 146) ((13 : Int32) + x1) fun x17 => wr 25 146 ((13 : Int32) + x1) (x17 + r13) w16 fun w18 => (f_X10_passes r13 w18).bind fun w19 => some ((r13, w19))))
set_option maxRecDepth 20000 in
set_option maxHeartbeats 4000000 in
theorem tf_X10_tells {G : GT} {l : Launch} {z n : Nat} (a1 : Int32) (w : Mem) (q : Int32 × Mem) (hq : f_X10_tells a1 w = some q) : Mt G l z yX10_tells cX10_tells 4 (some .int) { frames := 2, cells := 0, slots := 0, locals := 45 } [.ref (z + 134), .int a1] (hp G z w) n (some (.int q.1)) (hp G z q.2) n := by
  refine mt_of (by decide +kernel) (Nat.le_of_ble_eq_true rfl) ?_
  intro p e s m below meth c C hr hlk hnm
  refine (?_ : DX p l e _ s m _ below meth c G z 4 n _ (fun v => v = q) 0 [(0, .ref (z + 134)), (1, .int a1)] [] w (f_X10_tells a1 w)) q hq rfl
  unfold f_X10_tells
  refine dx_aload_n C 0 dX10_tells_0 rfl rfl ?_
  refine dgX10_47 C dX10_tells_1 ?_
  refine dx_iconst (v := (4 : Int32)) C dX10_tells_4 (by decide) ?_
  refine dx_rd C ly_146 dX10_tells_5 (fun x1 => ?_)
  refine dx_istore_n C [(2, .int x1), (0, .ref (z + 134)), (1, .int a1)] dX10_tells_6 rfl (by decide) rfl ?_
  refine dx_aload_n C 1 dX10_tells_7 rfl rfl ?_
  refine dgX10_47 C dX10_tells_8 ?_
  refine dx_bipush (v := (6 : Int32)) C dX10_tells_11 (by decide) ?_
  refine dx_rd C ly_146 dX10_tells_13 (fun x2 => ?_)
  refine dx_iconst (v := (-1 : Int32)) C dX10_tells_14 (by decide) ?_
  refine dx_icmp_eq C 44 dX10_tells_15 (by decide) ?_ ?_
  · refine dx_aload_n C 1 dX10_tells_44 rfl rfl ?_
    refine dx_iload_n C 0 dX10_tells_45 rfl rfl ?_
    refine dx_iload_n C 2 dX10_tells_46 rfl rfl ?_
    refine dx_callV1 C cl_X10_stayOf kmX10_200 (ci := 9) (b := 134) (As := [.int x1, .int a1]) (rest := []) rfl (hp_of ly_134) (tf_X10_stayOf x1 a1 w) rfl rfl (Nat.le_of_ble_eq_true rfl) ⟨Nat.le_of_ble_eq_true rfl, Nat.le_of_ble_eq_true rfl⟩ dX10_tells_47 (fun r3 => ?_)
    refine dx_istore_n C [(3, .int r3), (2, .int x1), (0, .ref (z + 134)), (1, .int a1)] dX10_tells_50 rfl (by decide) rfl ?_
    refine dx_aload_n C 2 dX10_tells_51 rfl rfl ?_
    refine dgX10_47 C dX10_tells_52 ?_
    refine dx_iconst (v := (5 : Int32)) C dX10_tells_55 (by decide) ?_
    refine dx_dup2 C dX10_tells_56 rfl rfl ?_
    refine dx_rd C ly_146 dX10_tells_57 (fun x4 => ?_)
    refine dx_iconst (v := (1 : Int32)) C dX10_tells_58 (by decide) ?_
    refine dx_iload_n C 3 dX10_tells_59 rfl rfl ?_
    refine dx_ishl C dX10_tells_60 ?_
    refine dx_ior C dX10_tells_61 ?_
    refine dx_wr C ly_146 dX10_tells_62 (fun w5 => ?_)
    refine dx_aload_n C 2 dX10_tells_63 rfl rfl ?_
    refine dgX10_47 C dX10_tells_64 ?_
    refine dx_bipush (v := (6 : Int32)) C dX10_tells_67 (by decide) ?_
    refine dx_iload_n C 3 dX10_tells_69 rfl rfl ?_
    refine dx_wr C ly_146 dX10_tells_70 (fun w6 => ?_)
    refine dx_aload_n C 2 dX10_tells_71 rfl rfl ?_
    refine dgX10_47 C dX10_tells_72 ?_
    refine dx_bipush (v := (13 : Int32)) C dX10_tells_75 (by decide) ?_
    refine dx_iload_n C 1 dX10_tells_77 rfl rfl ?_
    refine dx_iadd C dX10_tells_78 ?_
    refine dx_dup2 C dX10_tells_79 rfl rfl ?_
    refine dx_rd C ly_146 dX10_tells_80 (fun x7 => ?_)
    refine dx_iload_n C 0 dX10_tells_81 rfl rfl ?_
    refine dx_iadd C dX10_tells_82 ?_
    refine dx_wr C ly_146 dX10_tells_83 (fun w8 => ?_)
    refine dx_aload_n C 2 dX10_tells_84 rfl rfl ?_
    refine dx_iload_n C 0 dX10_tells_85 rfl rfl ?_
    refine dx_callV3 C cl_X10_passes kmX10_230 (ci := 9) (b := 134) (As := [.int r3]) (rest := []) rfl (hp_of ly_134) (tf_X10_passes r3 w8) rfl rfl (Nat.le_of_ble_eq_true rfl) ⟨Nat.le_of_ble_eq_true rfl, Nat.le_of_ble_eq_true rfl⟩ dX10_tells_86 (fun w9 => ?_)
    refine dx_iload_n C 0 dX10_tells_89 rfl rfl ?_
    exact dx_iret2 C hr hlk dX10_tells_90 (fun h => h)
  · refine dx_aload_n C 1 dX10_tells_18 rfl rfl ?_
    refine dgX10_35 C dX10_tells_19 ?_
    refine dx_aload_n C 1 dX10_tells_22 rfl rfl ?_
    refine dgX10_47 C dX10_tells_23 ?_
    refine dx_bipush (v := (6 : Int32)) C dX10_tells_26 (by decide) ?_
    refine dx_rd C ly_146 dX10_tells_28 (fun x10 => ?_)
    refine dx_rd C ly_142 dX10_tells_29 (fun x11 => ?_)
    refine dx_iload_n C 2 dX10_tells_30 rfl rfl ?_
    refine dx_callS1 C cl_X10_has kmX10_168 (As := [.int x11, .int a1]) (rest := []) (tf_X10_has x11 a1 w) rfl rfl (Nat.le_of_ble_eq_true rfl) ⟨Nat.le_of_ble_eq_true rfl, Nat.le_of_ble_eq_true rfl⟩ dX10_tells_31 (fun r12 => ?_)
    refine dx_if_ne C 44 dX10_tells_34 (by decide) ?_ ?_
    · refine dx_aload_n C 1 dX10_tells_44 rfl rfl ?_
      refine dx_iload_n C 0 dX10_tells_45 rfl rfl ?_
      refine dx_iload_n C 2 dX10_tells_46 rfl rfl ?_
      refine dx_callV1 C cl_X10_stayOf kmX10_200 (ci := 9) (b := 134) (As := [.int x1, .int a1]) (rest := []) rfl (hp_of ly_134) (tf_X10_stayOf x1 a1 w) rfl rfl (Nat.le_of_ble_eq_true rfl) ⟨Nat.le_of_ble_eq_true rfl, Nat.le_of_ble_eq_true rfl⟩ dX10_tells_47 (fun r13 => ?_)
      refine dx_istore_n C [(3, .int r13), (2, .int x1), (0, .ref (z + 134)), (1, .int a1)] dX10_tells_50 rfl (by decide) rfl ?_
      refine dx_aload_n C 2 dX10_tells_51 rfl rfl ?_
      refine dgX10_47 C dX10_tells_52 ?_
      refine dx_iconst (v := (5 : Int32)) C dX10_tells_55 (by decide) ?_
      refine dx_dup2 C dX10_tells_56 rfl rfl ?_
      refine dx_rd C ly_146 dX10_tells_57 (fun x14 => ?_)
      refine dx_iconst (v := (1 : Int32)) C dX10_tells_58 (by decide) ?_
      refine dx_iload_n C 3 dX10_tells_59 rfl rfl ?_
      refine dx_ishl C dX10_tells_60 ?_
      refine dx_ior C dX10_tells_61 ?_
      refine dx_wr C ly_146 dX10_tells_62 (fun w15 => ?_)
      refine dx_aload_n C 2 dX10_tells_63 rfl rfl ?_
      refine dgX10_47 C dX10_tells_64 ?_
      refine dx_bipush (v := (6 : Int32)) C dX10_tells_67 (by decide) ?_
      refine dx_iload_n C 3 dX10_tells_69 rfl rfl ?_
      refine dx_wr C ly_146 dX10_tells_70 (fun w16 => ?_)
      refine dx_aload_n C 2 dX10_tells_71 rfl rfl ?_
      refine dgX10_47 C dX10_tells_72 ?_
      refine dx_bipush (v := (13 : Int32)) C dX10_tells_75 (by decide) ?_
      refine dx_iload_n C 1 dX10_tells_77 rfl rfl ?_
      refine dx_iadd C dX10_tells_78 ?_
      refine dx_dup2 C dX10_tells_79 rfl rfl ?_
      refine dx_rd C ly_146 dX10_tells_80 (fun x17 => ?_)
      refine dx_iload_n C 0 dX10_tells_81 rfl rfl ?_
      refine dx_iadd C dX10_tells_82 ?_
      refine dx_wr C ly_146 dX10_tells_83 (fun w18 => ?_)
      refine dx_aload_n C 2 dX10_tells_84 rfl rfl ?_
      refine dx_iload_n C 0 dX10_tells_85 rfl rfl ?_
      refine dx_callV3 C cl_X10_passes kmX10_230 (ci := 9) (b := 134) (As := [.int r13]) (rest := []) rfl (hp_of ly_134) (tf_X10_passes r13 w18) rfl rfl (Nat.le_of_ble_eq_true rfl) ⟨Nat.le_of_ble_eq_true rfl, Nat.le_of_ble_eq_true rfl⟩ dX10_tells_86 (fun w19 => ?_)
      refine dx_iload_n C 0 dX10_tells_89 rfl rfl ?_
      exact dx_iret2 C hr hlk dX10_tells_90 (fun h => h)
    · refine dx_aload_n C 1 dX10_tells_37 rfl rfl ?_
      refine dx_callV2 C cl_X10_rises kmX10_227 (ci := 9) (b := 134) (As := []) (rest := []) rfl (hp_of ly_134) (tf_X10_rises w) rfl rfl (Nat.le_of_ble_eq_true rfl) ⟨Nat.le_of_ble_eq_true rfl, Nat.le_of_ble_eq_true rfl⟩ dX10_tells_38 (fun q20 => ?_)
      refine dx_pop C dX10_tells_41 rfl ?_
      refine dx_iconst (v := (-1 : Int32)) C dX10_tells_42 (by decide) ?_
      exact dx_iret2 C hr hlk dX10_tells_43 (fun h => h)
