theorem dX9_dry_36 : decode cX9_dry 36 = .ok (.lload_n 3, 1) := by decide +kernel
theorem dX9_dry_37 : decode cX9_dry 37 = .ok (.iload_n 2, 1) := by decide +kernel
theorem dX9_dry_38 : decode cX9_dry 38 = .ok (.i2l, 1) := by decide +kernel
theorem dX9_dry_39 : decode cX9_dry 39 = .ok (.lmul, 1) := by decide +kernel
theorem dX9_dry_40 : decode cX9_dry 40 = .ok (.ldc2_w 311, 3) := by decide +kernel
theorem dX9_dry_43 : decode cX9_dry 43 = .ok (.ldiv, 1) := by decide +kernel
theorem dX9_dry_44 : decode cX9_dry 44 = .ok (.lstore_n 3, 1) := by decide +kernel
theorem dX9_dry_45 : decode cX9_dry 45 = .ok (.iinc 5 1, 3) := by decide +kernel
theorem dX9_dry_48 : decode cX9_dry 48 = .ok (.goto (-18), 3) := by decide +kernel
theorem dX9_dry_51 : decode cX9_dry 51 = .ok (.lload_n 3, 1) := by decide +kernel
theorem dX9_dry_52 : decode cX9_dry 52 = .ok (.l2i, 1) := by decide +kernel
theorem dX9_dry_53 : decode cX9_dry 53 = .ok (.ireturn, 1) := by decide +kernel
theorem dX9_stayed_0 : decode cX9_stayed 0 = .ok (.aload_n 0, 1) := by decide +kernel
theorem dX9_stayed_1 : decode cX9_stayed 1 = .ok (.getfield 65, 3) := by decide +kernel
theorem dX9_stayed_4 : decode cX9_stayed 4 = .ok (.iload_n 1, 1) := by decide +kernel
theorem dX9_stayed_5 : decode cX9_stayed 5 = .ok (.invokevirtual 193, 3) := by decide +kernel
theorem dX9_stayed_8 : decode cX9_stayed 8 = .ok (.ifCond .ne 6, 3) := by decide +kernel
theorem dX9_stayed_11 : decode cX9_stayed 11 = .ok (.ldc 179, 2) := by decide +kernel
theorem dX9_stayed_13 : decode cX9_stayed 13 = .ok (.ireturn, 1) := by decide +kernel
theorem dX9_stayed_14 : decode cX9_stayed 14 = .ok (.iload_n 2, 1) := by decide +kernel
theorem dX9_stayed_15 : decode cX9_stayed 15 = .ok (.ifCond .lt 9, 3) := by decide +kernel
theorem dX9_stayed_18 : decode cX9_stayed 18 = .ok (.iload_n 2, 1) := by decide +kernel
theorem dX9_stayed_19 : decode cX9_stayed 19 = .ok (.bipush 100, 2) := by decide +kernel
theorem dX9_stayed_21 : decode cX9_stayed 21 = .ok (.if_icmp .le 6, 3) := by decide +kernel
theorem dX9_stayed_24 : decode cX9_stayed 24 = .ok (.ldc 80, 2) := by decide +kernel
theorem dX9_stayed_26 : decode cX9_stayed 26 = .ok (.ireturn, 1) := by decide +kernel
theorem dX9_stayed_27 : decode cX9_stayed 27 = .ok (.aload_n 0, 1) := by decide +kernel
theorem dX9_stayed_28 : decode cX9_stayed 28 = .ok (.getfield 55, 3) := by decide +kernel
theorem dX9_stayed_31 : decode cX9_stayed 31 = .ok (.iload_n 1, 1) := by decide +kernel
theorem dX9_stayed_32 : decode cX9_stayed 32 = .ok (.iload_n 2, 1) := by decide +kernel
theorem dX9_stayed_33 : decode cX9_stayed 33 = .ok (.invokevirtual 313, 3) := by decide +kernel
theorem dX9_stayed_36 : decode cX9_stayed 36 = .ok (.ifCond .eq 13, 3) := by decide +kernel
theorem dX9_stayed_39 : decode cX9_stayed 39 = .ok (.aload_n 0, 1) := by decide +kernel
theorem dX9_stayed_40 : decode cX9_stayed 40 = .ok (.getfield 55, 3) := by decide +kernel
theorem dX9_stayed_43 : decode cX9_stayed 43 = .ok (.getfield 141, 3) := by decide +kernel
theorem dX9_stayed_46 : decode cX9_stayed 46 = .ok (.goto 5, 3) := by decide +kernel
theorem dX9_stayed_49 : decode cX9_stayed 49 = .ok (.ldc 88, 2) := by decide +kernel
theorem dX9_stayed_51 : decode cX9_stayed 51 = .ok (.ireturn, 1) := by decide +kernel
theorem dX9_couldBe_0 : decode cX9_couldBe 0 = .ok (.aload_n 0, 1) := by decide +kernel
theorem dX9_couldBe_1 : decode cX9_couldBe 1 = .ok (.getfield 55, 3) := by decide +kernel
theorem dX9_couldBe_4 : decode cX9_couldBe 4 = .ok (.aload_n 0, 1) := by decide +kernel
theorem dX9_couldBe_5 : decode cX9_couldBe 5 = .ok (.getfield 65, 3) := by decide +kernel
theorem dX9_couldBe_8 : decode cX9_couldBe 8 = .ok (.invokevirtual 315, 3) := by decide +kernel
theorem dX9_couldBe_11 : decode cX9_couldBe 11 = .ok (.ireturn, 1) := by decide +kernel
theorem dX9_ask_0 : decode cX9_ask 0 = .ok (.aload_n 0, 1) := by decide +kernel
theorem dX9_ask_1 : decode cX9_ask 1 = .ok (.getfield 65, 3) := by decide +kernel
theorem dX9_ask_4 : decode cX9_ask 4 = .ok (.aload_n 0, 1) := by decide +kernel
theorem dX9_ask_5 : decode cX9_ask 5 = .ok (.getfield 55, 3) := by decide +kernel
theorem dX9_ask_8 : decode cX9_ask 8 = .ok (.aload_n 0, 1) := by decide +kernel
theorem dX9_ask_9 : decode cX9_ask 9 = .ok (.getfield 65, 3) := by decide +kernel
theorem dX9_ask_12 : decode cX9_ask 12 = .ok (.invokevirtual 315, 3) := by decide +kernel
theorem dX9_ask_15 : decode cX9_ask 15 = .ok (.invokestatic 318, 3) := by decide +kernel
theorem dX9_ask_18 : decode cX9_ask 18 = .ok (.ireturn, 1) := by decide +kernel
theorem dX9_write_0 : decode cX9_write 0 = .ok (.aload_n 0, 1) := by decide +kernel
theorem dX9_write_1 : decode cX9_write 1 = .ok (.getfield 65, 3) := by decide +kernel
theorem dX9_write_4 : decode cX9_write 4 = .ok (.iload_n 1, 1) := by decide +kernel
theorem dX9_write_5 : decode cX9_write 5 = .ok (.invokevirtual 193, 3) := by decide +kernel
theorem dX9_write_8 : decode cX9_write 8 = .ok (.ifCond .ne 6, 3) := by decide +kernel
theorem dX9_write_11 : decode cX9_write 11 = .ok (.ldc 179, 2) := by decide +kernel
theorem dX9_write_13 : decode cX9_write 13 = .ok (.ireturn, 1) := by decide +kernel
theorem dX9_write_14 : decode cX9_write 14 = .ok (.iload_n 2, 1) := by decide +kernel
theorem dX9_write_15 : decode cX9_write 15 = .ok (.ifCond .lt 10, 3) := by decide +kernel
theorem dX9_write_18 : decode cX9_write 18 = .ok (.iload_n 2, 1) := by decide +kernel
theorem dX9_write_19 : decode cX9_write 19 = .ok (.sipush 9999, 3) := by decide +kernel
theorem dX9_write_22 : decode cX9_write 22 = .ok (.if_icmp .le 6, 3) := by decide +kernel
theorem dX9_write_25 : decode cX9_write 25 = .ok (.ldc 80, 2) := by decide +kernel
theorem dX9_write_27 : decode cX9_write 27 = .ok (.ireturn, 1) := by decide +kernel
theorem dX9_write_28 : decode cX9_write 28 = .ok (.aload_n 0, 1) := by decide +kernel
theorem dX9_write_29 : decode cX9_write 29 = .ok (.getfield 59, 3) := by decide +kernel
theorem dX9_write_32 : decode cX9_write 32 = .ok (.iload_n 1, 1) := by decide +kernel
theorem dX9_write_33 : decode cX9_write 33 = .ok (.iload_n 2, 1) := by decide +kernel
theorem dX9_write_34 : decode cX9_write 34 = .ok (.invokevirtual 313, 3) := by decide +kernel
theorem dX9_write_37 : decode cX9_write 37 = .ok (.ifCond .eq 13, 3) := by decide +kernel
theorem dX9_write_40 : decode cX9_write 40 = .ok (.aload_n 0, 1) := by decide +kernel
theorem dX9_write_41 : decode cX9_write 41 = .ok (.getfield 59, 3) := by decide +kernel
theorem dX9_write_44 : decode cX9_write 44 = .ok (.getfield 141, 3) := by decide +kernel
theorem dX9_write_47 : decode cX9_write 47 = .ok (.goto 5, 3) := by decide +kernel
theorem dX9_write_50 : decode cX9_write 50 = .ok (.ldc 88, 2) := by decide +kernel
theorem dX9_write_52 : decode cX9_write 52 = .ok (.ireturn, 1) := by decide +kernel
theorem dX9_judge_0 : decode cX9_judge 0 = .ok (.aload_n 0, 1) := by decide +kernel
theorem dX9_judge_1 : decode cX9_judge 1 = .ok (.getfield 59, 3) := by decide +kernel
theorem dX9_judge_4 : decode cX9_judge 4 = .ok (.aload_n 0, 1) := by decide +kernel
theorem dX9_judge_5 : decode cX9_judge 5 = .ok (.getfield 19, 3) := by decide +kernel
theorem dX9_judge_8 : decode cX9_judge 8 = .ok (.getfield 205, 3) := by decide +kernel
theorem dX9_judge_11 : decode cX9_judge 11 = .ok (.invokevirtual 323, 3) := by decide +kernel
theorem dX9_judge_14 : decode cX9_judge 14 = .ok (.ireturn, 1) := by decide +kernel
theorem dX9_tear_0 : decode cX9_tear 0 = .ok (.aload_n 0, 1) := by decide +kernel
theorem dX9_tear_1 : decode cX9_tear 1 = .ok (.getfield 55, 3) := by decide +kernel
theorem dX9_tear_4 : decode cX9_tear 4 = .ok (.getfield 141, 3) := by decide +kernel
theorem dX9_tear_7 : decode cX9_tear 7 = .ok (.aload_n 0, 1) := by decide +kernel
theorem dX9_tear_8 : decode cX9_tear 8 = .ok (.getfield 59, 3) := by decide +kernel
theorem dX9_tear_11 : decode cX9_tear 11 = .ok (.getfield 141, 3) := by decide +kernel
theorem dX9_tear_14 : decode cX9_tear 14 = .ok (.iadd, 1) := by decide +kernel
theorem dX9_tear_15 : decode cX9_tear 15 = .ok (.istore_n 1, 1) := by decide +kernel
theorem dX9_tear_16 : decode cX9_tear 16 = .ok (.aload_n 0, 1) := by decide +kernel
theorem dX9_tear_17 : decode cX9_tear 17 = .ok (.getfield 55, 3) := by decide +kernel
theorem dX9_tear_20 : decode cX9_tear 20 = .ok (.invokevirtual 112, 3) := by decide +kernel
theorem dX9_tear_23 : decode cX9_tear 23 = .ok (.aload_n 0, 1) := by decide +kernel
theorem dX9_tear_24 : decode cX9_tear 24 = .ok (.getfield 59, 3) := by decide +kernel
theorem dX9_tear_27 : decode cX9_tear 27 = .ok (.invokevirtual 112, 3) := by decide +kernel
theorem dX9_tear_30 : decode cX9_tear 30 = .ok (.iload_n 1, 1) := by decide +kernel
theorem dX9_tear_31 : decode cX9_tear 31 = .ok (.ireturn, 1) := by decide +kernel
theorem dX9_seed_0 : decode cX9_seed 0 = .ok (.iload_n 1, 1) := by decide +kernel
theorem dX9_seed_1 : decode cX9_seed 1 = .ok (.ifCond .ge 6, 3) := by decide +kernel
theorem dX9_seed_4 : decode cX9_seed 4 = .ok (.ldc 80, 2) := by decide +kernel
theorem dX9_seed_6 : decode cX9_seed 6 = .ok (.ireturn, 1) := by decide +kernel
theorem dX9_seed_7 : decode cX9_seed 7 = .ok (.aload_n 0, 1) := by decide +kernel
theorem dX9_seed_8 : decode cX9_seed 8 = .ok (.getfield 72, 3) := by decide +kernel
theorem dX9_seed_11 : decode cX9_seed 11 = .ok (.istore_n 2, 1) := by decide +kernel
theorem dX9_seed_12 : decode cX9_seed 12 = .ok (.aload_n 0, 1) := by decide +kernel
theorem dX9_seed_13 : decode cX9_seed 13 = .ok (.iload_n 1, 1) := by decide +kernel
theorem dX9_seed_14 : decode cX9_seed 14 = .ok (.putfield 72, 3) := by decide +kernel
theorem dX9_seed_17 : decode cX9_seed 17 = .ok (.iload_n 2, 1) := by decide +kernel
theorem dX9_seed_18 : decode cX9_seed 18 = .ok (.ireturn, 1) := by decide +kernel
theorem dX9_keep_0 : decode cX9_keep 0 = .ok (.iload_n 1, 1) := by decide +kernel
theorem dX9_keep_1 : decode cX9_keep 1 = .ok (.ifCond .lt 12, 3) := by decide +kernel
theorem dX9_keep_4 : decode cX9_keep 4 = .ok (.iload_n 1, 1) := by decide +kernel
theorem dX9_keep_5 : decode cX9_keep 5 = .ok (.aload_n 0, 1) := by decide +kernel
theorem dX9_keep_6 : decode cX9_keep 6 = .ok (.getfield 32, 3) := by decide +kernel
theorem dX9_keep_9 : decode cX9_keep 9 = .ok (.arraylength, 1) := by decide +kernel
theorem dX9_keep_10 : decode cX9_keep 10 = .ok (.if_icmp .lt 6, 3) := by decide +kernel
theorem dX9_keep_13 : decode cX9_keep 13 = .ok (.ldc 179, 2) := by decide +kernel
theorem dX9_keep_15 : decode cX9_keep 15 = .ok (.ireturn, 1) := by decide +kernel
theorem dX9_keep_16 : decode cX9_keep 16 = .ok (.aload_n 0, 1) := by decide +kernel
theorem dX9_keep_17 : decode cX9_keep 17 = .ok (.getfield 32, 3) := by decide +kernel
theorem dX9_keep_20 : decode cX9_keep 20 = .ok (.iload_n 1, 1) := by decide +kernel
theorem dX9_keep_21 : decode cX9_keep 21 = .ok (.aaload, 1) := by decide +kernel
theorem dX9_keep_22 : decode cX9_keep 22 = .ok (.astore_n 2, 1) := by decide +kernel
theorem dX9_keep_23 : decode cX9_keep 23 = .ok (.aload_n 2, 1) := by decide +kernel
theorem dX9_keep_24 : decode cX9_keep 24 = .ok (.getfield 327, 3) := by decide +kernel
theorem dX9_keep_27 : decode cX9_keep 27 = .ok (.aload_n 0, 1) := by decide +kernel
theorem dX9_keep_28 : decode cX9_keep 28 = .ok (.getfield 19, 3) := by decide +kernel
theorem dX9_keep_31 : decode cX9_keep 31 = .ok (.invokevirtual 328, 3) := by decide +kernel
theorem dX9_keep_34 : decode cX9_keep 34 = .ok (.aload_n 2, 1) := by decide +kernel
theorem dX9_keep_35 : decode cX9_keep 35 = .ok (.aload_n 0, 1) := by decide +kernel
theorem dX9_keep_36 : decode cX9_keep 36 = .ok (.getfield 72, 3) := by decide +kernel
theorem dX9_keep_39 : decode cX9_keep 39 = .ok (.putfield 331, 3) := by decide +kernel
theorem dX9_keep_42 : decode cX9_keep 42 = .ok (.aload_n 2, 1) := by decide +kernel
theorem dX9_keep_43 : decode cX9_keep 43 = .ok (.iconst 1, 1) := by decide +kernel
theorem dX9_keep_44 : decode cX9_keep 44 = .ok (.putfield 113, 3) := by decide +kernel
theorem dX9_keep_47 : decode cX9_keep 47 = .ok (.aload_n 0, 1) := by decide +kernel
theorem dX9_keep_48 : decode cX9_keep 48 = .ok (.getfield 26, 3) := by decide +kernel
theorem dX9_keep_51 : decode cX9_keep 51 = .ok (.invokevirtual 109, 3) := by decide +kernel
theorem dX9_keep_54 : decode cX9_keep 54 = .ok (.iconst 1, 1) := by decide +kernel
theorem dX9_keep_55 : decode cX9_keep 55 = .ok (.ireturn, 1) := by decide +kernel
theorem dX9_goBack_0 : decode cX9_goBack 0 = .ok (.iload_n 1, 1) := by decide +kernel
theorem dX9_goBack_1 : decode cX9_goBack 1 = .ok (.ifCond .lt 12, 3) := by decide +kernel
theorem dX9_goBack_4 : decode cX9_goBack 4 = .ok (.iload_n 1, 1) := by decide +kernel
theorem dX9_goBack_5 : decode cX9_goBack 5 = .ok (.aload_n 0, 1) := by decide +kernel
theorem dX9_goBack_6 : decode cX9_goBack 6 = .ok (.getfield 32, 3) := by decide +kernel
theorem dX9_goBack_9 : decode cX9_goBack 9 = .ok (.arraylength, 1) := by decide +kernel
theorem dX9_goBack_10 : decode cX9_goBack 10 = .ok (.if_icmp .lt 6, 3) := by decide +kernel
theorem dX9_goBack_13 : decode cX9_goBack 13 = .ok (.ldc 179, 2) := by decide +kernel
theorem dX9_goBack_15 : decode cX9_goBack 15 = .ok (.ireturn, 1) := by decide +kernel
theorem dX9_goBack_16 : decode cX9_goBack 16 = .ok (.aload_n 0, 1) := by decide +kernel
theorem dX9_goBack_17 : decode cX9_goBack 17 = .ok (.getfield 32, 3) := by decide +kernel
theorem dX9_goBack_20 : decode cX9_goBack 20 = .ok (.iload_n 1, 1) := by decide +kernel
theorem dX9_goBack_21 : decode cX9_goBack 21 = .ok (.aaload, 1) := by decide +kernel
theorem dX9_goBack_22 : decode cX9_goBack 22 = .ok (.astore_n 2, 1) := by decide +kernel
theorem dX9_goBack_23 : decode cX9_goBack 23 = .ok (.aload_n 2, 1) := by decide +kernel
theorem dX9_goBack_24 : decode cX9_goBack 24 = .ok (.getfield 113, 3) := by decide +kernel
theorem dX9_goBack_27 : decode cX9_goBack 27 = .ok (.ifCond .ne 6, 3) := by decide +kernel
theorem dX9_goBack_30 : decode cX9_goBack 30 = .ok (.ldc 221, 2) := by decide +kernel
theorem dX9_goBack_32 : decode cX9_goBack 32 = .ok (.ireturn, 1) := by decide +kernel
theorem dX9_goBack_33 : decode cX9_goBack 33 = .ok (.aload_n 0, 1) := by decide +kernel
theorem dX9_goBack_34 : decode cX9_goBack 34 = .ok (.getfield 19, 3) := by decide +kernel
theorem dX9_goBack_37 : decode cX9_goBack 37 = .ok (.aload_n 2, 1) := by decide +kernel
theorem dX9_goBack_38 : decode cX9_goBack 38 = .ok (.getfield 327, 3) := by decide +kernel
theorem dX9_goBack_41 : decode cX9_goBack 41 = .ok (.invokevirtual 328, 3) := by decide +kernel
theorem dX9_goBack_44 : decode cX9_goBack 44 = .ok (.aload_n 0, 1) := by decide +kernel
theorem dX9_goBack_45 : decode cX9_goBack 45 = .ok (.aload_n 2, 1) := by decide +kernel
theorem dX9_goBack_46 : decode cX9_goBack 46 = .ok (.getfield 331, 3) := by decide +kernel
theorem dX9_goBack_49 : decode cX9_goBack 49 = .ok (.putfield 72, 3) := by decide +kernel
theorem dX9_goBack_52 : decode cX9_goBack 52 = .ok (.aload_n 0, 1) := by decide +kernel
theorem dX9_goBack_53 : decode cX9_goBack 53 = .ok (.getfield 26, 3) := by decide +kernel
theorem dX9_goBack_56 : decode cX9_goBack 56 = .ok (.invokevirtual 109, 3) := by decide +kernel
theorem dX9_goBack_59 : decode cX9_goBack 59 = .ok (.iconst 1, 1) := by decide +kernel
theorem dX9_goBack_60 : decode cX9_goBack 60 = .ok (.ireturn, 1) := by decide +kernel
theorem dX9_holds_0 : decode cX9_holds 0 = .ok (.iload_n 1, 1) := by decide +kernel
theorem dX9_holds_1 : decode cX9_holds 1 = .ok (.ifCond .lt 21, 3) := by decide +kernel
theorem dX9_holds_4 : decode cX9_holds 4 = .ok (.iload_n 1, 1) := by decide +kernel
theorem dX9_holds_5 : decode cX9_holds 5 = .ok (.bipush 31, 2) := by decide +kernel
theorem dX9_holds_7 : decode cX9_holds 7 = .ok (.if_icmp .ge 15, 3) := by decide +kernel
theorem dX9_holds_10 : decode cX9_holds 10 = .ok (.iload_n 0, 1) := by decide +kernel
theorem dX9_holds_11 : decode cX9_holds 11 = .ok (.iload_n 1, 1) := by decide +kernel
theorem dX9_holds_12 : decode cX9_holds 12 = .ok (.ishr, 1) := by decide +kernel
theorem dX9_holds_13 : decode cX9_holds 13 = .ok (.iconst 1, 1) := by decide +kernel
theorem dX9_holds_14 : decode cX9_holds 14 = .ok (.iand, 1) := by decide +kernel
theorem dX9_holds_15 : decode cX9_holds 15 = .ok (.ifCond .eq 7, 3) := by decide +kernel
theorem dX9_holds_18 : decode cX9_holds 18 = .ok (.iconst 1, 1) := by decide +kernel
theorem dX9_holds_19 : decode cX9_holds 19 = .ok (.goto 4, 3) := by decide +kernel
theorem dX9_holds_22 : decode cX9_holds 22 = .ok (.iconst 0, 1) := by decide +kernel
theorem dX9_holds_23 : decode cX9_holds 23 = .ok (.ireturn, 1) := by decide +kernel
theorem dX9_setOfFirst_0 : decode cX9_setOfFirst 0 = .ok (.iconst 1, 1) := by decide +kernel
theorem dX9_setOfFirst_1 : decode cX9_setOfFirst 1 = .ok (.iload_n 0, 1) := by decide +kernel
theorem dX9_setOfFirst_2 : decode cX9_setOfFirst 2 = .ok (.ishl, 1) := by decide +kernel
theorem dX9_setOfFirst_3 : decode cX9_setOfFirst 3 = .ok (.iconst 1, 1) := by decide +kernel
theorem dX9_setOfFirst_4 : decode cX9_setOfFirst 4 = .ok (.isub, 1) := by decide +kernel
theorem dX9_setOfFirst_5 : decode cX9_setOfFirst 5 = .ok (.ireturn, 1) := by decide +kernel
theorem dX9_leastOf_0 : decode cX9_leastOf 0 = .ok (.iconst 0, 1) := by decide +kernel
theorem dX9_leastOf_1 : decode cX9_leastOf 1 = .ok (.istore_n 1, 1) := by decide +kernel
theorem dX9_leastOf_2 : decode cX9_leastOf 2 = .ok (.iload_n 1, 1) := by decide +kernel
theorem dX9_leastOf_3 : decode cX9_leastOf 3 = .ok (.bipush 31, 2) := by decide +kernel
theorem dX9_leastOf_5 : decode cX9_leastOf 5 = .ok (.if_icmp .ge 19, 3) := by decide +kernel
theorem dX9_leastOf_8 : decode cX9_leastOf 8 = .ok (.iload_n 0, 1) := by decide +kernel
theorem dX9_leastOf_9 : decode cX9_leastOf 9 = .ok (.iload_n 1, 1) := by decide +kernel
theorem dX9_leastOf_10 : decode cX9_leastOf 10 = .ok (.invokestatic 217, 3) := by decide +kernel
theorem dX9_leastOf_13 : decode cX9_leastOf 13 = .ok (.ifCond .eq 5, 3) := by decide +kernel
theorem dX9_leastOf_16 : decode cX9_leastOf 16 = .ok (.iload_n 1, 1) := by decide +kernel
theorem dX9_leastOf_17 : decode cX9_leastOf 17 = .ok (.ireturn, 1) := by decide +kernel
theorem dX9_leastOf_18 : decode cX9_leastOf 18 = .ok (.iinc 1 1, 3) := by decide +kernel
theorem dX9_leastOf_21 : decode cX9_leastOf 21 = .ok (.goto (-19), 3) := by decide +kernel
theorem dX9_leastOf_24 : decode cX9_leastOf 24 = .ok (.iconst (-1), 1) := by decide +kernel
theorem dX9_leastOf_25 : decode cX9_leastOf 25 = .ok (.ireturn, 1) := by decide +kernel
theorem dX10_init_0 : decode cX10_init 0 = .ok (.aload_n 0, 1) := by decide +kernel
theorem dX10_init_1 : decode cX10_init 1 = .ok (.invokespecial 1, 3) := by decide +kernel
theorem dX10_init_4 : decode cX10_init 4 = .ok (.aload_n 0, 1) := by decide +kernel
theorem dX10_init_5 : decode cX10_init 5 = .ok (.sipush 240, 3) := by decide +kernel
theorem dX10_init_8 : decode cX10_init 8 = .ok (.newarray .int, 2) := by decide +kernel
theorem dX10_init_10 : decode cX10_init 10 = .ok (.putfield 7, 3) := by decide +kernel
theorem dX10_init_13 : decode cX10_init 13 = .ok (.aload_n 0, 1) := by decide +kernel
theorem dX10_init_14 : decode cX10_init 14 = .ok (.iconst (-1), 1) := by decide +kernel
theorem dX10_init_15 : decode cX10_init 15 = .ok (.putfield 13, 3) := by decide +kernel
theorem dX10_init_18 : decode cX10_init 18 = .ok (.aload_n 0, 1) := by decide +kernel
theorem dX10_init_19 : decode cX10_init 19 = .ok (.bipush 8, 2) := by decide +kernel
theorem dX10_init_21 : decode cX10_init 21 = .ok (.newarray .int, 2) := by decide +kernel
theorem dX10_init_23 : decode cX10_init 23 = .ok (.putfield 17, 3) := by decide +kernel
theorem dX10_init_26 : decode cX10_init 26 = .ok (.aload_n 0, 1) := by decide +kernel
theorem dX10_init_27 : decode cX10_init 27 = .ok (.bipush 8, 2) := by decide +kernel
theorem dX10_init_29 : decode cX10_init 29 = .ok (.newarray .int, 2) := by decide +kernel
theorem dX10_init_31 : decode cX10_init 31 = .ok (.putfield 20, 3) := by decide +kernel
theorem dX10_init_34 : decode cX10_init 34 = .ok (.aload_n 0, 1) := by decide +kernel
theorem dX10_init_35 : decode cX10_init 35 = .ok (.bipush 6, 2) := by decide +kernel
theorem dX10_init_37 : decode cX10_init 37 = .ok (.newarray .int, 2) := by decide +kernel
theorem dX10_init_39 : decode cX10_init 39 = .ok (.putfield 23, 3) := by decide +kernel
theorem dX10_init_42 : decode cX10_init 42 = .ok (.aload_n 0, 1) := by decide +kernel
theorem dX10_init_43 : decode cX10_init 43 = .ok (.bipush 6, 2) := by decide +kernel
theorem dX10_init_45 : decode cX10_init 45 = .ok (.newarray .int, 2) := by decide +kernel
theorem dX10_init_47 : decode cX10_init 47 = .ok (.putfield 26, 3) := by decide +kernel
theorem dX10_init_50 : decode cX10_init 50 = .ok (.aload_n 0, 1) := by decide +kernel
theorem dX10_init_51 : decode cX10_init 51 = .ok (.bipush 6, 2) := by decide +kernel
theorem dX10_init_53 : decode cX10_init 53 = .ok (.newarray .int, 2) := by decide +kernel
theorem dX10_init_55 : decode cX10_init 55 = .ok (.putfield 29, 3) := by decide +kernel
theorem dX10_init_58 : decode cX10_init 58 = .ok (.aload_n 0, 1) := by decide +kernel
theorem dX10_init_59 : decode cX10_init 59 = .ok (.bipush 8, 2) := by decide +kernel
theorem dX10_init_61 : decode cX10_init 61 = .ok (.newarray .int, 2) := by decide +kernel
theorem dX10_init_63 : decode cX10_init 63 = .ok (.putfield 32, 3) := by decide +kernel
theorem dX10_init_66 : decode cX10_init 66 = .ok (.aload_n 0, 1) := by decide +kernel
theorem dX10_init_67 : decode cX10_init 67 = .ok (.bipush 8, 2) := by decide +kernel
theorem dX10_init_69 : decode cX10_init 69 = .ok (.newarray .int, 2) := by decide +kernel
theorem dX10_init_71 : decode cX10_init 71 = .ok (.putfield 35, 3) := by decide +kernel
theorem dX10_init_74 : decode cX10_init 74 = .ok (.aload_n 0, 1) := by decide +kernel
theorem dX10_init_75 : decode cX10_init 75 = .ok (.bipush 6, 2) := by decide +kernel
theorem dX10_init_77 : decode cX10_init 77 = .ok (.newarray .int, 2) := by decide +kernel
theorem dX10_init_79 : decode cX10_init 79 = .ok (.putfield 38, 3) := by decide +kernel
theorem dX10_init_82 : decode cX10_init 82 = .ok (.aload_n 0, 1) := by decide +kernel
theorem dX10_init_83 : decode cX10_init 83 = .ok (.bipush 6, 2) := by decide +kernel
theorem dX10_init_85 : decode cX10_init 85 = .ok (.newarray .int, 2) := by decide +kernel
theorem dX10_init_87 : decode cX10_init 87 = .ok (.putfield 41, 3) := by decide +kernel
theorem dX10_init_90 : decode cX10_init 90 = .ok (.aload_n 0, 1) := by decide +kernel
theorem dX10_init_91 : decode cX10_init 91 = .ok (.bipush 6, 2) := by decide +kernel
theorem dX10_init_93 : decode cX10_init 93 = .ok (.newarray .int, 2) := by decide +kernel
theorem dX10_init_95 : decode cX10_init 95 = .ok (.putfield 44, 3) := by decide +kernel
theorem dX10_init_98 : decode cX10_init 98 = .ok (.aload_n 0, 1) := by decide +kernel
theorem dX10_init_99 : decode cX10_init 99 = .ok (.bipush 25, 2) := by decide +kernel
theorem dX10_init_101 : decode cX10_init 101 = .ok (.newarray .int, 2) := by decide +kernel
theorem dX10_init_103 : decode cX10_init 103 = .ok (.putfield 47, 3) := by decide +kernel
theorem dX10_init_106 : decode cX10_init 106 = .ok (.aload_n 0, 1) := by decide +kernel
theorem dX10_init_107 : decode cX10_init 107 = .ok (.sipush 750, 3) := by decide +kernel
theorem dX10_init_110 : decode cX10_init 110 = .ok (.newarray .int, 2) := by decide +kernel
theorem dX10_init_112 : decode cX10_init 112 = .ok (.putfield 50, 3) := by decide +kernel
theorem dX10_init_115 : decode cX10_init 115 = .ok (.aload_n 0, 1) := by decide +kernel
theorem dX10_init_116 : decode cX10_init 116 = .ok (.sipush 2048, 3) := by decide +kernel
theorem dX10_init_119 : decode cX10_init 119 = .ok (.newarray .int, 2) := by decide +kernel
theorem dX10_init_121 : decode cX10_init 121 = .ok (.putfield 53, 3) := by decide +kernel
theorem dX10_init_124 : decode cX10_init 124 = .ok (.aload_n 0, 1) := by decide +kernel
theorem dX10_init_125 : decode cX10_init 125 = .ok (.bipush 6, 2) := by decide +kernel
theorem dX10_init_127 : decode cX10_init 127 = .ok (.newarray .int, 2) := by decide +kernel
theorem dX10_init_129 : decode cX10_init 129 = .ok (.putfield 56, 3) := by decide +kernel
theorem dX10_init_132 : decode cX10_init 132 = .ok (.aload_n 0, 1) := by decide +kernel
theorem dX10_init_133 : decode cX10_init 133 = .ok (.bipush 6, 2) := by decide +kernel
theorem dX10_init_135 : decode cX10_init 135 = .ok (.newarray .int, 2) := by decide +kernel
theorem dX10_init_137 : decode cX10_init 137 = .ok (.putfield 59, 3) := by decide +kernel
theorem dX10_init_140 : decode cX10_init 140 = .ok (.aload_n 0, 1) := by decide +kernel
theorem dX10_init_141 : decode cX10_init 141 = .ok (.bipush 6, 2) := by decide +kernel
theorem dX10_init_143 : decode cX10_init 143 = .ok (.newarray .int, 2) := by decide +kernel
theorem dX10_init_145 : decode cX10_init 145 = .ok (.putfield 62, 3) := by decide +kernel
theorem dX10_init_148 : decode cX10_init 148 = .ok (.aload_n 0, 1) := by decide +kernel
theorem dX10_init_149 : decode cX10_init 149 = .ok (.bipush 20, 2) := by decide +kernel
theorem dX10_init_151 : decode cX10_init 151 = .ok (.newarray .int, 2) := by decide +kernel
theorem dX10_init_153 : decode cX10_init 153 = .ok (.putfield 65, 3) := by decide +kernel
theorem dX10_init_156 : decode cX10_init 156 = .ok (.aload_n 0, 1) := by decide +kernel
theorem dX10_init_157 : decode cX10_init 157 = .ok (.bipush 20, 2) := by decide +kernel
theorem dX10_init_159 : decode cX10_init 159 = .ok (.newarray .int, 2) := by decide +kernel
theorem dX10_init_161 : decode cX10_init 161 = .ok (.putfield 68, 3) := by decide +kernel
theorem dX10_init_164 : decode cX10_init 164 = .ok (.aload_n 0, 1) := by decide +kernel
theorem dX10_init_165 : decode cX10_init 165 = .ok (.iconst 2, 1) := by decide +kernel
theorem dX10_init_166 : decode cX10_init 166 = .ok (.newarray .boolean, 2) := by decide +kernel
theorem dX10_init_168 : decode cX10_init 168 = .ok (.putfield 71, 3) := by decide +kernel
theorem dX10_init_171 : decode cX10_init 171 = .ok (.aload_n 0, 1) := by decide +kernel
theorem dX10_init_172 : decode cX10_init 172 = .ok (.bipush 50, 2) := by decide +kernel
theorem dX10_init_174 : decode cX10_init 174 = .ok (.newarray .int, 2) := by decide +kernel
theorem dX10_init_176 : decode cX10_init 176 = .ok (.putfield 75, 3) := by decide +kernel
theorem dX10_init_179 : decode cX10_init 179 = .ok (.aload_n 0, 1) := by decide +kernel
theorem dX10_init_180 : decode cX10_init 180 = .ok (.iconst 2, 1) := by decide +kernel
theorem dX10_init_181 : decode cX10_init 181 = .ok (.newarray .long, 2) := by decide +kernel
theorem dX10_init_183 : decode cX10_init 183 = .ok (.putfield 78, 3) := by decide +kernel
theorem dX10_init_186 : decode cX10_init 186 = .ok (.aload_n 0, 1) := by decide +kernel
theorem dX10_init_187 : decode cX10_init 187 = .ok (.getfield 47, 3) := by decide +kernel
theorem dX10_init_190 : decode cX10_init 190 = .ok (.iconst 4, 1) := by decide +kernel
theorem dX10_init_191 : decode cX10_init 191 = .ok (.iconst (-1), 1) := by decide +kernel
theorem dX10_init_192 : decode cX10_init 192 = .ok (.iastore, 1) := by decide +kernel
theorem dX10_init_193 : decode cX10_init 193 = .ok (.aload_n 0, 1) := by decide +kernel
theorem dX10_init_194 : decode cX10_init 194 = .ok (.getfield 47, 3) := by decide +kernel
theorem dX10_init_197 : decode cX10_init 197 = .ok (.bipush 6, 2) := by decide +kernel
theorem dX10_init_199 : decode cX10_init 199 = .ok (.iconst (-1), 1) := by decide +kernel
theorem dX10_init_200 : decode cX10_init 200 = .ok (.iastore, 1) := by decide +kernel
theorem dX10_init_201 : decode cX10_init 201 = .ok (.return_, 1) := by decide +kernel
theorem dX10_in_0 : decode cX10_in 0 = .ok (.iload_n 0, 1) := by decide +kernel
theorem dX10_in_1 : decode cX10_in 1 = .ok (.iload_n 1, 1) := by decide +kernel
theorem dX10_in_2 : decode cX10_in 2 = .ok (.if_icmp .lt 12, 3) := by decide +kernel
theorem dX10_in_5 : decode cX10_in 5 = .ok (.iload_n 0, 1) := by decide +kernel
theorem dX10_in_6 : decode cX10_in 6 = .ok (.iload_n 2, 1) := by decide +kernel
theorem dX10_in_7 : decode cX10_in 7 = .ok (.if_icmp .gt 7, 3) := by decide +kernel
theorem dX10_in_10 : decode cX10_in 10 = .ok (.iconst 1, 1) := by decide +kernel
theorem dX10_in_11 : decode cX10_in 11 = .ok (.goto 4, 3) := by decide +kernel
theorem dX10_in_14 : decode cX10_in 14 = .ok (.iconst 0, 1) := by decide +kernel
theorem dX10_in_15 : decode cX10_in 15 = .ok (.ireturn, 1) := by decide +kernel
theorem dX10_has_0 : decode cX10_has 0 = .ok (.iload_n 0, 1) := by decide +kernel
theorem dX10_has_1 : decode cX10_has 1 = .ok (.iload_n 1, 1) := by decide +kernel
theorem dX10_has_2 : decode cX10_has 2 = .ok (.ishr, 1) := by decide +kernel
theorem dX10_has_3 : decode cX10_has 3 = .ok (.iconst 1, 1) := by decide +kernel
theorem dX10_has_4 : decode cX10_has 4 = .ok (.iand, 1) := by decide +kernel
theorem dX10_has_5 : decode cX10_has 5 = .ok (.iconst 1, 1) := by decide +kernel
theorem dX10_has_6 : decode cX10_has 6 = .ok (.if_icmp .ne 7, 3) := by decide +kernel
theorem dX10_has_9 : decode cX10_has 9 = .ok (.iconst 1, 1) := by decide +kernel
theorem dX10_has_10 : decode cX10_has 10 = .ok (.goto 4, 3) := by decide +kernel
theorem dX10_has_13 : decode cX10_has 13 = .ok (.iconst 0, 1) := by decide +kernel
theorem dX10_has_14 : decode cX10_has 14 = .ok (.ireturn, 1) := by decide +kernel
theorem dX10_bits_0 : decode cX10_bits 0 = .ok (.iconst 0, 1) := by decide +kernel
theorem dX10_bits_1 : decode cX10_bits 1 = .ok (.istore_n 1, 1) := by decide +kernel
theorem dX10_bits_2 : decode cX10_bits 2 = .ok (.iload_n 0, 1) := by decide +kernel
theorem dX10_bits_3 : decode cX10_bits 3 = .ok (.istore_n 2, 1) := by decide +kernel
theorem dX10_bits_4 : decode cX10_bits 4 = .ok (.iload_n 2, 1) := by decide +kernel
theorem dX10_bits_5 : decode cX10_bits 5 = .ok (.ifCond .eq 15, 3) := by decide +kernel
theorem dX10_bits_8 : decode cX10_bits 8 = .ok (.iinc 1 1, 3) := by decide +kernel
theorem dX10_bits_11 : decode cX10_bits 11 = .ok (.iload_n 2, 1) := by decide +kernel
theorem dX10_bits_12 : decode cX10_bits 12 = .ok (.iload_n 2, 1) := by decide +kernel
theorem dX10_bits_13 : decode cX10_bits 13 = .ok (.iconst 1, 1) := by decide +kernel
theorem dX10_bits_14 : decode cX10_bits 14 = .ok (.isub, 1) := by decide +kernel
theorem dX10_bits_15 : decode cX10_bits 15 = .ok (.iand, 1) := by decide +kernel
theorem dX10_bits_16 : decode cX10_bits 16 = .ok (.istore_n 2, 1) := by decide +kernel
theorem dX10_bits_17 : decode cX10_bits 17 = .ok (.goto (-13), 3) := by decide +kernel
theorem dX10_bits_20 : decode cX10_bits 20 = .ok (.iload_n 1, 1) := by decide +kernel
theorem dX10_bits_21 : decode cX10_bits 21 = .ok (.ireturn, 1) := by decide +kernel
theorem dX10_feed_0 : decode cX10_feed 0 = .ok (.iload_n 1, 1) := by decide +kernel
theorem dX10_feed_1 : decode cX10_feed 1 = .ok (.iconst 0, 1) := by decide +kernel
theorem dX10_feed_2 : decode cX10_feed 2 = .ok (.sipush 255, 3) := by decide +kernel
theorem dX10_feed_5 : decode cX10_feed 5 = .ok (.invokestatic 82, 3) := by decide +kernel
theorem dX10_feed_8 : decode cX10_feed 8 = .ok (.ifCond .ne 6, 3) := by decide +kernel
theorem dX10_feed_11 : decode cX10_feed 11 = .ok (.ldc 86, 2) := by decide +kernel
theorem dX10_feed_13 : decode cX10_feed 13 = .ok (.ireturn, 1) := by decide +kernel
theorem dX10_feed_14 : decode cX10_feed 14 = .ok (.aload_n 0, 1) := by decide +kernel
theorem dX10_feed_15 : decode cX10_feed 15 = .ok (.getfield 87, 3) := by decide +kernel
theorem dX10_feed_18 : decode cX10_feed 18 = .ok (.sipush 240, 3) := by decide +kernel
theorem dX10_feed_21 : decode cX10_feed 21 = .ok (.if_icmp .ne 6, 3) := by decide +kernel
theorem dX10_feed_24 : decode cX10_feed 24 = .ok (.ldc 90, 2) := by decide +kernel
theorem dX10_feed_26 : decode cX10_feed 26 = .ok (.ireturn, 1) := by decide +kernel
theorem dX10_feed_27 : decode cX10_feed 27 = .ok (.aload_n 0, 1) := by decide +kernel
theorem dX10_feed_28 : decode cX10_feed 28 = .ok (.getfield 7, 3) := by decide +kernel
theorem dX10_feed_31 : decode cX10_feed 31 = .ok (.aload_n 0, 1) := by decide +kernel
theorem dX10_feed_32 : decode cX10_feed 32 = .ok (.getfield 87, 3) := by decide +kernel
theorem dX10_feed_35 : decode cX10_feed 35 = .ok (.iload_n 1, 1) := by decide +kernel
theorem dX10_feed_36 : decode cX10_feed 36 = .ok (.iastore, 1) := by decide +kernel
theorem dX10_feed_37 : decode cX10_feed 37 = .ok (.aload_n 0, 1) := by decide +kernel
theorem dX10_feed_38 : decode cX10_feed 38 = .ok (.dup, 1) := by decide +kernel
theorem dX10_feed_39 : decode cX10_feed 39 = .ok (.getfield 87, 3) := by decide +kernel
theorem dX10_feed_42 : decode cX10_feed 42 = .ok (.iconst 1, 1) := by decide +kernel
theorem dX10_feed_43 : decode cX10_feed 43 = .ok (.iadd, 1) := by decide +kernel
theorem dX10_feed_44 : decode cX10_feed 44 = .ok (.putfield 87, 3) := by decide +kernel
theorem dX10_feed_47 : decode cX10_feed 47 = .ok (.aload_n 0, 1) := by decide +kernel
theorem dX10_feed_48 : decode cX10_feed 48 = .ok (.getfield 87, 3) := by decide +kernel
theorem dX10_feed_51 : decode cX10_feed 51 = .ok (.ireturn, 1) := by decide +kernel
theorem dX10_letterAt_0 : decode cX10_letterAt 0 = .ok (.iload_n 1, 1) := by decide +kernel
theorem dX10_letterAt_1 : decode cX10_letterAt 1 = .ok (.aload_n 0, 1) := by decide +kernel
theorem dX10_letterAt_2 : decode cX10_letterAt 2 = .ok (.getfield 87, 3) := by decide +kernel
theorem dX10_letterAt_5 : decode cX10_letterAt 5 = .ok (.if_icmp .ge 12, 3) := by decide +kernel
theorem dX10_letterAt_8 : decode cX10_letterAt 8 = .ok (.aload_n 0, 1) := by decide +kernel
theorem dX10_letterAt_9 : decode cX10_letterAt 9 = .ok (.getfield 7, 3) := by decide +kernel
theorem dX10_letterAt_12 : decode cX10_letterAt 12 = .ok (.iload_n 1, 1) := by decide +kernel
theorem dX10_letterAt_13 : decode cX10_letterAt 13 = .ok (.iaload, 1) := by decide +kernel
theorem dX10_letterAt_14 : decode cX10_letterAt 14 = .ok (.goto 4, 3) := by decide +kernel
theorem dX10_letterAt_17 : decode cX10_letterAt 17 = .ok (.iconst (-1), 1) := by decide +kernel
theorem dX10_letterAt_18 : decode cX10_letterAt 18 = .ok (.ireturn, 1) := by decide +kernel
theorem dX10_nextLetter_0 : decode cX10_nextLetter 0 = .ok (.aload_n 0, 1) := by decide +kernel
theorem dX10_nextLetter_1 : decode cX10_nextLetter 1 = .ok (.aload_n 0, 1) := by decide +kernel
theorem dX10_nextLetter_2 : decode cX10_nextLetter 2 = .ok (.getfield 91, 3) := by decide +kernel
theorem dX10_nextLetter_5 : decode cX10_nextLetter 5 = .ok (.invokevirtual 94, 3) := by decide +kernel
theorem dX10_nextLetter_8 : decode cX10_nextLetter 8 = .ok (.bipush 32, 2) := by decide +kernel
theorem dX10_nextLetter_10 : decode cX10_nextLetter 10 = .ok (.if_icmp .ne 16, 3) := by decide +kernel
theorem dX10_nextLetter_13 : decode cX10_nextLetter 13 = .ok (.aload_n 0, 1) := by decide +kernel
theorem dX10_nextLetter_14 : decode cX10_nextLetter 14 = .ok (.dup, 1) := by decide +kernel
theorem dX10_nextLetter_15 : decode cX10_nextLetter 15 = .ok (.getfield 91, 3) := by decide +kernel
theorem dX10_nextLetter_18 : decode cX10_nextLetter 18 = .ok (.iconst 1, 1) := by decide +kernel
theorem dX10_nextLetter_19 : decode cX10_nextLetter 19 = .ok (.iadd, 1) := by decide +kernel
theorem dX10_nextLetter_20 : decode cX10_nextLetter 20 = .ok (.putfield 91, 3) := by decide +kernel
theorem dX10_nextLetter_23 : decode cX10_nextLetter 23 = .ok (.goto (-23), 3) := by decide +kernel
theorem dX10_nextLetter_26 : decode cX10_nextLetter 26 = .ok (.aload_n 0, 1) := by decide +kernel
theorem dX10_nextLetter_27 : decode cX10_nextLetter 27 = .ok (.aload_n 0, 1) := by decide +kernel
theorem dX10_nextLetter_28 : decode cX10_nextLetter 28 = .ok (.getfield 91, 3) := by decide +kernel
theorem dX10_nextLetter_31 : decode cX10_nextLetter 31 = .ok (.invokevirtual 94, 3) := by decide +kernel
theorem dX10_nextLetter_34 : decode cX10_nextLetter 34 = .ok (.ireturn, 1) := by decide +kernel
theorem dX10_fails_0 : decode cX10_fails 0 = .ok (.aload_n 0, 1) := by decide +kernel
theorem dX10_fails_1 : decode cX10_fails 1 = .ok (.iload_n 1, 1) := by decide +kernel
theorem dX10_fails_2 : decode cX10_fails 2 = .ok (.putfield 98, 3) := by decide +kernel
theorem dX10_fails_5 : decode cX10_fails 5 = .ok (.aload_n 0, 1) := by decide +kernel
theorem dX10_fails_6 : decode cX10_fails 6 = .ok (.iload_n 2, 1) := by decide +kernel
theorem dX10_fails_7 : decode cX10_fails 7 = .ok (.putfield 91, 3) := by decide +kernel
theorem dX10_fails_10 : decode cX10_fails 10 = .ok (.iconst (-1), 1) := by decide +kernel
theorem dX10_fails_11 : decode cX10_fails 11 = .ok (.ireturn, 1) := by decide +kernel
theorem dX10_readsNumber_0 : decode cX10_readsNumber 0 = .ok (.aload_n 0, 1) := by decide +kernel
theorem dX10_readsNumber_1 : decode cX10_readsNumber 1 = .ok (.invokevirtual 101, 3) := by decide +kernel
theorem dX10_readsNumber_4 : decode cX10_readsNumber 4 = .ok (.bipush 48, 2) := by decide +kernel
theorem dX10_readsNumber_6 : decode cX10_readsNumber 6 = .ok (.bipush 57, 2) := by decide +kernel
theorem dX10_readsNumber_8 : decode cX10_readsNumber 8 = .ok (.invokestatic 82, 3) := by decide +kernel
theorem dX10_readsNumber_11 : decode cX10_readsNumber 11 = .ok (.ifCond .ne 13, 3) := by decide +kernel
theorem dX10_readsNumber_14 : decode cX10_readsNumber 14 = .ok (.aload_n 0, 1) := by decide +kernel
theorem dX10_readsNumber_15 : decode cX10_readsNumber 15 = .ok (.iconst 1, 1) := by decide +kernel
theorem dX10_readsNumber_16 : decode cX10_readsNumber 16 = .ok (.aload_n 0, 1) := by decide +kernel
theorem dX10_readsNumber_17 : decode cX10_readsNumber 17 = .ok (.getfield 91, 3) := by decide +kernel
theorem dX10_readsNumber_20 : decode cX10_readsNumber 20 = .ok (.invokevirtual 105, 3) := by decide +kernel
theorem dX10_readsNumber_23 : decode cX10_readsNumber 23 = .ok (.ireturn, 1) := by decide +kernel
theorem dX10_readsNumber_24 : decode cX10_readsNumber 24 = .ok (.aload_n 0, 1) := by decide +kernel
theorem dX10_readsNumber_25 : decode cX10_readsNumber 25 = .ok (.aload_n 0, 1) := by decide +kernel
theorem dX10_readsNumber_26 : decode cX10_readsNumber 26 = .ok (.getfield 91, 3) := by decide +kernel
theorem dX10_readsNumber_29 : decode cX10_readsNumber 29 = .ok (.putfield 109, 3) := by decide +kernel
theorem dX10_readsNumber_32 : decode cX10_readsNumber 32 = .ok (.iconst 0, 1) := by decide +kernel
theorem dX10_readsNumber_33 : decode cX10_readsNumber 33 = .ok (.istore_n 3, 1) := by decide +kernel
theorem dX10_readsNumber_34 : decode cX10_readsNumber 34 = .ok (.aload_n 0, 1) := by decide +kernel
theorem dX10_readsNumber_35 : decode cX10_readsNumber 35 = .ok (.aload_n 0, 1) := by decide +kernel
theorem dX10_readsNumber_36 : decode cX10_readsNumber 36 = .ok (.getfield 91, 3) := by decide +kernel
theorem dX10_readsNumber_39 : decode cX10_readsNumber 39 = .ok (.invokevirtual 94, 3) := by decide +kernel
theorem dX10_readsNumber_42 : decode cX10_readsNumber 42 = .ok (.bipush 48, 2) := by decide +kernel
theorem dX10_readsNumber_44 : decode cX10_readsNumber 44 = .ok (.bipush 57, 2) := by decide +kernel
theorem dX10_readsNumber_46 : decode cX10_readsNumber 46 = .ok (.invokestatic 82, 3) := by decide +kernel
theorem dX10_readsNumber_49 : decode cX10_readsNumber 49 = .ok (.ifCond .eq 44, 3) := by decide +kernel
theorem dX10_readsNumber_52 : decode cX10_readsNumber 52 = .ok (.iload_n 3, 1) := by decide +kernel
theorem dX10_readsNumber_53 : decode cX10_readsNumber 53 = .ok (.sipush 999, 3) := by decide +kernel
theorem dX10_readsNumber_56 : decode cX10_readsNumber 56 = .ok (.if_icmp .le 7, 3) := by decide +kernel
theorem dX10_readsNumber_59 : decode cX10_readsNumber 59 = .ok (.iload_n 3, 1) := by decide +kernel
theorem dX10_readsNumber_60 : decode cX10_readsNumber 60 = .ok (.goto 19, 3) := by decide +kernel
theorem dX10_readsNumber_63 : decode cX10_readsNumber 63 = .ok (.bipush 10, 2) := by decide +kernel
theorem dX10_readsNumber_65 : decode cX10_readsNumber 65 = .ok (.iload_n 3, 1) := by decide +kernel
theorem dX10_readsNumber_66 : decode cX10_readsNumber 66 = .ok (.imul, 1) := by decide +kernel
theorem dX10_readsNumber_67 : decode cX10_readsNumber 67 = .ok (.aload_n 0, 1) := by decide +kernel
theorem dX10_readsNumber_68 : decode cX10_readsNumber 68 = .ok (.aload_n 0, 1) := by decide +kernel
theorem dX10_readsNumber_69 : decode cX10_readsNumber 69 = .ok (.getfield 91, 3) := by decide +kernel
theorem dX10_readsNumber_72 : decode cX10_readsNumber 72 = .ok (.invokevirtual 94, 3) := by decide +kernel
theorem dX10_readsNumber_75 : decode cX10_readsNumber 75 = .ok (.iadd, 1) := by decide +kernel
theorem dX10_readsNumber_76 : decode cX10_readsNumber 76 = .ok (.bipush 48, 2) := by decide +kernel
theorem dX10_readsNumber_78 : decode cX10_readsNumber 78 = .ok (.isub, 1) := by decide +kernel
theorem dX10_readsNumber_79 : decode cX10_readsNumber 79 = .ok (.istore_n 3, 1) := by decide +kernel
theorem dX10_readsNumber_80 : decode cX10_readsNumber 80 = .ok (.aload_n 0, 1) := by decide +kernel
theorem dX10_readsNumber_81 : decode cX10_readsNumber 81 = .ok (.dup, 1) := by decide +kernel
theorem dX10_readsNumber_82 : decode cX10_readsNumber 82 = .ok (.getfield 91, 3) := by decide +kernel
theorem dX10_readsNumber_85 : decode cX10_readsNumber 85 = .ok (.iconst 1, 1) := by decide +kernel
theorem dX10_readsNumber_86 : decode cX10_readsNumber 86 = .ok (.iadd, 1) := by decide +kernel
theorem dX10_readsNumber_87 : decode cX10_readsNumber 87 = .ok (.putfield 91, 3) := by decide +kernel
theorem dX10_readsNumber_90 : decode cX10_readsNumber 90 = .ok (.goto (-56), 3) := by decide +kernel
theorem dX10_readsNumber_93 : decode cX10_readsNumber 93 = .ok (.aload_n 0, 1) := by decide +kernel
theorem dX10_readsNumber_94 : decode cX10_readsNumber 94 = .ok (.getfield 91, 3) := by decide +kernel
theorem dX10_readsNumber_97 : decode cX10_readsNumber 97 = .ok (.aload_n 0, 1) := by decide +kernel
theorem dX10_readsNumber_98 : decode cX10_readsNumber 98 = .ok (.getfield 109, 3) := by decide +kernel
theorem dX10_readsNumber_101 : decode cX10_readsNumber 101 = .ok (.isub, 1) := by decide +kernel
theorem dX10_readsNumber_102 : decode cX10_readsNumber 102 = .ok (.iconst 3, 1) := by decide +kernel
theorem dX10_readsNumber_103 : decode cX10_readsNumber 103 = .ok (.if_icmp .gt 12, 3) := by decide +kernel
theorem dX10_readsNumber_106 : decode cX10_readsNumber 106 = .ok (.iload_n 3, 1) := by decide +kernel
theorem dX10_readsNumber_107 : decode cX10_readsNumber 107 = .ok (.iload_n 1, 1) := by decide +kernel
theorem dX10_readsNumber_108 : decode cX10_readsNumber 108 = .ok (.iload_n 2, 1) := by decide +kernel
theorem dX10_readsNumber_109 : decode cX10_readsNumber 109 = .ok (.invokestatic 82, 3) := by decide +kernel
theorem dX10_readsNumber_112 : decode cX10_readsNumber 112 = .ok (.ifCond .ne 15, 3) := by decide +kernel
theorem dX10_readsNumber_115 : decode cX10_readsNumber 115 = .ok (.aload_n 0, 1) := by decide +kernel
theorem dX10_readsNumber_116 : decode cX10_readsNumber 116 = .ok (.iconst 2, 1) := by decide +kernel
theorem dX10_readsNumber_117 : decode cX10_readsNumber 117 = .ok (.aload_n 0, 1) := by decide +kernel
theorem dX10_readsNumber_118 : decode cX10_readsNumber 118 = .ok (.getfield 109, 3) := by decide +kernel
theorem dX10_readsNumber_121 : decode cX10_readsNumber 121 = .ok (.invokevirtual 105, 3) := by decide +kernel
theorem dX10_readsNumber_124 : decode cX10_readsNumber 124 = .ok (.goto 4, 3) := by decide +kernel
theorem dX10_readsNumber_127 : decode cX10_readsNumber 127 = .ok (.iload_n 3, 1) := by decide +kernel
theorem dX10_readsNumber_128 : decode cX10_readsNumber 128 = .ok (.ireturn, 1) := by decide +kernel
theorem dX10_readsSign_0 : decode cX10_readsSign 0 = .ok (.aload_n 0, 1) := by decide +kernel
theorem dX10_readsSign_1 : decode cX10_readsSign 1 = .ok (.invokevirtual 101, 3) := by decide +kernel
theorem dX10_readsSign_4 : decode cX10_readsSign 4 = .ok (.iload_n 1, 1) := by decide +kernel
theorem dX10_readsSign_5 : decode cX10_readsSign 5 = .ok (.if_icmp .eq 15, 3) := by decide +kernel
theorem dX10_readsSign_8 : decode cX10_readsSign 8 = .ok (.aload_n 0, 1) := by decide +kernel
theorem dX10_readsSign_9 : decode cX10_readsSign 9 = .ok (.iconst 1, 1) := by decide +kernel
theorem dX10_readsSign_10 : decode cX10_readsSign 10 = .ok (.aload_n 0, 1) := by decide +kernel
theorem dX10_readsSign_11 : decode cX10_readsSign 11 = .ok (.getfield 91, 3) := by decide +kernel
theorem dX10_readsSign_14 : decode cX10_readsSign 14 = .ok (.invokevirtual 105, 3) := by decide +kernel
theorem dX10_readsSign_17 : decode cX10_readsSign 17 = .ok (.pop, 1) := by decide +kernel
theorem dX10_readsSign_18 : decode cX10_readsSign 18 = .ok (.iconst 0, 1) := by decide +kernel
theorem dX10_readsSign_19 : decode cX10_readsSign 19 = .ok (.ireturn, 1) := by decide +kernel
theorem dX10_readsSign_20 : decode cX10_readsSign 20 = .ok (.aload_n 0, 1) := by decide +kernel
theorem dX10_readsSign_21 : decode cX10_readsSign 21 = .ok (.dup, 1) := by decide +kernel
theorem dX10_readsSign_22 : decode cX10_readsSign 22 = .ok (.getfield 91, 3) := by decide +kernel
theorem dX10_readsSign_25 : decode cX10_readsSign 25 = .ok (.iconst 1, 1) := by decide +kernel
theorem dX10_readsSign_26 : decode cX10_readsSign 26 = .ok (.iadd, 1) := by decide +kernel
theorem dX10_readsSign_27 : decode cX10_readsSign 27 = .ok (.putfield 91, 3) := by decide +kernel
theorem dX10_readsSign_30 : decode cX10_readsSign 30 = .ok (.iconst 1, 1) := by decide +kernel
theorem dX10_readsSign_31 : decode cX10_readsSign 31 = .ok (.ireturn, 1) := by decide +kernel
theorem dX10_readsHead_0 : decode cX10_readsHead 0 = .ok (.aload_n 0, 1) := by decide +kernel
theorem dX10_readsHead_1 : decode cX10_readsHead 1 = .ok (.iconst 1, 1) := by decide +kernel
theorem dX10_readsHead_2 : decode cX10_readsHead 2 = .ok (.bipush 60, 2) := by decide +kernel
theorem dX10_readsHead_4 : decode cX10_readsHead 4 = .ok (.invokevirtual 112, 3) := by decide +kernel
theorem dX10_readsHead_7 : decode cX10_readsHead 7 = .ok (.istore_n 1, 1) := by decide +kernel
theorem dX10_readsHead_8 : decode cX10_readsHead 8 = .ok (.iload_n 1, 1) := by decide +kernel
theorem dX10_readsHead_9 : decode cX10_readsHead 9 = .ok (.iconst (-1), 1) := by decide +kernel
theorem dX10_readsHead_10 : decode cX10_readsHead 10 = .ok (.if_icmp .ne 7, 3) := by decide +kernel
theorem dX10_readsHead_13 : decode cX10_readsHead 13 = .ok (.iconst (-1), 1) := by decide +kernel
theorem dX10_readsHead_14 : decode cX10_readsHead 14 = .ok (.goto 10, 3) := by decide +kernel
theorem dX10_readsHead_17 : decode cX10_readsHead 17 = .ok (.aload_n 0, 1) := by decide +kernel
theorem dX10_readsHead_18 : decode cX10_readsHead 18 = .ok (.iconst 1, 1) := by decide +kernel
theorem dX10_readsHead_19 : decode cX10_readsHead 19 = .ok (.bipush 9, 2) := by decide +kernel
theorem dX10_readsHead_21 : decode cX10_readsHead 21 = .ok (.invokevirtual 112, 3) := by decide +kernel
theorem dX10_readsHead_24 : decode cX10_readsHead 24 = .ok (.istore_n 2, 1) := by decide +kernel
theorem dX10_readsHead_25 : decode cX10_readsHead 25 = .ok (.aload_n 0, 1) := by decide +kernel
theorem dX10_readsHead_26 : decode cX10_readsHead 26 = .ok (.iload_n 1, 1) := by decide +kernel
theorem dX10_readsHead_27 : decode cX10_readsHead 27 = .ok (.putfield 115, 3) := by decide +kernel
theorem dX10_readsHead_30 : decode cX10_readsHead 30 = .ok (.aload_n 0, 1) := by decide +kernel
theorem dX10_readsHead_31 : decode cX10_readsHead 31 = .ok (.iload_n 2, 1) := by decide +kernel
theorem dX10_readsHead_32 : decode cX10_readsHead 32 = .ok (.putfield 118, 3) := by decide +kernel
theorem dX10_readsHead_35 : decode cX10_readsHead 35 = .ok (.iload_n 2, 1) := by decide +kernel
theorem dX10_readsHead_36 : decode cX10_readsHead 36 = .ok (.iconst (-1), 1) := by decide +kernel
theorem dX10_readsHead_37 : decode cX10_readsHead 37 = .ok (.if_icmp .eq 16, 3) := by decide +kernel
theorem dX10_readsHead_40 : decode cX10_readsHead 40 = .ok (.aload_n 0, 1) := by decide +kernel
theorem dX10_readsHead_41 : decode cX10_readsHead 41 = .ok (.bipush 59, 2) := by decide +kernel
theorem dX10_readsHead_43 : decode cX10_readsHead 43 = .ok (.invokevirtual 121, 3) := by decide +kernel
theorem dX10_readsHead_46 : decode cX10_readsHead 46 = .ok (.ifCond .eq 7, 3) := by decide +kernel
theorem dX10_readsHead_49 : decode cX10_readsHead 49 = .ok (.iconst 1, 1) := by decide +kernel
theorem dX10_readsHead_50 : decode cX10_readsHead 50 = .ok (.goto 4, 3) := by decide +kernel
theorem dX10_readsHead_53 : decode cX10_readsHead 53 = .ok (.iconst 0, 1) := by decide +kernel
theorem dX10_readsHead_54 : decode cX10_readsHead 54 = .ok (.ireturn, 1) := by decide +kernel
theorem dX10_readsMatter_0 : decode cX10_readsMatter 0 = .ok (.aload_n 0, 1) := by decide +kernel
theorem dX10_readsMatter_1 : decode cX10_readsMatter 1 = .ok (.getfield 125, 3) := by decide +kernel
theorem dX10_readsMatter_4 : decode cX10_readsMatter 4 = .ok (.istore_n 1, 1) := by decide +kernel
theorem dX10_readsMatter_5 : decode cX10_readsMatter 5 = .ok (.aload_n 0, 1) := by decide +kernel
theorem dX10_readsMatter_6 : decode cX10_readsMatter 6 = .ok (.getfield 17, 3) := by decide +kernel
theorem dX10_readsMatter_9 : decode cX10_readsMatter 9 = .ok (.iload_n 1, 1) := by decide +kernel
theorem dX10_readsMatter_10 : decode cX10_readsMatter 10 = .ok (.aload_n 0, 1) := by decide +kernel
theorem dX10_readsMatter_11 : decode cX10_readsMatter 11 = .ok (.iconst 1, 1) := by decide +kernel
theorem dX10_readsMatter_12 : decode cX10_readsMatter 12 = .ok (.bipush 60, 2) := by decide +kernel
theorem dX10_readsMatter_14 : decode cX10_readsMatter 14 = .ok (.invokevirtual 112, 3) := by decide +kernel
theorem dX10_readsMatter_17 : decode cX10_readsMatter 17 = .ok (.iastore, 1) := by decide +kernel
theorem dX10_readsMatter_18 : decode cX10_readsMatter 18 = .ok (.aload_n 0, 1) := by decide +kernel
theorem dX10_readsMatter_19 : decode cX10_readsMatter 19 = .ok (.getfield 20, 3) := by decide +kernel
theorem dX10_readsMatter_22 : decode cX10_readsMatter 22 = .ok (.iload_n 1, 1) := by decide +kernel
theorem dX10_readsMatter_23 : decode cX10_readsMatter 23 = .ok (.aload_n 0, 1) := by decide +kernel
theorem dX10_readsMatter_24 : decode cX10_readsMatter 24 = .ok (.getfield 17, 3) := by decide +kernel
theorem dX10_readsMatter_27 : decode cX10_readsMatter 27 = .ok (.iload_n 1, 1) := by decide +kernel
theorem dX10_readsMatter_28 : decode cX10_readsMatter 28 = .ok (.iaload, 1) := by decide +kernel
theorem dX10_readsMatter_29 : decode cX10_readsMatter 29 = .ok (.iconst (-1), 1) := by decide +kernel
theorem dX10_readsMatter_30 : decode cX10_readsMatter 30 = .ok (.if_icmp .ne 7, 3) := by decide +kernel
theorem dX10_readsMatter_33 : decode cX10_readsMatter 33 = .ok (.iconst (-1), 1) := by decide +kernel
theorem dX10_readsMatter_34 : decode cX10_readsMatter 34 = .ok (.goto 11, 3) := by decide +kernel
theorem dX10_readsMatter_37 : decode cX10_readsMatter 37 = .ok (.aload_n 0, 1) := by decide +kernel
theorem dX10_readsMatter_38 : decode cX10_readsMatter 38 = .ok (.iconst 0, 1) := by decide +kernel
theorem dX10_readsMatter_39 : decode cX10_readsMatter 39 = .ok (.sipush 255, 3) := by decide +kernel
theorem dX10_readsMatter_42 : decode cX10_readsMatter 42 = .ok (.invokevirtual 112, 3) := by decide +kernel
theorem dX10_readsMatter_45 : decode cX10_readsMatter 45 = .ok (.iastore, 1) := by decide +kernel
theorem dX10_readsMatter_46 : decode cX10_readsMatter 46 = .ok (.aload_n 0, 1) := by decide +kernel
theorem dX10_readsMatter_47 : decode cX10_readsMatter 47 = .ok (.dup, 1) := by decide +kernel
theorem dX10_readsMatter_48 : decode cX10_readsMatter 48 = .ok (.getfield 125, 3) := by decide +kernel
theorem dX10_readsMatter_51 : decode cX10_readsMatter 51 = .ok (.iconst 1, 1) := by decide +kernel
theorem dX10_readsMatter_52 : decode cX10_readsMatter 52 = .ok (.iadd, 1) := by decide +kernel
theorem dX10_readsMatter_53 : decode cX10_readsMatter 53 = .ok (.putfield 125, 3) := by decide +kernel
theorem dX10_readsMatter_56 : decode cX10_readsMatter 56 = .ok (.aload_n 0, 1) := by decide +kernel
theorem dX10_readsMatter_57 : decode cX10_readsMatter 57 = .ok (.getfield 20, 3) := by decide +kernel
theorem dX10_readsMatter_60 : decode cX10_readsMatter 60 = .ok (.iload_n 1, 1) := by decide +kernel
theorem dX10_readsMatter_61 : decode cX10_readsMatter 61 = .ok (.iaload, 1) := by decide +kernel
theorem dX10_readsMatter_62 : decode cX10_readsMatter 62 = .ok (.iconst (-1), 1) := by decide +kernel
theorem dX10_readsMatter_63 : decode cX10_readsMatter 63 = .ok (.if_icmp .eq 16, 3) := by decide +kernel
theorem dX10_readsMatter_66 : decode cX10_readsMatter 66 = .ok (.aload_n 0, 1) := by decide +kernel
theorem dX10_readsMatter_67 : decode cX10_readsMatter 67 = .ok (.bipush 59, 2) := by decide +kernel
theorem dX10_readsMatter_69 : decode cX10_readsMatter 69 = .ok (.invokevirtual 121, 3) := by decide +kernel
theorem dX10_readsMatter_72 : decode cX10_readsMatter 72 = .ok (.ifCond .eq 7, 3) := by decide +kernel
theorem dX10_readsMatter_75 : decode cX10_readsMatter 75 = .ok (.iconst 1, 1) := by decide +kernel
theorem dX10_readsMatter_76 : decode cX10_readsMatter 76 = .ok (.goto 4, 3) := by decide +kernel
theorem dX10_readsMatter_79 : decode cX10_readsMatter 79 = .ok (.iconst 0, 1) := by decide +kernel
theorem dX10_readsMatter_80 : decode cX10_readsMatter 80 = .ok (.ireturn, 1) := by decide +kernel
theorem dX10_readsTraveller_0 : decode cX10_readsTraveller 0 = .ok (.aload_n 0, 1) := by decide +kernel
theorem dX10_readsTraveller_1 : decode cX10_readsTraveller 1 = .ok (.getfield 128, 3) := by decide +kernel
theorem dX10_readsTraveller_4 : decode cX10_readsTraveller 4 = .ok (.istore_n 1, 1) := by decide +kernel
theorem dX10_readsTraveller_5 : decode cX10_readsTraveller 5 = .ok (.aload_n 0, 1) := by decide +kernel
theorem dX10_readsTraveller_6 : decode cX10_readsTraveller 6 = .ok (.getfield 23, 3) := by decide +kernel
theorem dX10_readsTraveller_9 : decode cX10_readsTraveller 9 = .ok (.iload_n 1, 1) := by decide +kernel
theorem dX10_readsTraveller_10 : decode cX10_readsTraveller 10 = .ok (.aload_n 0, 1) := by decide +kernel
theorem dX10_readsTraveller_11 : decode cX10_readsTraveller 11 = .ok (.iconst 0, 1) := by decide +kernel
theorem dX10_readsTraveller_12 : decode cX10_readsTraveller 12 = .ok (.iconst 4, 1) := by decide +kernel
theorem dX10_readsTraveller_13 : decode cX10_readsTraveller 13 = .ok (.invokevirtual 112, 3) := by decide +kernel
theorem dX10_readsTraveller_16 : decode cX10_readsTraveller 16 = .ok (.iastore, 1) := by decide +kernel
theorem dX10_readsTraveller_17 : decode cX10_readsTraveller 17 = .ok (.aload_n 0, 1) := by decide +kernel
theorem dX10_readsTraveller_18 : decode cX10_readsTraveller 18 = .ok (.getfield 26, 3) := by decide +kernel
theorem dX10_readsTraveller_21 : decode cX10_readsTraveller 21 = .ok (.iload_n 1, 1) := by decide +kernel
theorem dX10_readsTraveller_22 : decode cX10_readsTraveller 22 = .ok (.aload_n 0, 1) := by decide +kernel
theorem dX10_readsTraveller_23 : decode cX10_readsTraveller 23 = .ok (.getfield 23, 3) := by decide +kernel
theorem dX10_readsTraveller_26 : decode cX10_readsTraveller 26 = .ok (.iload_n 1, 1) := by decide +kernel
theorem dX10_readsTraveller_27 : decode cX10_readsTraveller 27 = .ok (.iaload, 1) := by decide +kernel
theorem dX10_readsTraveller_28 : decode cX10_readsTraveller 28 = .ok (.iconst (-1), 1) := by decide +kernel
theorem dX10_readsTraveller_29 : decode cX10_readsTraveller 29 = .ok (.if_icmp .ne 7, 3) := by decide +kernel
theorem dX10_readsTraveller_32 : decode cX10_readsTraveller 32 = .ok (.iconst (-1), 1) := by decide +kernel
theorem dX10_readsTraveller_33 : decode cX10_readsTraveller 33 = .ok (.goto 10, 3) := by decide +kernel
theorem dX10_readsTraveller_36 : decode cX10_readsTraveller 36 = .ok (.aload_n 0, 1) := by decide +kernel
theorem dX10_readsTraveller_37 : decode cX10_readsTraveller 37 = .ok (.iconst 0, 1) := by decide +kernel
theorem dX10_readsTraveller_38 : decode cX10_readsTraveller 38 = .ok (.bipush 9, 2) := by decide +kernel
theorem dX10_readsTraveller_40 : decode cX10_readsTraveller 40 = .ok (.invokevirtual 112, 3) := by decide +kernel
theorem dX10_readsTraveller_43 : decode cX10_readsTraveller 43 = .ok (.iastore, 1) := by decide +kernel
theorem dX10_readsTraveller_44 : decode cX10_readsTraveller 44 = .ok (.aload_n 0, 1) := by decide +kernel
theorem dX10_readsTraveller_45 : decode cX10_readsTraveller 45 = .ok (.getfield 29, 3) := by decide +kernel
theorem dX10_readsTraveller_48 : decode cX10_readsTraveller 48 = .ok (.iload_n 1, 1) := by decide +kernel
theorem dX10_readsTraveller_49 : decode cX10_readsTraveller 49 = .ok (.aload_n 0, 1) := by decide +kernel
theorem dX10_readsTraveller_50 : decode cX10_readsTraveller 50 = .ok (.getfield 26, 3) := by decide +kernel
theorem dX10_readsTraveller_53 : decode cX10_readsTraveller 53 = .ok (.iload_n 1, 1) := by decide +kernel
theorem dX10_readsTraveller_54 : decode cX10_readsTraveller 54 = .ok (.iaload, 1) := by decide +kernel
theorem dX10_readsTraveller_55 : decode cX10_readsTraveller 55 = .ok (.iconst (-1), 1) := by decide +kernel
theorem dX10_readsTraveller_56 : decode cX10_readsTraveller 56 = .ok (.if_icmp .ne 7, 3) := by decide +kernel
theorem dX10_readsTraveller_59 : decode cX10_readsTraveller 59 = .ok (.iconst (-1), 1) := by decide +kernel
theorem dX10_readsTraveller_60 : decode cX10_readsTraveller 60 = .ok (.goto 11, 3) := by decide +kernel
theorem dX10_readsTraveller_63 : decode cX10_readsTraveller 63 = .ok (.aload_n 0, 1) := by decide +kernel
theorem dX10_readsTraveller_64 : decode cX10_readsTraveller 64 = .ok (.iconst 0, 1) := by decide +kernel
theorem dX10_readsTraveller_65 : decode cX10_readsTraveller 65 = .ok (.sipush 255, 3) := by decide +kernel
theorem dX10_readsTraveller_68 : decode cX10_readsTraveller 68 = .ok (.invokevirtual 112, 3) := by decide +kernel
theorem dX10_readsTraveller_71 : decode cX10_readsTraveller 71 = .ok (.iastore, 1) := by decide +kernel
theorem dX10_readsTraveller_72 : decode cX10_readsTraveller 72 = .ok (.aload_n 0, 1) := by decide +kernel
theorem dX10_readsTraveller_73 : decode cX10_readsTraveller 73 = .ok (.dup, 1) := by decide +kernel
theorem dX10_readsTraveller_74 : decode cX10_readsTraveller 74 = .ok (.getfield 128, 3) := by decide +kernel
theorem dX10_readsTraveller_77 : decode cX10_readsTraveller 77 = .ok (.iconst 1, 1) := by decide +kernel
theorem dX10_readsTraveller_78 : decode cX10_readsTraveller 78 = .ok (.iadd, 1) := by decide +kernel
theorem dX10_readsTraveller_79 : decode cX10_readsTraveller 79 = .ok (.putfield 128, 3) := by decide +kernel
theorem dX10_readsTraveller_82 : decode cX10_readsTraveller 82 = .ok (.aload_n 0, 1) := by decide +kernel
theorem dX10_readsTraveller_83 : decode cX10_readsTraveller 83 = .ok (.getfield 29, 3) := by decide +kernel
theorem dX10_readsTraveller_86 : decode cX10_readsTraveller 86 = .ok (.iload_n 1, 1) := by decide +kernel
theorem dX10_readsTraveller_87 : decode cX10_readsTraveller 87 = .ok (.iaload, 1) := by decide +kernel
theorem dX10_readsTraveller_88 : decode cX10_readsTraveller 88 = .ok (.iconst (-1), 1) := by decide +kernel
theorem dX10_readsTraveller_89 : decode cX10_readsTraveller 89 = .ok (.if_icmp .eq 16, 3) := by decide +kernel
theorem dX10_readsTraveller_92 : decode cX10_readsTraveller 92 = .ok (.aload_n 0, 1) := by decide +kernel
theorem dX10_readsTraveller_93 : decode cX10_readsTraveller 93 = .ok (.bipush 59, 2) := by decide +kernel
theorem dX10_readsTraveller_95 : decode cX10_readsTraveller 95 = .ok (.invokevirtual 121, 3) := by decide +kernel
theorem dX10_readsTraveller_98 : decode cX10_readsTraveller 98 = .ok (.ifCond .eq 7, 3) := by decide +kernel
theorem dX10_readsTraveller_101 : decode cX10_readsTraveller 101 = .ok (.iconst 1, 1) := by decide +kernel
theorem dX10_readsTraveller_102 : decode cX10_readsTraveller 102 = .ok (.goto 4, 3) := by decide +kernel
theorem dX10_readsTraveller_105 : decode cX10_readsTraveller 105 = .ok (.iconst 0, 1) := by decide +kernel
theorem dX10_readsTraveller_106 : decode cX10_readsTraveller 106 = .ok (.ireturn, 1) := by decide +kernel
theorem dX10_readsClause_0 : decode cX10_readsClause 0 = .ok (.aload_n 0, 1) := by decide +kernel
theorem dX10_readsClause_1 : decode cX10_readsClause 1 = .ok (.invokevirtual 101, 3) := by decide +kernel
theorem dX10_readsClause_4 : decode cX10_readsClause 4 = .ok (.istore_n 1, 1) := by decide +kernel
theorem dX10_readsClause_5 : decode cX10_readsClause 5 = .ok (.aload_n 0, 1) := by decide +kernel
theorem dX10_readsClause_6 : decode cX10_readsClause 6 = .ok (.getfield 91, 3) := by decide +kernel
theorem dX10_readsClause_9 : decode cX10_readsClause 9 = .ok (.istore_n 2, 1) := by decide +kernel
theorem dX10_readsClause_10 : decode cX10_readsClause 10 = .ok (.aload_n 0, 1) := by decide +kernel
theorem dX10_readsClause_11 : decode cX10_readsClause 11 = .ok (.dup, 1) := by decide +kernel
theorem dX10_readsClause_12 : decode cX10_readsClause 12 = .ok (.getfield 91, 3) := by decide +kernel
theorem dX10_readsClause_15 : decode cX10_readsClause 15 = .ok (.iconst 1, 1) := by decide +kernel
theorem dX10_readsClause_16 : decode cX10_readsClause 16 = .ok (.iadd, 1) := by decide +kernel
theorem dX10_readsClause_17 : decode cX10_readsClause 17 = .ok (.putfield 91, 3) := by decide +kernel
theorem dX10_readsClause_20 : decode cX10_readsClause 20 = .ok (.iload_n 1, 1) := by decide +kernel
theorem dX10_readsClause_21 : decode cX10_readsClause 21 = .ok (.bipush 107, 2) := by decide +kernel
theorem dX10_readsClause_23 : decode cX10_readsClause 23 = .ok (.if_icmp .ne 15, 3) := by decide +kernel
theorem dX10_readsClause_26 : decode cX10_readsClause 26 = .ok (.aload_n 0, 1) := by decide +kernel
theorem dX10_readsClause_27 : decode cX10_readsClause 27 = .ok (.getfield 118, 3) := by decide +kernel
theorem dX10_readsClause_30 : decode cX10_readsClause 30 = .ok (.ifCond .ne 8, 3) := by decide +kernel
theorem dX10_readsClause_33 : decode cX10_readsClause 33 = .ok (.aload_n 0, 1) := by decide +kernel
theorem dX10_readsClause_34 : decode cX10_readsClause 34 = .ok (.invokevirtual 131, 3) := by decide +kernel
theorem dX10_readsClause_37 : decode cX10_readsClause 37 = .ok (.ireturn, 1) := by decide +kernel
theorem dX10_readsClause_38 : decode cX10_readsClause 38 = .ok (.iload_n 1, 1) := by decide +kernel
theorem dX10_readsClause_39 : decode cX10_readsClause 39 = .ok (.bipush 107, 2) := by decide +kernel
theorem dX10_readsClause_41 : decode cX10_readsClause 41 = .ok (.if_icmp .eq 15, 3) := by decide +kernel
theorem dX10_readsClause_44 : decode cX10_readsClause 44 = .ok (.iload_n 1, 1) := by decide +kernel
theorem dX10_readsClause_45 : decode cX10_readsClause 45 = .ok (.bipush 109, 2) := by decide +kernel
theorem dX10_readsClause_47 : decode cX10_readsClause 47 = .ok (.if_icmp .eq 9, 3) := by decide +kernel
theorem dX10_readsClause_50 : decode cX10_readsClause 50 = .ok (.iload_n 1, 1) := by decide +kernel
theorem dX10_readsClause_51 : decode cX10_readsClause 51 = .ok (.bipush 116, 2) := by decide +kernel
theorem dX10_readsClause_53 : decode cX10_readsClause 53 = .ok (.if_icmp .ne 7, 3) := by decide +kernel
theorem dX10_readsClause_56 : decode cX10_readsClause 56 = .ok (.iconst 1, 1) := by decide +kernel
theorem dX10_readsClause_57 : decode cX10_readsClause 57 = .ok (.goto 4, 3) := by decide +kernel
theorem dX10_readsClause_60 : decode cX10_readsClause 60 = .ok (.iconst 0, 1) := by decide +kernel
theorem dX10_readsClause_61 : decode cX10_readsClause 61 = .ok (.istore_n 3, 1) := by decide +kernel
theorem dX10_readsClause_62 : decode cX10_readsClause 62 = .ok (.iload_n 3, 1) := by decide +kernel
theorem dX10_readsClause_63 : decode cX10_readsClause 63 = .ok (.ifCond .eq 10, 3) := by decide +kernel
theorem dX10_readsClause_66 : decode cX10_readsClause 66 = .ok (.aload_n 0, 1) := by decide +kernel
theorem dX10_readsClause_67 : decode cX10_readsClause 67 = .ok (.getfield 118, 3) := by decide +kernel
theorem dX10_readsClause_70 : decode cX10_readsClause 70 = .ok (.ifCond .ne 12, 3) := by decide +kernel
theorem dX10_readsClause_73 : decode cX10_readsClause 73 = .ok (.aload_n 0, 1) := by decide +kernel
theorem dX10_readsClause_74 : decode cX10_readsClause 74 = .ok (.iconst 1, 1) := by decide +kernel
theorem dX10_readsClause_75 : decode cX10_readsClause 75 = .ok (.iload_n 2, 1) := by decide +kernel
theorem dX10_readsClause_76 : decode cX10_readsClause 76 = .ok (.invokevirtual 105, 3) := by decide +kernel
theorem dX10_readsClause_79 : decode cX10_readsClause 79 = .ok (.pop, 1) := by decide +kernel
theorem dX10_readsClause_80 : decode cX10_readsClause 80 = .ok (.iconst 0, 1) := by decide +kernel
theorem dX10_readsClause_81 : decode cX10_readsClause 81 = .ok (.ireturn, 1) := by decide +kernel
theorem dX10_readsClause_82 : decode cX10_readsClause 82 = .ok (.iload_n 1, 1) := by decide +kernel
theorem dX10_readsClause_83 : decode cX10_readsClause 83 = .ok (.bipush 107, 2) := by decide +kernel
theorem dX10_readsClause_85 : decode cX10_readsClause 85 = .ok (.if_icmp .eq 33, 3) := by decide +kernel
theorem dX10_readsClause_88 : decode cX10_readsClause 88 = .ok (.iload_n 1, 1) := by decide +kernel
theorem dX10_readsClause_89 : decode cX10_readsClause 89 = .ok (.bipush 109, 2) := by decide +kernel
theorem dX10_readsClause_91 : decode cX10_readsClause 91 = .ok (.if_icmp .ne 12, 3) := by decide +kernel
theorem dX10_readsClause_94 : decode cX10_readsClause 94 = .ok (.aload_n 0, 1) := by decide +kernel
theorem dX10_readsClause_95 : decode cX10_readsClause 95 = .ok (.getfield 125, 3) := by decide +kernel
theorem dX10_readsClause_98 : decode cX10_readsClause 98 = .ok (.bipush 8, 2) := by decide +kernel
theorem dX10_readsClause_100 : decode cX10_readsClause 100 = .ok (.if_icmp .eq 18, 3) := by decide +kernel
theorem dX10_readsClause_103 : decode cX10_readsClause 103 = .ok (.iload_n 1, 1) := by decide +kernel
theorem dX10_readsClause_104 : decode cX10_readsClause 104 = .ok (.bipush 116, 2) := by decide +kernel
theorem dX10_readsClause_106 : decode cX10_readsClause 106 = .ok (.if_icmp .ne 21, 3) := by decide +kernel
theorem dX10_readsClause_109 : decode cX10_readsClause 109 = .ok (.aload_n 0, 1) := by decide +kernel
theorem dX10_readsClause_110 : decode cX10_readsClause 110 = .ok (.getfield 128, 3) := by decide +kernel
theorem dX10_readsClause_113 : decode cX10_readsClause 113 = .ok (.bipush 6, 2) := by decide +kernel
theorem dX10_readsClause_115 : decode cX10_readsClause 115 = .ok (.if_icmp .ne 12, 3) := by decide +kernel
theorem dX10_readsClause_118 : decode cX10_readsClause 118 = .ok (.aload_n 0, 1) := by decide +kernel
theorem dX10_readsClause_119 : decode cX10_readsClause 119 = .ok (.iconst 3, 1) := by decide +kernel
theorem dX10_readsClause_120 : decode cX10_readsClause 120 = .ok (.iload_n 2, 1) := by decide +kernel
theorem dX10_readsClause_121 : decode cX10_readsClause 121 = .ok (.invokevirtual 105, 3) := by decide +kernel
theorem dX10_readsClause_124 : decode cX10_readsClause 124 = .ok (.pop, 1) := by decide +kernel
theorem dX10_readsClause_125 : decode cX10_readsClause 125 = .ok (.iconst 0, 1) := by decide +kernel
theorem dX10_readsClause_126 : decode cX10_readsClause 126 = .ok (.ireturn, 1) := by decide +kernel
theorem dX10_readsClause_127 : decode cX10_readsClause 127 = .ok (.iload_n 1, 1) := by decide +kernel
theorem dX10_readsClause_128 : decode cX10_readsClause 128 = .ok (.bipush 109, 2) := by decide +kernel
theorem dX10_readsClause_130 : decode cX10_readsClause 130 = .ok (.if_icmp .ne 10, 3) := by decide +kernel
theorem dX10_readsClause_133 : decode cX10_readsClause 133 = .ok (.aload_n 0, 1) := by decide +kernel
theorem dX10_readsClause_134 : decode cX10_readsClause 134 = .ok (.invokevirtual 135, 3) := by decide +kernel
theorem dX10_readsClause_137 : decode cX10_readsClause 137 = .ok (.goto 7, 3) := by decide +kernel
theorem dX10_readsClause_140 : decode cX10_readsClause 140 = .ok (.aload_n 0, 1) := by decide +kernel
theorem dX10_readsClause_141 : decode cX10_readsClause 141 = .ok (.invokevirtual 138, 3) := by decide +kernel
theorem dX10_readsClause_144 : decode cX10_readsClause 144 = .ok (.ireturn, 1) := by decide +kernel
theorem dX10_readsBridge_0 : decode cX10_readsBridge 0 = .ok (.aload_n 0, 1) := by decide +kernel
theorem dX10_readsBridge_1 : decode cX10_readsBridge 1 = .ok (.iconst 0, 1) := by decide +kernel
theorem dX10_readsBridge_2 : decode cX10_readsBridge 2 = .ok (.putfield 91, 3) := by decide +kernel
theorem dX10_readsBridge_5 : decode cX10_readsBridge 5 = .ok (.aload_n 0, 1) := by decide +kernel
theorem dX10_readsBridge_6 : decode cX10_readsBridge 6 = .ok (.iconst 0, 1) := by decide +kernel
theorem dX10_readsBridge_7 : decode cX10_readsBridge 7 = .ok (.putfield 115, 3) := by decide +kernel
theorem dX10_readsBridge_10 : decode cX10_readsBridge 10 = .ok (.aload_n 0, 1) := by decide +kernel
theorem dX10_readsBridge_11 : decode cX10_readsBridge 11 = .ok (.iconst 0, 1) := by decide +kernel
theorem dX10_readsBridge_12 : decode cX10_readsBridge 12 = .ok (.putfield 118, 3) := by decide +kernel
theorem dX10_readsBridge_15 : decode cX10_readsBridge 15 = .ok (.aload_n 0, 1) := by decide +kernel
theorem dX10_readsBridge_16 : decode cX10_readsBridge 16 = .ok (.iconst 0, 1) := by decide +kernel
theorem dX10_readsBridge_17 : decode cX10_readsBridge 17 = .ok (.putfield 125, 3) := by decide +kernel
theorem dX10_readsBridge_20 : decode cX10_readsBridge 20 = .ok (.aload_n 0, 1) := by decide +kernel
theorem dX10_readsBridge_21 : decode cX10_readsBridge 21 = .ok (.iconst 0, 1) := by decide +kernel
theorem dX10_readsBridge_22 : decode cX10_readsBridge 22 = .ok (.putfield 128, 3) := by decide +kernel
theorem dX10_readsBridge_25 : decode cX10_readsBridge 25 = .ok (.iconst 1, 1) := by decide +kernel
theorem dX10_readsBridge_26 : decode cX10_readsBridge 26 = .ok (.istore_n 1, 1) := by decide +kernel
theorem dX10_readsBridge_27 : decode cX10_readsBridge 27 = .ok (.iload_n 1, 1) := by decide +kernel
theorem dX10_readsBridge_28 : decode cX10_readsBridge 28 = .ok (.ifCond .eq 19, 3) := by decide +kernel
theorem dX10_readsBridge_31 : decode cX10_readsBridge 31 = .ok (.aload_n 0, 1) := by decide +kernel
theorem dX10_readsBridge_32 : decode cX10_readsBridge 32 = .ok (.invokevirtual 101, 3) := by decide +kernel
theorem dX10_readsBridge_35 : decode cX10_readsBridge 35 = .ok (.iconst (-1), 1) := by decide +kernel
theorem dX10_readsBridge_36 : decode cX10_readsBridge 36 = .ok (.if_icmp .eq 11, 3) := by decide +kernel
theorem dX10_readsBridge_39 : decode cX10_readsBridge 39 = .ok (.aload_n 0, 1) := by decide +kernel
theorem dX10_readsBridge_40 : decode cX10_readsBridge 40 = .ok (.invokevirtual 141, 3) := by decide +kernel
theorem dX10_readsBridge_43 : decode cX10_readsBridge 43 = .ok (.istore_n 1, 1) := by decide +kernel
theorem dX10_readsBridge_44 : decode cX10_readsBridge 44 = .ok (.goto (-17), 3) := by decide +kernel
theorem dX10_readsBridge_47 : decode cX10_readsBridge 47 = .ok (.iload_n 1, 1) := by decide +kernel
theorem dX10_readsBridge_48 : decode cX10_readsBridge 48 = .ok (.ireturn, 1) := by decide +kernel
theorem dX10_bridge_0 : decode cX10_bridge 0 = .ok (.aload_n 0, 1) := by decide +kernel
theorem dX10_bridge_1 : decode cX10_bridge 1 = .ok (.invokevirtual 144, 3) := by decide +kernel
theorem dX10_bridge_4 : decode cX10_bridge 4 = .ok (.istore_n 1, 1) := by decide +kernel
theorem dX10_bridge_5 : decode cX10_bridge 5 = .ok (.aload_n 0, 1) := by decide +kernel
theorem dX10_bridge_6 : decode cX10_bridge 6 = .ok (.iconst 0, 1) := by decide +kernel
theorem dX10_bridge_7 : decode cX10_bridge 7 = .ok (.putfield 87, 3) := by decide +kernel
theorem dX10_bridge_10 : decode cX10_bridge 10 = .ok (.aload_n 0, 1) := by decide +kernel
theorem dX10_bridge_11 : decode cX10_bridge 11 = .ok (.iload_n 1, 1) := by decide +kernel
theorem dX10_bridge_12 : decode cX10_bridge 12 = .ok (.ifCond .eq 7, 3) := by decide +kernel
theorem dX10_bridge_15 : decode cX10_bridge 15 = .ok (.iconst (-1), 1) := by decide +kernel
theorem dX10_bridge_16 : decode cX10_bridge 16 = .ok (.goto 7, 3) := by decide +kernel
theorem dX10_bridge_19 : decode cX10_bridge 19 = .ok (.aload_n 0, 1) := by decide +kernel
theorem dX10_bridge_20 : decode cX10_bridge 20 = .ok (.getfield 91, 3) := by decide +kernel
theorem dX10_bridge_23 : decode cX10_bridge 23 = .ok (.putfield 13, 3) := by decide +kernel
theorem dX10_bridge_26 : decode cX10_bridge 26 = .ok (.iload_n 1, 1) := by decide +kernel
theorem dX10_bridge_27 : decode cX10_bridge 27 = .ok (.ifCond .ne 11, 3) := by decide +kernel
theorem dX10_bridge_30 : decode cX10_bridge 30 = .ok (.bipush (-10), 2) := by decide +kernel
theorem dX10_bridge_32 : decode cX10_bridge 32 = .ok (.aload_n 0, 1) := by decide +kernel
theorem dX10_bridge_33 : decode cX10_bridge 33 = .ok (.getfield 98, 3) := by decide +kernel
theorem dX10_bridge_36 : decode cX10_bridge 36 = .ok (.isub, 1) := by decide +kernel
theorem dX10_bridge_37 : decode cX10_bridge 37 = .ok (.ireturn, 1) := by decide +kernel
theorem dX10_bridge_38 : decode cX10_bridge 38 = .ok (.aload_n 0, 1) := by decide +kernel
theorem dX10_bridge_39 : decode cX10_bridge 39 = .ok (.aload_n 0, 1) := by decide +kernel
theorem dX10_bridge_40 : decode cX10_bridge 40 = .ok (.getfield 115, 3) := by decide +kernel
theorem dX10_bridge_43 : decode cX10_bridge 43 = .ok (.putfield 147, 3) := by decide +kernel
theorem dX10_bridge_46 : decode cX10_bridge 46 = .ok (.aload_n 0, 1) := by decide +kernel
theorem dX10_bridge_47 : decode cX10_bridge 47 = .ok (.aload_n 0, 1) := by decide +kernel
theorem dX10_bridge_48 : decode cX10_bridge 48 = .ok (.getfield 118, 3) := by decide +kernel
theorem dX10_bridge_51 : decode cX10_bridge 51 = .ok (.putfield 150, 3) := by decide +kernel
theorem dX10_bridge_54 : decode cX10_bridge 54 = .ok (.aload_n 0, 1) := by decide +kernel
theorem dX10_bridge_55 : decode cX10_bridge 55 = .ok (.aload_n 0, 1) := by decide +kernel
theorem dX10_bridge_56 : decode cX10_bridge 56 = .ok (.getfield 125, 3) := by decide +kernel
theorem dX10_bridge_59 : decode cX10_bridge 59 = .ok (.putfield 153, 3) := by decide +kernel
theorem dX10_bridge_62 : decode cX10_bridge 62 = .ok (.aload_n 0, 1) := by decide +kernel
theorem dX10_bridge_63 : decode cX10_bridge 63 = .ok (.aload_n 0, 1) := by decide +kernel
theorem dX10_bridge_64 : decode cX10_bridge 64 = .ok (.getfield 128, 3) := by decide +kernel
theorem dX10_bridge_67 : decode cX10_bridge 67 = .ok (.putfield 156, 3) := by decide +kernel
theorem dX10_bridge_70 : decode cX10_bridge 70 = .ok (.iconst 1, 1) := by decide +kernel
theorem dX10_bridge_71 : decode cX10_bridge 71 = .ok (.aload_n 0, 1) := by decide +kernel
theorem dX10_bridge_72 : decode cX10_bridge 72 = .ok (.getfield 153, 3) := by decide +kernel
theorem dX10_bridge_75 : decode cX10_bridge 75 = .ok (.ishl, 1) := by decide +kernel
theorem dX10_bridge_76 : decode cX10_bridge 76 = .ok (.iconst 1, 1) := by decide +kernel
theorem dX10_bridge_77 : decode cX10_bridge 77 = .ok (.isub, 1) := by decide +kernel
theorem dX10_bridge_78 : decode cX10_bridge 78 = .ok (.istore_n 2, 1) := by decide +kernel
theorem dX10_bridge_79 : decode cX10_bridge 79 = .ok (.iconst 0, 1) := by decide +kernel
theorem dX10_bridge_80 : decode cX10_bridge 80 = .ok (.istore_n 3, 1) := by decide +kernel
theorem dX10_bridge_81 : decode cX10_bridge 81 = .ok (.iload_n 3, 1) := by decide +kernel
theorem dX10_bridge_82 : decode cX10_bridge 82 = .ok (.aload_n 0, 1) := by decide +kernel
theorem dX10_bridge_83 : decode cX10_bridge 83 = .ok (.getfield 153, 3) := by decide +kernel
theorem dX10_bridge_86 : decode cX10_bridge 86 = .ok (.if_icmp .ge 35, 3) := by decide +kernel
theorem dX10_bridge_89 : decode cX10_bridge 89 = .ok (.aload_n 0, 1) := by decide +kernel
theorem dX10_bridge_90 : decode cX10_bridge 90 = .ok (.getfield 32, 3) := by decide +kernel
theorem dX10_bridge_93 : decode cX10_bridge 93 = .ok (.iload_n 3, 1) := by decide +kernel
theorem dX10_bridge_94 : decode cX10_bridge 94 = .ok (.aload_n 0, 1) := by decide +kernel
theorem dX10_bridge_95 : decode cX10_bridge 95 = .ok (.getfield 17, 3) := by decide +kernel
theorem dX10_bridge_98 : decode cX10_bridge 98 = .ok (.iload_n 3, 1) := by decide +kernel
theorem dX10_bridge_99 : decode cX10_bridge 99 = .ok (.iaload, 1) := by decide +kernel
theorem dX10_bridge_100 : decode cX10_bridge 100 = .ok (.iastore, 1) := by decide +kernel
theorem dX10_bridge_101 : decode cX10_bridge 101 = .ok (.aload_n 0, 1) := by decide +kernel
theorem dX10_bridge_102 : decode cX10_bridge 102 = .ok (.getfield 35, 3) := by decide +kernel
theorem dX10_bridge_105 : decode cX10_bridge 105 = .ok (.iload_n 3, 1) := by decide +kernel
theorem dX10_bridge_106 : decode cX10_bridge 106 = .ok (.aload_n 0, 1) := by decide +kernel
theorem dX10_bridge_107 : decode cX10_bridge 107 = .ok (.getfield 20, 3) := by decide +kernel
theorem dX10_bridge_110 : decode cX10_bridge 110 = .ok (.iload_n 3, 1) := by decide +kernel
theorem dX10_bridge_111 : decode cX10_bridge 111 = .ok (.iaload, 1) := by decide +kernel
theorem dX10_bridge_112 : decode cX10_bridge 112 = .ok (.iload_n 2, 1) := by decide +kernel
theorem dX10_bridge_113 : decode cX10_bridge 113 = .ok (.iand, 1) := by decide +kernel
theorem dX10_bridge_114 : decode cX10_bridge 114 = .ok (.iastore, 1) := by decide +kernel
theorem dX10_bridge_115 : decode cX10_bridge 115 = .ok (.iinc 3 1, 3) := by decide +kernel
theorem dX10_bridge_118 : decode cX10_bridge 118 = .ok (.goto (-37), 3) := by decide +kernel
theorem dX10_bridge_121 : decode cX10_bridge 121 = .ok (.iconst 0, 1) := by decide +kernel
theorem dX10_bridge_122 : decode cX10_bridge 122 = .ok (.istore_n 3, 1) := by decide +kernel
theorem dX10_bridge_123 : decode cX10_bridge 123 = .ok (.iload_n 3, 1) := by decide +kernel
theorem dX10_bridge_124 : decode cX10_bridge 124 = .ok (.aload_n 0, 1) := by decide +kernel
theorem dX10_bridge_125 : decode cX10_bridge 125 = .ok (.getfield 156, 3) := by decide +kernel
theorem dX10_bridge_128 : decode cX10_bridge 128 = .ok (.if_icmp .ge 47, 3) := by decide +kernel
theorem dX10_bridge_131 : decode cX10_bridge 131 = .ok (.aload_n 0, 1) := by decide +kernel
theorem dX10_bridge_132 : decode cX10_bridge 132 = .ok (.getfield 38, 3) := by decide +kernel
theorem dX10_bridge_135 : decode cX10_bridge 135 = .ok (.iload_n 3, 1) := by decide +kernel
theorem dX10_bridge_136 : decode cX10_bridge 136 = .ok (.aload_n 0, 1) := by decide +kernel
theorem dX10_bridge_137 : decode cX10_bridge 137 = .ok (.getfield 23, 3) := by decide +kernel
theorem dX10_bridge_140 : decode cX10_bridge 140 = .ok (.iload_n 3, 1) := by decide +kernel
theorem dX10_bridge_141 : decode cX10_bridge 141 = .ok (.iaload, 1) := by decide +kernel
theorem dX10_bridge_142 : decode cX10_bridge 142 = .ok (.iastore, 1) := by decide +kernel
theorem dX10_bridge_143 : decode cX10_bridge 143 = .ok (.aload_n 0, 1) := by decide +kernel
theorem dX10_bridge_144 : decode cX10_bridge 144 = .ok (.getfield 41, 3) := by decide +kernel
theorem dX10_bridge_147 : decode cX10_bridge 147 = .ok (.iload_n 3, 1) := by decide +kernel
theorem dX10_bridge_148 : decode cX10_bridge 148 = .ok (.aload_n 0, 1) := by decide +kernel
theorem dX10_bridge_149 : decode cX10_bridge 149 = .ok (.getfield 26, 3) := by decide +kernel
theorem dX10_bridge_152 : decode cX10_bridge 152 = .ok (.iload_n 3, 1) := by decide +kernel
theorem dX10_bridge_153 : decode cX10_bridge 153 = .ok (.iaload, 1) := by decide +kernel
theorem dX10_bridge_154 : decode cX10_bridge 154 = .ok (.iastore, 1) := by decide +kernel
theorem dX10_bridge_155 : decode cX10_bridge 155 = .ok (.aload_n 0, 1) := by decide +kernel
theorem dX10_bridge_156 : decode cX10_bridge 156 = .ok (.getfield 44, 3) := by decide +kernel
theorem dX10_bridge_159 : decode cX10_bridge 159 = .ok (.iload_n 3, 1) := by decide +kernel
theorem dX10_bridge_160 : decode cX10_bridge 160 = .ok (.aload_n 0, 1) := by decide +kernel
theorem dX10_bridge_161 : decode cX10_bridge 161 = .ok (.getfield 29, 3) := by decide +kernel
theorem dX10_bridge_164 : decode cX10_bridge 164 = .ok (.iload_n 3, 1) := by decide +kernel
theorem dX10_bridge_165 : decode cX10_bridge 165 = .ok (.iaload, 1) := by decide +kernel
theorem dX10_bridge_166 : decode cX10_bridge 166 = .ok (.iload_n 2, 1) := by decide +kernel
theorem dX10_bridge_167 : decode cX10_bridge 167 = .ok (.iand, 1) := by decide +kernel
theorem dX10_bridge_168 : decode cX10_bridge 168 = .ok (.iastore, 1) := by decide +kernel
theorem dX10_bridge_169 : decode cX10_bridge 169 = .ok (.iinc 3 1, 3) := by decide +kernel
theorem dX10_bridge_172 : decode cX10_bridge 172 = .ok (.goto (-49), 3) := by decide +kernel
theorem dX10_bridge_175 : decode cX10_bridge 175 = .ok (.iconst 0, 1) := by decide +kernel
theorem dX10_bridge_176 : decode cX10_bridge 176 = .ok (.istore_n 3, 1) := by decide +kernel
theorem dX10_bridge_177 : decode cX10_bridge 177 = .ok (.iload_n 3, 1) := by decide +kernel
theorem dX10_bridge_178 : decode cX10_bridge 178 = .ok (.bipush 25, 2) := by decide +kernel
theorem dX10_bridge_180 : decode cX10_bridge 180 = .ok (.if_icmp .ge 16, 3) := by decide +kernel
theorem dX10_bridge_183 : decode cX10_bridge 183 = .ok (.aload_n 0, 1) := by decide +kernel
theorem dX10_bridge_184 : decode cX10_bridge 184 = .ok (.getfield 47, 3) := by decide +kernel
theorem dX10_bridge_187 : decode cX10_bridge 187 = .ok (.iload_n 3, 1) := by decide +kernel
theorem dX10_bridge_188 : decode cX10_bridge 188 = .ok (.iconst 0, 1) := by decide +kernel
theorem dX10_bridge_189 : decode cX10_bridge 189 = .ok (.iastore, 1) := by decide +kernel
theorem dX10_bridge_190 : decode cX10_bridge 190 = .ok (.iinc 3 1, 3) := by decide +kernel
theorem dX10_bridge_193 : decode cX10_bridge 193 = .ok (.goto (-16), 3) := by decide +kernel
theorem dX10_bridge_196 : decode cX10_bridge 196 = .ok (.aload_n 0, 1) := by decide +kernel
theorem dX10_bridge_197 : decode cX10_bridge 197 = .ok (.getfield 47, 3) := by decide +kernel
theorem dX10_bridge_200 : decode cX10_bridge 200 = .ok (.iconst 4, 1) := by decide +kernel
theorem dX10_bridge_201 : decode cX10_bridge 201 = .ok (.iconst (-1), 1) := by decide +kernel
theorem dX10_bridge_202 : decode cX10_bridge 202 = .ok (.iastore, 1) := by decide +kernel
theorem dX10_bridge_203 : decode cX10_bridge 203 = .ok (.aload_n 0, 1) := by decide +kernel
theorem dX10_bridge_204 : decode cX10_bridge 204 = .ok (.getfield 47, 3) := by decide +kernel
theorem dX10_bridge_207 : decode cX10_bridge 207 = .ok (.bipush 6, 2) := by decide +kernel
theorem dX10_bridge_209 : decode cX10_bridge 209 = .ok (.iconst (-1), 1) := by decide +kernel
theorem dX10_bridge_210 : decode cX10_bridge 210 = .ok (.iastore, 1) := by decide +kernel
theorem dX10_bridge_211 : decode cX10_bridge 211 = .ok (.aload_n 0, 1) := by decide +kernel
theorem dX10_bridge_212 : decode cX10_bridge 212 = .ok (.getfield 47, 3) := by decide +kernel
theorem dX10_bridge_215 : decode cX10_bridge 215 = .ok (.iconst 3, 1) := by decide +kernel
theorem dX10_bridge_216 : decode cX10_bridge 216 = .ok (.aload_n 0, 1) := by decide +kernel
theorem dX10_bridge_217 : decode cX10_bridge 217 = .ok (.getfield 153, 3) := by decide +kernel
theorem dX10_bridge_220 : decode cX10_bridge 220 = .ok (.ifCond .le 7, 3) := by decide +kernel
theorem dX10_bridge_223 : decode cX10_bridge 223 = .ok (.iconst 1, 1) := by decide +kernel
theorem dX10_bridge_224 : decode cX10_bridge 224 = .ok (.goto 4, 3) := by decide +kernel
theorem dX10_bridge_227 : decode cX10_bridge 227 = .ok (.iconst 0, 1) := by decide +kernel
theorem dX10_bridge_228 : decode cX10_bridge 228 = .ok (.iastore, 1) := by decide +kernel
theorem dX10_bridge_229 : decode cX10_bridge 229 = .ok (.aload_n 0, 1) := by decide +kernel
theorem dX10_bridge_230 : decode cX10_bridge 230 = .ok (.iconst 0, 1) := by decide +kernel
theorem dX10_bridge_231 : decode cX10_bridge 231 = .ok (.putfield 159, 3) := by decide +kernel
theorem dX10_bridge_234 : decode cX10_bridge 234 = .ok (.aload_n 0, 1) := by decide +kernel
theorem dX10_bridge_235 : decode cX10_bridge 235 = .ok (.iconst 0, 1) := by decide +kernel
theorem dX10_bridge_236 : decode cX10_bridge 236 = .ok (.putfield 162, 3) := by decide +kernel
theorem dX10_bridge_239 : decode cX10_bridge 239 = .ok (.aload_n 0, 1) := by decide +kernel
theorem dX10_bridge_240 : decode cX10_bridge 240 = .ok (.iconst 0, 1) := by decide +kernel
theorem dX10_bridge_241 : decode cX10_bridge 241 = .ok (.putfield 165, 3) := by decide +kernel
theorem dX10_bridge_244 : decode cX10_bridge 244 = .ok (.aload_n 0, 1) := by decide +kernel
theorem dX10_bridge_245 : decode cX10_bridge 245 = .ok (.getfield 71, 3) := by decide +kernel
theorem dX10_bridge_248 : decode cX10_bridge 248 = .ok (.iconst 0, 1) := by decide +kernel
theorem dX10_bridge_249 : decode cX10_bridge 249 = .ok (.iconst 0, 1) := by decide +kernel
theorem dX10_bridge_250 : decode cX10_bridge 250 = .ok (.bastore, 1) := by decide +kernel
theorem dX10_bridge_251 : decode cX10_bridge 251 = .ok (.aload_n 0, 1) := by decide +kernel
theorem dX10_bridge_252 : decode cX10_bridge 252 = .ok (.getfield 71, 3) := by decide +kernel
theorem dX10_bridge_255 : decode cX10_bridge 255 = .ok (.iconst 1, 1) := by decide +kernel
theorem dX10_bridge_256 : decode cX10_bridge 256 = .ok (.iconst 0, 1) := by decide +kernel
theorem dX10_bridge_257 : decode cX10_bridge 257 = .ok (.bastore, 1) := by decide +kernel
theorem dX10_bridge_258 : decode cX10_bridge 258 = .ok (.aload_n 0, 1) := by decide +kernel
theorem dX10_bridge_259 : decode cX10_bridge 259 = .ok (.getfield 156, 3) := by decide +kernel
theorem dX10_bridge_262 : decode cX10_bridge 262 = .ok (.ireturn, 1) := by decide +kernel
theorem dX10_fault_0 : decode cX10_fault 0 = .ok (.aload_n 0, 1) := by decide +kernel
theorem dX10_fault_1 : decode cX10_fault 1 = .ok (.getfield 13, 3) := by decide +kernel
theorem dX10_fault_4 : decode cX10_fault 4 = .ok (.ireturn, 1) := by decide +kernel
theorem dX10_isBridge_0 : decode cX10_isBridge 0 = .ok (.aload_n 0, 1) := by decide +kernel
theorem dX10_isBridge_1 : decode cX10_isBridge 1 = .ok (.getfield 150, 3) := by decide +kernel
theorem dX10_isBridge_4 : decode cX10_isBridge 4 = .ok (.ifCond .le 7, 3) := by decide +kernel
theorem dX10_isBridge_7 : decode cX10_isBridge 7 = .ok (.iconst 1, 1) := by decide +kernel
theorem dX10_isBridge_8 : decode cX10_isBridge 8 = .ok (.goto 4, 3) := by decide +kernel
theorem dX10_isBridge_11 : decode cX10_isBridge 11 = .ok (.iconst 0, 1) := by decide +kernel
theorem dX10_isBridge_12 : decode cX10_isBridge 12 = .ok (.ireturn, 1) := by decide +kernel
theorem dX10_isMatter_0 : decode cX10_isMatter 0 = .ok (.iload_n 1, 1) := by decide +kernel
theorem dX10_isMatter_1 : decode cX10_isMatter 1 = .ok (.iconst 0, 1) := by decide +kernel
theorem dX10_isMatter_2 : decode cX10_isMatter 2 = .ok (.aload_n 0, 1) := by decide +kernel
theorem dX10_isMatter_3 : decode cX10_isMatter 3 = .ok (.getfield 153, 3) := by decide +kernel
theorem dX10_isMatter_6 : decode cX10_isMatter 6 = .ok (.iconst 1, 1) := by decide +kernel
theorem dX10_isMatter_7 : decode cX10_isMatter 7 = .ok (.isub, 1) := by decide +kernel
theorem dX10_isMatter_8 : decode cX10_isMatter 8 = .ok (.invokestatic 82, 3) := by decide +kernel
theorem dX10_isMatter_11 : decode cX10_isMatter 11 = .ok (.ireturn, 1) := by decide +kernel
theorem dX10_isTraveller_0 : decode cX10_isTraveller 0 = .ok (.iload_n 1, 1) := by decide +kernel
theorem dX10_isTraveller_1 : decode cX10_isTraveller 1 = .ok (.iconst 0, 1) := by decide +kernel
theorem dX10_isTraveller_2 : decode cX10_isTraveller 2 = .ok (.aload_n 0, 1) := by decide +kernel
theorem dX10_isTraveller_3 : decode cX10_isTraveller 3 = .ok (.getfield 156, 3) := by decide +kernel
theorem dX10_isTraveller_6 : decode cX10_isTraveller 6 = .ok (.iconst 1, 1) := by decide +kernel
theorem dX10_isTraveller_7 : decode cX10_isTraveller 7 = .ok (.isub, 1) := by decide +kernel
theorem dX10_isTraveller_8 : decode cX10_isTraveller 8 = .ok (.invokestatic 82, 3) := by decide +kernel
theorem dX10_isTraveller_11 : decode cX10_isTraveller 11 = .ok (.ireturn, 1) := by decide +kernel
theorem dX10_stayOf_0 : decode cX10_stayOf 0 = .ok (.aload_n 0, 1) := by decide +kernel
theorem dX10_stayOf_1 : decode cX10_stayOf 1 = .ok (.getfield 44, 3) := by decide +kernel
theorem dX10_stayOf_4 : decode cX10_stayOf 4 = .ok (.iload_n 1, 1) := by decide +kernel
theorem dX10_stayOf_5 : decode cX10_stayOf 5 = .ok (.iaload, 1) := by decide +kernel
theorem dX10_stayOf_6 : decode cX10_stayOf 6 = .ok (.iload_n 2, 1) := by decide +kernel
theorem dX10_stayOf_7 : decode cX10_stayOf 7 = .ok (.invokestatic 168, 3) := by decide +kernel
theorem dX10_stayOf_10 : decode cX10_stayOf 10 = .ok (.ifCond .ne 5, 3) := by decide +kernel
theorem dX10_stayOf_13 : decode cX10_stayOf 13 = .ok (.iconst 0, 1) := by decide +kernel
theorem dX10_stayOf_14 : decode cX10_stayOf 14 = .ok (.ireturn, 1) := by decide +kernel
theorem dX10_stayOf_15 : decode cX10_stayOf 15 = .ok (.aload_n 0, 1) := by decide +kernel
theorem dX10_stayOf_16 : decode cX10_stayOf 16 = .ok (.getfield 41, 3) := by decide +kernel
theorem dX10_stayOf_19 : decode cX10_stayOf 19 = .ok (.iload_n 1, 1) := by decide +kernel
theorem dX10_stayOf_20 : decode cX10_stayOf 20 = .ok (.iaload, 1) := by decide +kernel
theorem dX10_stayOf_21 : decode cX10_stayOf 21 = .ok (.istore_n 3, 1) := by decide +kernel
theorem dX10_stayOf_22 : decode cX10_stayOf 22 = .ok (.aload_n 0, 1) := by decide +kernel
theorem dX10_stayOf_23 : decode cX10_stayOf 23 = .ok (.getfield 38, 3) := by decide +kernel
theorem dX10_stayOf_26 : decode cX10_stayOf 26 = .ok (.iload_n 1, 1) := by decide +kernel
theorem dX10_stayOf_27 : decode cX10_stayOf 27 = .ok (.iaload, 1) := by decide +kernel
theorem dX10_stayOf_28 : decode cX10_stayOf 28 = .ok (.tableswitch 110 0 3 #[32, 57, 64, 91], 32) := by decide +kernel
theorem dX10_stayOf_60 : decode cX10_stayOf 60 = .ok (.aload_n 0, 1) := by decide +kernel
theorem dX10_stayOf_61 : decode cX10_stayOf 61 = .ok (.getfield 32, 3) := by decide +kernel
theorem dX10_stayOf_64 : decode cX10_stayOf 64 = .ok (.iload_n 2, 1) := by decide +kernel
theorem dX10_stayOf_65 : decode cX10_stayOf 65 = .ok (.iaload, 1) := by decide +kernel
theorem dX10_stayOf_66 : decode cX10_stayOf 66 = .ok (.iload_n 3, 1) := by decide +kernel
theorem dX10_stayOf_67 : decode cX10_stayOf 67 = .ok (.isub, 1) := by decide +kernel
theorem dX10_stayOf_68 : decode cX10_stayOf 68 = .ok (.iconst 1, 1) := by decide +kernel
theorem dX10_stayOf_69 : decode cX10_stayOf 69 = .ok (.if_icmp .le 14, 3) := by decide +kernel
theorem dX10_stayOf_72 : decode cX10_stayOf 72 = .ok (.aload_n 0, 1) := by decide +kernel
theorem dX10_stayOf_73 : decode cX10_stayOf 73 = .ok (.getfield 32, 3) := by decide +kernel
theorem dX10_stayOf_76 : decode cX10_stayOf 76 = .ok (.iload_n 2, 1) := by decide +kernel
theorem dX10_stayOf_77 : decode cX10_stayOf 77 = .ok (.iaload, 1) := by decide +kernel
theorem dX10_stayOf_78 : decode cX10_stayOf 78 = .ok (.iload_n 3, 1) := by decide +kernel
theorem dX10_stayOf_79 : decode cX10_stayOf 79 = .ok (.isub, 1) := by decide +kernel
theorem dX10_stayOf_80 : decode cX10_stayOf 80 = .ok (.goto 4, 3) := by decide +kernel
theorem dX10_stayOf_83 : decode cX10_stayOf 83 = .ok (.iconst 1, 1) := by decide +kernel
theorem dX10_stayOf_84 : decode cX10_stayOf 84 = .ok (.ireturn, 1) := by decide +kernel
theorem dX10_stayOf_85 : decode cX10_stayOf 85 = .ok (.aload_n 0, 1) := by decide +kernel
theorem dX10_stayOf_86 : decode cX10_stayOf 86 = .ok (.getfield 32, 3) := by decide +kernel
theorem dX10_stayOf_89 : decode cX10_stayOf 89 = .ok (.iload_n 2, 1) := by decide +kernel
theorem dX10_stayOf_90 : decode cX10_stayOf 90 = .ok (.iaload, 1) := by decide +kernel
theorem dX10_stayOf_91 : decode cX10_stayOf 91 = .ok (.ireturn, 1) := by decide +kernel
theorem dX10_stayOf_92 : decode cX10_stayOf 92 = .ok (.aload_n 0, 1) := by decide +kernel
theorem dX10_stayOf_93 : decode cX10_stayOf 93 = .ok (.getfield 32, 3) := by decide +kernel
theorem dX10_stayOf_96 : decode cX10_stayOf 96 = .ok (.iload_n 2, 1) := by decide +kernel
theorem dX10_stayOf_97 : decode cX10_stayOf 97 = .ok (.iaload, 1) := by decide +kernel
theorem dX10_stayOf_98 : decode cX10_stayOf 98 = .ok (.iconst 2, 1) := by decide +kernel
theorem dX10_stayOf_99 : decode cX10_stayOf 99 = .ok (.idiv, 1) := by decide +kernel
theorem dX10_stayOf_100 : decode cX10_stayOf 100 = .ok (.iload_n 3, 1) := by decide +kernel
theorem dX10_stayOf_101 : decode cX10_stayOf 101 = .ok (.if_icmp .le 16, 3) := by decide +kernel
theorem dX10_stayOf_104 : decode cX10_stayOf 104 = .ok (.aload_n 0, 1) := by decide +kernel
theorem dX10_stayOf_105 : decode cX10_stayOf 105 = .ok (.getfield 32, 3) := by decide +kernel
theorem dX10_stayOf_108 : decode cX10_stayOf 108 = .ok (.iload_n 2, 1) := by decide +kernel
theorem dX10_stayOf_109 : decode cX10_stayOf 109 = .ok (.iaload, 1) := by decide +kernel
theorem dX10_stayOf_110 : decode cX10_stayOf 110 = .ok (.iconst 2, 1) := by decide +kernel
theorem dX10_stayOf_111 : decode cX10_stayOf 111 = .ok (.idiv, 1) := by decide +kernel
theorem dX10_stayOf_112 : decode cX10_stayOf 112 = .ok (.iload_n 3, 1) := by decide +kernel
theorem dX10_stayOf_113 : decode cX10_stayOf 113 = .ok (.isub, 1) := by decide +kernel
theorem dX10_stayOf_114 : decode cX10_stayOf 114 = .ok (.goto 4, 3) := by decide +kernel
theorem dX10_stayOf_117 : decode cX10_stayOf 117 = .ok (.iconst 0, 1) := by decide +kernel
theorem dX10_stayOf_118 : decode cX10_stayOf 118 = .ok (.ireturn, 1) := by decide +kernel
theorem dX10_stayOf_119 : decode cX10_stayOf 119 = .ok (.aload_n 0, 1) := by decide +kernel
theorem dX10_stayOf_120 : decode cX10_stayOf 120 = .ok (.getfield 32, 3) := by decide +kernel
theorem dX10_stayOf_123 : decode cX10_stayOf 123 = .ok (.iload_n 2, 1) := by decide +kernel
theorem dX10_stayOf_124 : decode cX10_stayOf 124 = .ok (.iaload, 1) := by decide +kernel
theorem dX10_stayOf_125 : decode cX10_stayOf 125 = .ok (.iconst 5, 1) := by decide +kernel
theorem dX10_stayOf_126 : decode cX10_stayOf 126 = .ok (.aload_n 0, 1) := by decide +kernel
theorem dX10_stayOf_127 : decode cX10_stayOf 127 = .ok (.getfield 35, 3) := by decide +kernel
theorem dX10_stayOf_130 : decode cX10_stayOf 130 = .ok (.iload_n 2, 1) := by decide +kernel
theorem dX10_stayOf_131 : decode cX10_stayOf 131 = .ok (.iaload, 1) := by decide +kernel
theorem dX10_stayOf_132 : decode cX10_stayOf 132 = .ok (.invokestatic 172, 3) := by decide +kernel
theorem dX10_stayOf_135 : decode cX10_stayOf 135 = .ok (.imul, 1) := by decide +kernel
theorem dX10_stayOf_136 : decode cX10_stayOf 136 = .ok (.iadd, 1) := by decide +kernel
theorem dX10_stayOf_137 : decode cX10_stayOf 137 = .ok (.ireturn, 1) := by decide +kernel
theorem dX10_stayOf_138 : decode cX10_stayOf 138 = .ok (.iconst 0, 1) := by decide +kernel
theorem dX10_stayOf_139 : decode cX10_stayOf 139 = .ok (.ireturn, 1) := by decide +kernel
theorem dX10_limit_0 : decode cX10_limit 0 = .ok (.bipush 60, 2) := by decide +kernel
theorem dX10_limit_2 : decode cX10_limit 2 = .ok (.iconst 5, 1) := by decide +kernel
theorem dX10_limit_3 : decode cX10_limit 3 = .ok (.aload_n 0, 1) := by decide +kernel
theorem dX10_limit_4 : decode cX10_limit 4 = .ok (.getfield 41, 3) := by decide +kernel
theorem dX10_limit_7 : decode cX10_limit 7 = .ok (.iload_n 1, 1) := by decide +kernel
theorem dX10_limit_8 : decode cX10_limit 8 = .ok (.iaload, 1) := by decide +kernel
theorem dX10_limit_9 : decode cX10_limit 9 = .ok (.imul, 1) := by decide +kernel
theorem dX10_limit_10 : decode cX10_limit 10 = .ok (.isub, 1) := by decide +kernel
theorem dX10_limit_11 : decode cX10_limit 11 = .ok (.ireturn, 1) := by decide +kernel
theorem dX10_are_0 : decode cX10_are 0 = .ok (.iconst 0, 1) := by decide +kernel
theorem dX10_are_1 : decode cX10_are 1 = .ok (.istore_n 2, 1) := by decide +kernel
theorem dX10_are_2 : decode cX10_are 2 = .ok (.iconst 0, 1) := by decide +kernel
theorem dX10_are_3 : decode cX10_are 3 = .ok (.istore_n 3, 1) := by decide +kernel
theorem dX10_are_4 : decode cX10_are 4 = .ok (.iload_n 3, 1) := by decide +kernel
theorem dX10_are_5 : decode cX10_are 5 = .ok (.aload_n 0, 1) := by decide +kernel
theorem dX10_are_6 : decode cX10_are 6 = .ok (.getfield 156, 3) := by decide +kernel
theorem dX10_are_9 : decode cX10_are 9 = .ok (.if_icmp .ge 32, 3) := by decide +kernel
theorem dX10_are_12 : decode cX10_are 12 = .ok (.iload_n 2, 1) := by decide +kernel
theorem dX10_are_13 : decode cX10_are 13 = .ok (.aload_n 0, 1) := by decide +kernel
theorem dX10_are_14 : decode cX10_are 14 = .ok (.getfield 47, 3) := by decide +kernel
theorem dX10_are_17 : decode cX10_are 17 = .ok (.bipush 7, 2) := by decide +kernel
theorem dX10_are_19 : decode cX10_are 19 = .ok (.iload_n 3, 1) := by decide +kernel
theorem dX10_are_20 : decode cX10_are 20 = .ok (.iadd, 1) := by decide +kernel
theorem dX10_are_21 : decode cX10_are 21 = .ok (.iaload, 1) := by decide +kernel
theorem dX10_are_22 : decode cX10_are 22 = .ok (.iload_n 1, 1) := by decide +kernel
theorem dX10_are_23 : decode cX10_are 23 = .ok (.if_icmp .ne 9, 3) := by decide +kernel
theorem dX10_are_26 : decode cX10_are 26 = .ok (.iconst 1, 1) := by decide +kernel
theorem dX10_are_27 : decode cX10_are 27 = .ok (.iload_n 3, 1) := by decide +kernel
theorem dX10_are_28 : decode cX10_are 28 = .ok (.ishl, 1) := by decide +kernel
theorem dX10_are_29 : decode cX10_are 29 = .ok (.goto 4, 3) := by decide +kernel
theorem dX10_are_32 : decode cX10_are 32 = .ok (.iconst 0, 1) := by decide +kernel
theorem dX10_are_33 : decode cX10_are 33 = .ok (.ior, 1) := by decide +kernel
theorem dX10_are_34 : decode cX10_are 34 = .ok (.istore_n 2, 1) := by decide +kernel
theorem dX10_are_35 : decode cX10_are 35 = .ok (.iinc 3 1, 3) := by decide +kernel
theorem dX10_are_38 : decode cX10_are 38 = .ok (.goto (-34), 3) := by decide +kernel
theorem dX10_are_41 : decode cX10_are 41 = .ok (.iload_n 2, 1) := by decide +kernel
theorem dX10_are_42 : decode cX10_are 42 = .ok (.ireturn, 1) := by decide +kernel
theorem dX10_nobodys_0 : decode cX10_nobodys 0 = .ok (.iconst 1, 1) := by decide +kernel
theorem dX10_nobodys_1 : decode cX10_nobodys 1 = .ok (.aload_n 0, 1) := by decide +kernel
theorem dX10_nobodys_2 : decode cX10_nobodys 2 = .ok (.getfield 153, 3) := by decide +kernel
theorem dX10_nobodys_5 : decode cX10_nobodys 5 = .ok (.ishl, 1) := by decide +kernel
theorem dX10_nobodys_6 : decode cX10_nobodys 6 = .ok (.iconst 1, 1) := by decide +kernel
theorem dX10_nobodys_7 : decode cX10_nobodys 7 = .ok (.isub, 1) := by decide +kernel
theorem dX10_nobodys_8 : decode cX10_nobodys 8 = .ok (.istore_n 1, 1) := by decide +kernel
theorem dX10_nobodys_9 : decode cX10_nobodys 9 = .ok (.iconst 0, 1) := by decide +kernel
theorem dX10_nobodys_10 : decode cX10_nobodys 10 = .ok (.istore_n 2, 1) := by decide +kernel
theorem dX10_nobodys_11 : decode cX10_nobodys 11 = .ok (.iload_n 2, 1) := by decide +kernel
theorem dX10_nobodys_12 : decode cX10_nobodys 12 = .ok (.aload_n 0, 1) := by decide +kernel
theorem dX10_nobodys_13 : decode cX10_nobodys 13 = .ok (.getfield 156, 3) := by decide +kernel
theorem dX10_nobodys_16 : decode cX10_nobodys 16 = .ok (.if_icmp .ge 20, 3) := by decide +kernel
theorem dX10_nobodys_19 : decode cX10_nobodys 19 = .ok (.iload_n 1, 1) := by decide +kernel
theorem dX10_nobodys_20 : decode cX10_nobodys 20 = .ok (.aload_n 0, 1) := by decide +kernel
theorem dX10_nobodys_21 : decode cX10_nobodys 21 = .ok (.getfield 44, 3) := by decide +kernel
theorem dX10_nobodys_24 : decode cX10_nobodys 24 = .ok (.iload_n 2, 1) := by decide +kernel
theorem dX10_nobodys_25 : decode cX10_nobodys 25 = .ok (.iaload, 1) := by decide +kernel
theorem dX10_nobodys_26 : decode cX10_nobodys 26 = .ok (.iconst (-1), 1) := by decide +kernel
theorem dX10_nobodys_27 : decode cX10_nobodys 27 = .ok (.ixor, 1) := by decide +kernel
theorem dX10_nobodys_28 : decode cX10_nobodys 28 = .ok (.iand, 1) := by decide +kernel
theorem dX10_nobodys_29 : decode cX10_nobodys 29 = .ok (.istore_n 1, 1) := by decide +kernel
theorem dX10_nobodys_30 : decode cX10_nobodys 30 = .ok (.iinc 2 1, 3) := by decide +kernel
theorem dX10_nobodys_33 : decode cX10_nobodys 33 = .ok (.goto (-22), 3) := by decide +kernel
theorem dX10_nobodys_36 : decode cX10_nobodys 36 = .ok (.iload_n 1, 1) := by decide +kernel
theorem dX10_nobodys_37 : decode cX10_nobodys 37 = .ok (.ireturn, 1) := by decide +kernel
theorem dX10_longestSat_0 : decode cX10_longestSat 0 = .ok (.iconst (-1), 1) := by decide +kernel
theorem dX10_longestSat_1 : decode cX10_longestSat 1 = .ok (.istore_n 1, 1) := by decide +kernel
theorem dX10_longestSat_2 : decode cX10_longestSat 2 = .ok (.iconst 0, 1) := by decide +kernel
theorem dX10_longestSat_3 : decode cX10_longestSat 3 = .ok (.istore_n 2, 1) := by decide +kernel
theorem dX10_longestSat_4 : decode cX10_longestSat 4 = .ok (.iconst 0, 1) := by decide +kernel
theorem dX10_longestSat_5 : decode cX10_longestSat 5 = .ok (.istore_n 3, 1) := by decide +kernel
theorem dX10_longestSat_6 : decode cX10_longestSat 6 = .ok (.iload_n 3, 1) := by decide +kernel
theorem dX10_longestSat_7 : decode cX10_longestSat 7 = .ok (.aload_n 0, 1) := by decide +kernel
theorem dX10_longestSat_8 : decode cX10_longestSat 8 = .ok (.getfield 156, 3) := by decide +kernel
theorem dX10_longestSat_11 : decode cX10_longestSat 11 = .ok (.if_icmp .ge 55, 3) := by decide +kernel
theorem dX10_longestSat_14 : decode cX10_longestSat 14 = .ok (.aload_n 0, 1) := by decide +kernel
theorem dX10_longestSat_15 : decode cX10_longestSat 15 = .ok (.getfield 47, 3) := by decide +kernel
theorem dX10_longestSat_18 : decode cX10_longestSat 18 = .ok (.bipush 13, 2) := by decide +kernel
theorem dX10_longestSat_20 : decode cX10_longestSat 20 = .ok (.iload_n 3, 1) := by decide +kernel
theorem dX10_longestSat_21 : decode cX10_longestSat 21 = .ok (.iadd, 1) := by decide +kernel
theorem dX10_longestSat_22 : decode cX10_longestSat 22 = .ok (.iaload, 1) := by decide +kernel
theorem dX10_longestSat_23 : decode cX10_longestSat 23 = .ok (.iload_n 2, 1) := by decide +kernel
theorem dX10_longestSat_24 : decode cX10_longestSat 24 = .ok (.if_icmp .le 7, 3) := by decide +kernel
theorem dX10_longestSat_27 : decode cX10_longestSat 27 = .ok (.iload_n 3, 1) := by decide +kernel
theorem dX10_longestSat_28 : decode cX10_longestSat 28 = .ok (.goto 4, 3) := by decide +kernel
theorem dX10_longestSat_31 : decode cX10_longestSat 31 = .ok (.iload_n 1, 1) := by decide +kernel
theorem dX10_longestSat_32 : decode cX10_longestSat 32 = .ok (.istore_n 1, 1) := by decide +kernel
theorem dX10_longestSat_33 : decode cX10_longestSat 33 = .ok (.aload_n 0, 1) := by decide +kernel
theorem dX10_longestSat_34 : decode cX10_longestSat 34 = .ok (.getfield 47, 3) := by decide +kernel
theorem dX10_longestSat_37 : decode cX10_longestSat 37 = .ok (.bipush 13, 2) := by decide +kernel
theorem dX10_longestSat_39 : decode cX10_longestSat 39 = .ok (.iload_n 3, 1) := by decide +kernel
theorem dX10_longestSat_40 : decode cX10_longestSat 40 = .ok (.iadd, 1) := by decide +kernel
theorem dX10_longestSat_41 : decode cX10_longestSat 41 = .ok (.iaload, 1) := by decide +kernel
theorem dX10_longestSat_42 : decode cX10_longestSat 42 = .ok (.iload_n 2, 1) := by decide +kernel
theorem dX10_longestSat_43 : decode cX10_longestSat 43 = .ok (.if_icmp .le 15, 3) := by decide +kernel
theorem dX10_longestSat_46 : decode cX10_longestSat 46 = .ok (.aload_n 0, 1) := by decide +kernel
theorem dX10_longestSat_47 : decode cX10_longestSat 47 = .ok (.getfield 47, 3) := by decide +kernel
theorem dX10_longestSat_50 : decode cX10_longestSat 50 = .ok (.bipush 13, 2) := by decide +kernel
theorem dX10_longestSat_52 : decode cX10_longestSat 52 = .ok (.iload_n 3, 1) := by decide +kernel
theorem dX10_longestSat_53 : decode cX10_longestSat 53 = .ok (.iadd, 1) := by decide +kernel
theorem dX10_longestSat_54 : decode cX10_longestSat 54 = .ok (.iaload, 1) := by decide +kernel
theorem dX10_longestSat_55 : decode cX10_longestSat 55 = .ok (.goto 4, 3) := by decide +kernel
theorem dX10_longestSat_58 : decode cX10_longestSat 58 = .ok (.iload_n 2, 1) := by decide +kernel
theorem dX10_longestSat_59 : decode cX10_longestSat 59 = .ok (.istore_n 2, 1) := by decide +kernel
theorem dX10_longestSat_60 : decode cX10_longestSat 60 = .ok (.iinc 3 1, 3) := by decide +kernel
theorem dX10_longestSat_63 : decode cX10_longestSat 63 = .ok (.goto (-57), 3) := by decide +kernel
theorem dX10_longestSat_66 : decode cX10_longestSat 66 = .ok (.iload_n 1, 1) := by decide +kernel
theorem dX10_longestSat_67 : decode cX10_longestSat 67 = .ok (.ireturn, 1) := by decide +kernel
theorem dX10_told_0 : decode cX10_told 0 = .ok (.iload_n 1, 1) := by decide +kernel
theorem dX10_told_1 : decode cX10_told 1 = .ok (.tableswitch 222 0 20 #[99, 104, 109, 114, 119, 124, 131, 138, 145, 152, 159, 166, 174, 180, 186, 192, 197, 202, 207, 212, 217], 99) := by decide +kernel
theorem dX10_told_100 : decode cX10_told 100 = .ok (.aload_n 0, 1) := by decide +kernel
theorem dX10_told_101 : decode cX10_told 101 = .ok (.getfield 147, 3) := by decide +kernel
theorem dX10_told_104 : decode cX10_told 104 = .ok (.ireturn, 1) := by decide +kernel
theorem dX10_told_105 : decode cX10_told 105 = .ok (.aload_n 0, 1) := by decide +kernel
theorem dX10_told_106 : decode cX10_told 106 = .ok (.getfield 150, 3) := by decide +kernel
theorem dX10_told_109 : decode cX10_told 109 = .ok (.ireturn, 1) := by decide +kernel
theorem dX10_told_110 : decode cX10_told 110 = .ok (.aload_n 0, 1) := by decide +kernel
theorem dX10_told_111 : decode cX10_told 111 = .ok (.getfield 153, 3) := by decide +kernel
theorem dX10_told_114 : decode cX10_told 114 = .ok (.ireturn, 1) := by decide +kernel
theorem dX10_told_115 : decode cX10_told 115 = .ok (.aload_n 0, 1) := by decide +kernel
theorem dX10_told_116 : decode cX10_told 116 = .ok (.getfield 156, 3) := by decide +kernel
theorem dX10_told_119 : decode cX10_told 119 = .ok (.ireturn, 1) := by decide +kernel
theorem dX10_told_120 : decode cX10_told 120 = .ok (.aload_n 0, 1) := by decide +kernel
theorem dX10_told_121 : decode cX10_told 121 = .ok (.getfield 87, 3) := by decide +kernel
theorem dX10_told_124 : decode cX10_told 124 = .ok (.ireturn, 1) := by decide +kernel
theorem dX10_told_125 : decode cX10_told 125 = .ok (.aload_n 0, 1) := by decide +kernel
theorem dX10_told_126 : decode cX10_told 126 = .ok (.getfield 47, 3) := by decide +kernel
theorem dX10_told_129 : decode cX10_told 129 = .ok (.iconst 0, 1) := by decide +kernel
theorem dX10_told_130 : decode cX10_told 130 = .ok (.iaload, 1) := by decide +kernel
theorem dX10_told_131 : decode cX10_told 131 = .ok (.ireturn, 1) := by decide +kernel
theorem dX10_told_132 : decode cX10_told 132 = .ok (.aload_n 0, 1) := by decide +kernel
theorem dX10_told_133 : decode cX10_told 133 = .ok (.getfield 47, 3) := by decide +kernel
theorem dX10_told_136 : decode cX10_told 136 = .ok (.iconst 1, 1) := by decide +kernel
theorem dX10_told_137 : decode cX10_told 137 = .ok (.iaload, 1) := by decide +kernel
theorem dX10_told_138 : decode cX10_told 138 = .ok (.ireturn, 1) := by decide +kernel
theorem dX10_told_139 : decode cX10_told 139 = .ok (.aload_n 0, 1) := by decide +kernel
theorem dX10_told_140 : decode cX10_told 140 = .ok (.getfield 47, 3) := by decide +kernel
theorem dX10_told_143 : decode cX10_told 143 = .ok (.iconst 2, 1) := by decide +kernel
theorem dX10_told_144 : decode cX10_told 144 = .ok (.iaload, 1) := by decide +kernel
theorem dX10_told_145 : decode cX10_told 145 = .ok (.ireturn, 1) := by decide +kernel
theorem dX10_told_146 : decode cX10_told 146 = .ok (.aload_n 0, 1) := by decide +kernel
theorem dX10_told_147 : decode cX10_told 147 = .ok (.getfield 47, 3) := by decide +kernel
theorem dX10_told_150 : decode cX10_told 150 = .ok (.iconst 3, 1) := by decide +kernel
theorem dX10_told_151 : decode cX10_told 151 = .ok (.iaload, 1) := by decide +kernel
theorem dX10_told_152 : decode cX10_told 152 = .ok (.ireturn, 1) := by decide +kernel
theorem dX10_told_153 : decode cX10_told 153 = .ok (.aload_n 0, 1) := by decide +kernel
theorem dX10_told_154 : decode cX10_told 154 = .ok (.getfield 47, 3) := by decide +kernel
theorem dX10_told_157 : decode cX10_told 157 = .ok (.iconst 4, 1) := by decide +kernel
theorem dX10_told_158 : decode cX10_told 158 = .ok (.iaload, 1) := by decide +kernel
theorem dX10_told_159 : decode cX10_told 159 = .ok (.ireturn, 1) := by decide +kernel
theorem dX10_told_160 : decode cX10_told 160 = .ok (.aload_n 0, 1) := by decide +kernel
theorem dX10_told_161 : decode cX10_told 161 = .ok (.getfield 47, 3) := by decide +kernel
theorem dX10_told_164 : decode cX10_told 164 = .ok (.iconst 5, 1) := by decide +kernel
theorem dX10_told_165 : decode cX10_told 165 = .ok (.iaload, 1) := by decide +kernel
theorem dX10_told_166 : decode cX10_told 166 = .ok (.ireturn, 1) := by decide +kernel
theorem dX10_told_167 : decode cX10_told 167 = .ok (.aload_n 0, 1) := by decide +kernel
theorem dX10_told_168 : decode cX10_told 168 = .ok (.getfield 47, 3) := by decide +kernel
theorem dX10_told_171 : decode cX10_told 171 = .ok (.bipush 6, 2) := by decide +kernel
theorem dX10_told_173 : decode cX10_told 173 = .ok (.iaload, 1) := by decide +kernel
theorem dX10_told_174 : decode cX10_told 174 = .ok (.ireturn, 1) := by decide +kernel
theorem dX10_told_175 : decode cX10_told 175 = .ok (.aload_n 0, 1) := by decide +kernel
theorem dX10_told_176 : decode cX10_told 176 = .ok (.iconst 0, 1) := by decide +kernel
theorem dX10_told_177 : decode cX10_told 177 = .ok (.invokevirtual 175, 3) := by decide +kernel
theorem dX10_told_180 : decode cX10_told 180 = .ok (.ireturn, 1) := by decide +kernel
theorem dX10_told_181 : decode cX10_told 181 = .ok (.aload_n 0, 1) := by decide +kernel
theorem dX10_told_182 : decode cX10_told 182 = .ok (.iconst 2, 1) := by decide +kernel
theorem dX10_told_183 : decode cX10_told 183 = .ok (.invokevirtual 175, 3) := by decide +kernel
theorem dX10_told_186 : decode cX10_told 186 = .ok (.ireturn, 1) := by decide +kernel
theorem dX10_told_187 : decode cX10_told 187 = .ok (.aload_n 0, 1) := by decide +kernel
theorem dX10_told_188 : decode cX10_told 188 = .ok (.iconst 3, 1) := by decide +kernel
theorem dX10_told_189 : decode cX10_told 189 = .ok (.invokevirtual 175, 3) := by decide +kernel
theorem dX10_told_192 : decode cX10_told 192 = .ok (.ireturn, 1) := by decide +kernel
theorem dX10_told_193 : decode cX10_told 193 = .ok (.aload_n 0, 1) := by decide +kernel
theorem dX10_told_194 : decode cX10_told 194 = .ok (.invokevirtual 178, 3) := by decide +kernel
theorem dX10_told_197 : decode cX10_told 197 = .ok (.ireturn, 1) := by decide +kernel
theorem dX10_told_198 : decode cX10_told 198 = .ok (.aload_n 0, 1) := by decide +kernel
theorem dX10_told_199 : decode cX10_told 199 = .ok (.invokevirtual 181, 3) := by decide +kernel
theorem dX10_told_202 : decode cX10_told 202 = .ok (.ireturn, 1) := by decide +kernel
theorem dX10_told_203 : decode cX10_told 203 = .ok (.aload_n 0, 1) := by decide +kernel
theorem dX10_told_204 : decode cX10_told 204 = .ok (.invokevirtual 184, 3) := by decide +kernel
theorem dX10_told_207 : decode cX10_told 207 = .ok (.ireturn, 1) := by decide +kernel
theorem dX10_told_208 : decode cX10_told 208 = .ok (.aload_n 0, 1) := by decide +kernel
theorem dX10_told_209 : decode cX10_told 209 = .ok (.getfield 162, 3) := by decide +kernel
theorem dX10_told_212 : decode cX10_told 212 = .ok (.ireturn, 1) := by decide +kernel
theorem dX10_told_213 : decode cX10_told 213 = .ok (.aload_n 0, 1) := by decide +kernel
theorem dX10_told_214 : decode cX10_told 214 = .ok (.getfield 165, 3) := by decide +kernel
theorem dX10_told_217 : decode cX10_told 217 = .ok (.ireturn, 1) := by decide +kernel
theorem dX10_told_218 : decode cX10_told 218 = .ok (.aload_n 0, 1) := by decide +kernel
theorem dX10_told_219 : decode cX10_told 219 = .ok (.getfield 159, 3) := by decide +kernel
theorem dX10_told_222 : decode cX10_told 222 = .ok (.ireturn, 1) := by decide +kernel
theorem dX10_told_223 : decode cX10_told 223 = .ok (.ldc 86, 2) := by decide +kernel
theorem dX10_told_225 : decode cX10_told 225 = .ok (.ireturn, 1) := by decide +kernel
theorem dX10_onward_0 : decode cX10_onward 0 = .ok (.iconst 0, 1) := by decide +kernel
theorem dX10_onward_1 : decode cX10_onward 1 = .ok (.istore_n 2, 1) := by decide +kernel
theorem dX10_onward_2 : decode cX10_onward 2 = .ok (.iconst 0, 1) := by decide +kernel
theorem dX10_onward_3 : decode cX10_onward 3 = .ok (.istore_n 3, 1) := by decide +kernel
theorem dX10_onward_4 : decode cX10_onward 4 = .ok (.iload_n 3, 1) := by decide +kernel
theorem dX10_onward_5 : decode cX10_onward 5 = .ok (.aload_n 0, 1) := by decide +kernel
theorem dX10_onward_6 : decode cX10_onward 6 = .ok (.getfield 153, 3) := by decide +kernel
theorem dX10_onward_9 : decode cX10_onward 9 = .ok (.if_icmp .ge 30, 3) := by decide +kernel
theorem dX10_onward_12 : decode cX10_onward 12 = .ok (.iload_n 2, 1) := by decide +kernel
theorem dX10_onward_13 : decode cX10_onward 13 = .ok (.iload_n 1, 1) := by decide +kernel
theorem dX10_onward_14 : decode cX10_onward 14 = .ok (.iload_n 3, 1) := by decide +kernel
theorem dX10_onward_15 : decode cX10_onward 15 = .ok (.invokestatic 168, 3) := by decide +kernel
theorem dX10_onward_18 : decode cX10_onward 18 = .ok (.ifCond .eq 12, 3) := by decide +kernel
theorem dX10_onward_21 : decode cX10_onward 21 = .ok (.aload_n 0, 1) := by decide +kernel
theorem dX10_onward_22 : decode cX10_onward 22 = .ok (.getfield 35, 3) := by decide +kernel
theorem dX10_onward_25 : decode cX10_onward 25 = .ok (.iload_n 3, 1) := by decide +kernel
theorem dX10_onward_26 : decode cX10_onward 26 = .ok (.iaload, 1) := by decide +kernel
theorem dX10_onward_27 : decode cX10_onward 27 = .ok (.goto 4, 3) := by decide +kernel
theorem dX10_onward_30 : decode cX10_onward 30 = .ok (.iconst 0, 1) := by decide +kernel
theorem dX10_onward_31 : decode cX10_onward 31 = .ok (.ior, 1) := by decide +kernel
theorem dX10_onward_32 : decode cX10_onward 32 = .ok (.istore_n 2, 1) := by decide +kernel
theorem dX10_onward_33 : decode cX10_onward 33 = .ok (.iinc 3 1, 3) := by decide +kernel
theorem dX10_onward_36 : decode cX10_onward 36 = .ok (.goto (-32), 3) := by decide +kernel
theorem dX10_onward_39 : decode cX10_onward 39 = .ok (.iload_n 2, 1) := by decide +kernel
theorem dX10_onward_40 : decode cX10_onward 40 = .ok (.ireturn, 1) := by decide +kernel
theorem dX10_leadsFrom_0 : decode cX10_leadsFrom 0 = .ok (.aload_n 0, 1) := by decide +kernel
theorem dX10_leadsFrom_1 : decode cX10_leadsFrom 1 = .ok (.getfield 35, 3) := by decide +kernel
theorem dX10_leadsFrom_4 : decode cX10_leadsFrom 4 = .ok (.iload_n 1, 1) := by decide +kernel
theorem dX10_leadsFrom_5 : decode cX10_leadsFrom 5 = .ok (.iaload, 1) := by decide +kernel
theorem dX10_leadsFrom_6 : decode cX10_leadsFrom 6 = .ok (.istore_n 2, 1) := by decide +kernel
theorem dX10_leadsFrom_7 : decode cX10_leadsFrom 7 = .ok (.iconst 0, 1) := by decide +kernel
theorem dX10_leadsFrom_8 : decode cX10_leadsFrom 8 = .ok (.istore_n 3, 1) := by decide +kernel
theorem dX10_leadsFrom_9 : decode cX10_leadsFrom 9 = .ok (.iload_n 3, 1) := by decide +kernel
theorem dX10_leadsFrom_10 : decode cX10_leadsFrom 10 = .ok (.aload_n 0, 1) := by decide +kernel
theorem dX10_leadsFrom_11 : decode cX10_leadsFrom 11 = .ok (.getfield 153, 3) := by decide +kernel
theorem dX10_leadsFrom_14 : decode cX10_leadsFrom 14 = .ok (.if_icmp .ge 17, 3) := by decide +kernel
theorem dX10_leadsFrom_17 : decode cX10_leadsFrom 17 = .ok (.iload_n 2, 1) := by decide +kernel
theorem dX10_leadsFrom_18 : decode cX10_leadsFrom 18 = .ok (.aload_n 0, 1) := by decide +kernel
theorem dX10_leadsFrom_19 : decode cX10_leadsFrom 19 = .ok (.iload_n 2, 1) := by decide +kernel
theorem dX10_leadsFrom_20 : decode cX10_leadsFrom 20 = .ok (.invokevirtual 187, 3) := by decide +kernel
theorem dX10_leadsFrom_23 : decode cX10_leadsFrom 23 = .ok (.ior, 1) := by decide +kernel
theorem dX10_leadsFrom_24 : decode cX10_leadsFrom 24 = .ok (.istore_n 2, 1) := by decide +kernel
theorem dX10_leadsFrom_25 : decode cX10_leadsFrom 25 = .ok (.iinc 3 1, 3) := by decide +kernel
theorem dX10_leadsFrom_28 : decode cX10_leadsFrom 28 = .ok (.goto (-19), 3) := by decide +kernel
theorem dX10_leadsFrom_31 : decode cX10_leadsFrom 31 = .ok (.iload_n 2, 1) := by decide +kernel
theorem dX10_leadsFrom_32 : decode cX10_leadsFrom 32 = .ok (.ireturn, 1) := by decide +kernel
theorem dX10_roundOf_0 : decode cX10_roundOf 0 = .ok (.iconst 1, 1) := by decide +kernel
theorem dX10_roundOf_1 : decode cX10_roundOf 1 = .ok (.iload_n 1, 1) := by decide +kernel
theorem dX10_roundOf_2 : decode cX10_roundOf 2 = .ok (.ishl, 1) := by decide +kernel
theorem dX10_roundOf_3 : decode cX10_roundOf 3 = .ok (.istore_n 2, 1) := by decide +kernel
theorem dX10_roundOf_4 : decode cX10_roundOf 4 = .ok (.iconst 1, 1) := by decide +kernel
theorem dX10_roundOf_5 : decode cX10_roundOf 5 = .ok (.istore_n 3, 1) := by decide +kernel
theorem dX10_roundOf_6 : decode cX10_roundOf 6 = .ok (.iload_n 3, 1) := by decide +kernel
theorem dX10_roundOf_7 : decode cX10_roundOf 7 = .ok (.aload_n 0, 1) := by decide +kernel
theorem dX10_roundOf_8 : decode cX10_roundOf 8 = .ok (.getfield 153, 3) := by decide +kernel
theorem dX10_roundOf_11 : decode cX10_roundOf 11 = .ok (.if_icmp .gt 25, 3) := by decide +kernel
theorem dX10_roundOf_14 : decode cX10_roundOf 14 = .ok (.aload_n 0, 1) := by decide +kernel
theorem dX10_roundOf_15 : decode cX10_roundOf 15 = .ok (.iload_n 2, 1) := by decide +kernel
theorem dX10_roundOf_16 : decode cX10_roundOf 16 = .ok (.invokevirtual 187, 3) := by decide +kernel
theorem dX10_roundOf_19 : decode cX10_roundOf 19 = .ok (.istore_n 2, 1) := by decide +kernel
theorem dX10_roundOf_20 : decode cX10_roundOf 20 = .ok (.iload_n 2, 1) := by decide +kernel
theorem dX10_roundOf_21 : decode cX10_roundOf 21 = .ok (.iload_n 1, 1) := by decide +kernel
theorem dX10_roundOf_22 : decode cX10_roundOf 22 = .ok (.invokestatic 168, 3) := by decide +kernel
theorem dX10_roundOf_25 : decode cX10_roundOf 25 = .ok (.ifCond .eq 5, 3) := by decide +kernel
theorem dX10_roundOf_28 : decode cX10_roundOf 28 = .ok (.iload_n 3, 1) := by decide +kernel
theorem dX10_roundOf_29 : decode cX10_roundOf 29 = .ok (.ireturn, 1) := by decide +kernel
theorem dX10_roundOf_30 : decode cX10_roundOf 30 = .ok (.iinc 3 1, 3) := by decide +kernel
theorem dX10_roundOf_33 : decode cX10_roundOf 33 = .ok (.goto (-27), 3) := by decide +kernel
theorem dX10_roundOf_36 : decode cX10_roundOf 36 = .ok (.iconst (-1), 1) := by decide +kernel
theorem dX10_roundOf_37 : decode cX10_roundOf 37 = .ok (.ireturn, 1) := by decide +kernel
theorem dX10_matter_0 : decode cX10_matter 0 = .ok (.aload_n 0, 1) := by decide +kernel
theorem dX10_matter_1 : decode cX10_matter 1 = .ok (.iload_n 1, 1) := by decide +kernel
theorem dX10_matter_2 : decode cX10_matter 2 = .ok (.invokevirtual 190, 3) := by decide +kernel
theorem dX10_matter_5 : decode cX10_matter 5 = .ok (.ifCond .ne 6, 3) := by decide +kernel
theorem dX10_matter_8 : decode cX10_matter 8 = .ok (.ldc 193, 2) := by decide +kernel
theorem dX10_matter_10 : decode cX10_matter 10 = .ok (.ireturn, 1) := by decide +kernel
theorem dX10_matter_11 : decode cX10_matter 11 = .ok (.iload_n 2, 1) := by decide +kernel
theorem dX10_matter_12 : decode cX10_matter 12 = .ok (.tableswitch 58 0 3 #[32, 39, 46, 52], 32) := by decide +kernel
theorem dX10_matter_44 : decode cX10_matter 44 = .ok (.aload_n 0, 1) := by decide +kernel
theorem dX10_matter_45 : decode cX10_matter 45 = .ok (.getfield 32, 3) := by decide +kernel
theorem dX10_matter_48 : decode cX10_matter 48 = .ok (.iload_n 1, 1) := by decide +kernel
theorem dX10_matter_49 : decode cX10_matter 49 = .ok (.iaload, 1) := by decide +kernel
theorem dX10_matter_50 : decode cX10_matter 50 = .ok (.ireturn, 1) := by decide +kernel
theorem dX10_matter_51 : decode cX10_matter 51 = .ok (.aload_n 0, 1) := by decide +kernel
theorem dX10_matter_52 : decode cX10_matter 52 = .ok (.getfield 35, 3) := by decide +kernel
theorem dX10_matter_55 : decode cX10_matter 55 = .ok (.iload_n 1, 1) := by decide +kernel
theorem dX10_matter_56 : decode cX10_matter 56 = .ok (.iaload, 1) := by decide +kernel
theorem dX10_matter_57 : decode cX10_matter 57 = .ok (.ireturn, 1) := by decide +kernel
theorem dX10_matter_58 : decode cX10_matter 58 = .ok (.aload_n 0, 1) := by decide +kernel
theorem dX10_matter_59 : decode cX10_matter 59 = .ok (.iload_n 1, 1) := by decide +kernel
theorem dX10_matter_60 : decode cX10_matter 60 = .ok (.invokevirtual 194, 3) := by decide +kernel
theorem dX10_matter_63 : decode cX10_matter 63 = .ok (.ireturn, 1) := by decide +kernel
theorem dX10_matter_64 : decode cX10_matter 64 = .ok (.aload_n 0, 1) := by decide +kernel
theorem dX10_matter_65 : decode cX10_matter 65 = .ok (.iload_n 1, 1) := by decide +kernel
theorem dX10_matter_66 : decode cX10_matter 66 = .ok (.invokevirtual 197, 3) := by decide +kernel
theorem dX10_matter_69 : decode cX10_matter 69 = .ok (.ireturn, 1) := by decide +kernel
theorem dX10_matter_70 : decode cX10_matter 70 = .ok (.ldc 86, 2) := by decide +kernel
theorem dX10_matter_72 : decode cX10_matter 72 = .ok (.ireturn, 1) := by decide +kernel
theorem dX10_favourite_0 : decode cX10_favourite 0 = .ok (.iconst (-1), 1) := by decide +kernel
theorem dX10_favourite_1 : decode cX10_favourite 1 = .ok (.istore_n 2, 1) := by decide +kernel
theorem dX10_favourite_2 : decode cX10_favourite 2 = .ok (.iconst 0, 1) := by decide +kernel
theorem dX10_favourite_3 : decode cX10_favourite 3 = .ok (.istore_n 3, 1) := by decide +kernel
theorem dX10_favourite_4 : decode cX10_favourite 4 = .ok (.iconst 0, 1) := by decide +kernel
theorem dX10_favourite_5 : decode cX10_favourite 5 = .ok (.istore 4, 2) := by decide +kernel
theorem dX10_favourite_7 : decode cX10_favourite 7 = .ok (.iload 4, 2) := by decide +kernel
theorem dX10_favourite_9 : decode cX10_favourite 9 = .ok (.aload_n 0, 1) := by decide +kernel
theorem dX10_favourite_10 : decode cX10_favourite 10 = .ok (.getfield 153, 3) := by decide +kernel
theorem dX10_favourite_13 : decode cX10_favourite 13 = .ok (.if_icmp .ge 50, 3) := by decide +kernel
theorem dX10_favourite_16 : decode cX10_favourite 16 = .ok (.aload_n 0, 1) := by decide +kernel
theorem dX10_favourite_17 : decode cX10_favourite 17 = .ok (.iload_n 1, 1) := by decide +kernel
theorem dX10_favourite_18 : decode cX10_favourite 18 = .ok (.iload 4, 2) := by decide +kernel
theorem dX10_favourite_20 : decode cX10_favourite 20 = .ok (.invokevirtual 200, 3) := by decide +kernel
theorem dX10_favourite_23 : decode cX10_favourite 23 = .ok (.iload_n 3, 1) := by decide +kernel
theorem dX10_favourite_24 : decode cX10_favourite 24 = .ok (.if_icmp .le 8, 3) := by decide +kernel
theorem dX10_favourite_27 : decode cX10_favourite 27 = .ok (.iload 4, 2) := by decide +kernel
theorem dX10_favourite_29 : decode cX10_favourite 29 = .ok (.goto 4, 3) := by decide +kernel
theorem dX10_favourite_32 : decode cX10_favourite 32 = .ok (.iload_n 2, 1) := by decide +kernel
theorem dX10_favourite_33 : decode cX10_favourite 33 = .ok (.istore_n 2, 1) := by decide +kernel
theorem dX10_favourite_34 : decode cX10_favourite 34 = .ok (.aload_n 0, 1) := by decide +kernel
theorem dX10_favourite_35 : decode cX10_favourite 35 = .ok (.iload_n 1, 1) := by decide +kernel
theorem dX10_favourite_36 : decode cX10_favourite 36 = .ok (.iload 4, 2) := by decide +kernel
theorem dX10_favourite_38 : decode cX10_favourite 38 = .ok (.invokevirtual 200, 3) := by decide +kernel
theorem dX10_favourite_41 : decode cX10_favourite 41 = .ok (.iload_n 3, 1) := by decide +kernel
theorem dX10_favourite_42 : decode cX10_favourite 42 = .ok (.if_icmp .le 13, 3) := by decide +kernel
theorem dX10_favourite_45 : decode cX10_favourite 45 = .ok (.aload_n 0, 1) := by decide +kernel
theorem dX10_favourite_46 : decode cX10_favourite 46 = .ok (.iload_n 1, 1) := by decide +kernel
theorem dX10_favourite_47 : decode cX10_favourite 47 = .ok (.iload 4, 2) := by decide +kernel
theorem dX10_favourite_49 : decode cX10_favourite 49 = .ok (.invokevirtual 200, 3) := by decide +kernel
theorem dX10_favourite_52 : decode cX10_favourite 52 = .ok (.goto 4, 3) := by decide +kernel
theorem dX10_favourite_55 : decode cX10_favourite 55 = .ok (.iload_n 3, 1) := by decide +kernel
theorem dX10_favourite_56 : decode cX10_favourite 56 = .ok (.istore_n 3, 1) := by decide +kernel
theorem dX10_favourite_57 : decode cX10_favourite 57 = .ok (.iinc 4 1, 3) := by decide +kernel
theorem dX10_favourite_60 : decode cX10_favourite 60 = .ok (.goto (-53), 3) := by decide +kernel
theorem dX10_favourite_63 : decode cX10_favourite 63 = .ok (.iload_n 2, 1) := by decide +kernel
theorem dX10_favourite_64 : decode cX10_favourite 64 = .ok (.ireturn, 1) := by decide +kernel
theorem dX10_traveller_0 : decode cX10_traveller 0 = .ok (.aload_n 0, 1) := by decide +kernel
theorem dX10_traveller_1 : decode cX10_traveller 1 = .ok (.iload_n 1, 1) := by decide +kernel
theorem dX10_traveller_2 : decode cX10_traveller 2 = .ok (.invokevirtual 203, 3) := by decide +kernel
theorem dX10_traveller_5 : decode cX10_traveller 5 = .ok (.ifCond .ne 6, 3) := by decide +kernel
theorem dX10_traveller_8 : decode cX10_traveller 8 = .ok (.ldc 193, 2) := by decide +kernel
theorem dX10_traveller_10 : decode cX10_traveller 10 = .ok (.ireturn, 1) := by decide +kernel
theorem dX10_traveller_11 : decode cX10_traveller 11 = .ok (.iload_n 2, 1) := by decide +kernel
theorem dX10_traveller_12 : decode cX10_traveller 12 = .ok (.tableswitch 123 0 6 #[44, 51, 58, 65, 75, 85, 117], 44) := by decide +kernel
theorem dX10_traveller_56 : decode cX10_traveller 56 = .ok (.aload_n 0, 1) := by decide +kernel
theorem dX10_traveller_57 : decode cX10_traveller 57 = .ok (.getfield 38, 3) := by decide +kernel
theorem dX10_traveller_60 : decode cX10_traveller 60 = .ok (.iload_n 1, 1) := by decide +kernel
theorem dX10_traveller_61 : decode cX10_traveller 61 = .ok (.iaload, 1) := by decide +kernel
theorem dX10_traveller_62 : decode cX10_traveller 62 = .ok (.ireturn, 1) := by decide +kernel
theorem dX10_traveller_63 : decode cX10_traveller 63 = .ok (.aload_n 0, 1) := by decide +kernel
theorem dX10_traveller_64 : decode cX10_traveller 64 = .ok (.getfield 41, 3) := by decide +kernel
theorem dX10_traveller_67 : decode cX10_traveller 67 = .ok (.iload_n 1, 1) := by decide +kernel
theorem dX10_traveller_68 : decode cX10_traveller 68 = .ok (.iaload, 1) := by decide +kernel
theorem dX10_traveller_69 : decode cX10_traveller 69 = .ok (.ireturn, 1) := by decide +kernel
theorem dX10_traveller_70 : decode cX10_traveller 70 = .ok (.aload_n 0, 1) := by decide +kernel
theorem dX10_traveller_71 : decode cX10_traveller 71 = .ok (.getfield 44, 3) := by decide +kernel
theorem dX10_traveller_74 : decode cX10_traveller 74 = .ok (.iload_n 1, 1) := by decide +kernel
theorem dX10_traveller_75 : decode cX10_traveller 75 = .ok (.iaload, 1) := by decide +kernel
theorem dX10_traveller_76 : decode cX10_traveller 76 = .ok (.ireturn, 1) := by decide +kernel
theorem dX10_traveller_77 : decode cX10_traveller 77 = .ok (.aload_n 0, 1) := by decide +kernel
theorem dX10_traveller_78 : decode cX10_traveller 78 = .ok (.getfield 47, 3) := by decide +kernel
theorem dX10_traveller_81 : decode cX10_traveller 81 = .ok (.bipush 13, 2) := by decide +kernel
theorem dX10_traveller_83 : decode cX10_traveller 83 = .ok (.iload_n 1, 1) := by decide +kernel
theorem dX10_traveller_84 : decode cX10_traveller 84 = .ok (.iadd, 1) := by decide +kernel
theorem dX10_traveller_85 : decode cX10_traveller 85 = .ok (.iaload, 1) := by decide +kernel
theorem dX10_traveller_86 : decode cX10_traveller 86 = .ok (.ireturn, 1) := by decide +kernel
theorem dX10_traveller_87 : decode cX10_traveller 87 = .ok (.aload_n 0, 1) := by decide +kernel
theorem dX10_traveller_88 : decode cX10_traveller 88 = .ok (.getfield 47, 3) := by decide +kernel
theorem dX10_traveller_91 : decode cX10_traveller 91 = .ok (.bipush 19, 2) := by decide +kernel
theorem dX10_traveller_93 : decode cX10_traveller 93 = .ok (.iload_n 1, 1) := by decide +kernel
theorem dX10_traveller_94 : decode cX10_traveller 94 = .ok (.iadd, 1) := by decide +kernel
theorem dX10_traveller_95 : decode cX10_traveller 95 = .ok (.iaload, 1) := by decide +kernel
theorem dX10_traveller_96 : decode cX10_traveller 96 = .ok (.ireturn, 1) := by decide +kernel
theorem dX10_traveller_97 : decode cX10_traveller 97 = .ok (.aload_n 0, 1) := by decide +kernel
theorem dX10_traveller_98 : decode cX10_traveller 98 = .ok (.getfield 47, 3) := by decide +kernel
theorem dX10_traveller_101 : decode cX10_traveller 101 = .ok (.bipush 7, 2) := by decide +kernel
theorem dX10_traveller_103 : decode cX10_traveller 103 = .ok (.iload_n 1, 1) := by decide +kernel
theorem dX10_traveller_104 : decode cX10_traveller 104 = .ok (.iadd, 1) := by decide +kernel
theorem dX10_traveller_105 : decode cX10_traveller 105 = .ok (.iaload, 1) := by decide +kernel
theorem dX10_traveller_106 : decode cX10_traveller 106 = .ok (.ifCond .ne 21, 3) := by decide +kernel
theorem dX10_traveller_109 : decode cX10_traveller 109 = .ok (.aload_n 0, 1) := by decide +kernel
theorem dX10_traveller_110 : decode cX10_traveller 110 = .ok (.iload_n 1, 1) := by decide +kernel
theorem dX10_traveller_111 : decode cX10_traveller 111 = .ok (.invokevirtual 206, 3) := by decide +kernel
theorem dX10_traveller_114 : decode cX10_traveller 114 = .ok (.aload_n 0, 1) := by decide +kernel
theorem dX10_traveller_115 : decode cX10_traveller 115 = .ok (.getfield 47, 3) := by decide +kernel
theorem dX10_traveller_118 : decode cX10_traveller 118 = .ok (.bipush 19, 2) := by decide +kernel
theorem dX10_traveller_120 : decode cX10_traveller 120 = .ok (.iload_n 1, 1) := by decide +kernel
theorem dX10_traveller_121 : decode cX10_traveller 121 = .ok (.iadd, 1) := by decide +kernel
theorem dX10_traveller_122 : decode cX10_traveller 122 = .ok (.iaload, 1) := by decide +kernel
theorem dX10_traveller_123 : decode cX10_traveller 123 = .ok (.isub, 1) := by decide +kernel
theorem dX10_traveller_124 : decode cX10_traveller 124 = .ok (.goto 4, 3) := by decide +kernel
theorem dX10_traveller_127 : decode cX10_traveller 127 = .ok (.iconst 0, 1) := by decide +kernel
theorem dX10_traveller_128 : decode cX10_traveller 128 = .ok (.ireturn, 1) := by decide +kernel
theorem dX10_traveller_129 : decode cX10_traveller 129 = .ok (.aload_n 0, 1) := by decide +kernel
theorem dX10_traveller_130 : decode cX10_traveller 130 = .ok (.iload_n 1, 1) := by decide +kernel
theorem dX10_traveller_131 : decode cX10_traveller 131 = .ok (.invokevirtual 209, 3) := by decide +kernel
theorem dX10_traveller_134 : decode cX10_traveller 134 = .ok (.ireturn, 1) := by decide +kernel
theorem dX10_traveller_135 : decode cX10_traveller 135 = .ok (.ldc 86, 2) := by decide +kernel
theorem dX10_traveller_137 : decode cX10_traveller 137 = .ok (.ireturn, 1) := by decide +kernel
theorem dX10_remember_0 : decode cX10_remember 0 = .ok (.iconst 0, 1) := by decide +kernel
theorem dX10_remember_1 : decode cX10_remember 1 = .ok (.istore_n 1, 1) := by decide +kernel
theorem dX10_remember_2 : decode cX10_remember 2 = .ok (.iload_n 1, 1) := by decide +kernel
theorem dX10_remember_3 : decode cX10_remember 3 = .ok (.bipush 25, 2) := by decide +kernel
theorem dX10_remember_5 : decode cX10_remember 5 = .ok (.if_icmp .ge 29, 3) := by decide +kernel
theorem dX10_remember_8 : decode cX10_remember 8 = .ok (.aload_n 0, 1) := by decide +kernel
theorem dX10_remember_9 : decode cX10_remember 9 = .ok (.getfield 50, 3) := by decide +kernel
theorem dX10_remember_12 : decode cX10_remember 12 = .ok (.bipush 25, 2) := by decide +kernel
theorem dX10_remember_14 : decode cX10_remember 14 = .ok (.aload_n 0, 1) := by decide +kernel
theorem dX10_remember_15 : decode cX10_remember 15 = .ok (.getfield 212, 3) := by decide +kernel
theorem dX10_remember_18 : decode cX10_remember 18 = .ok (.imul, 1) := by decide +kernel
theorem dX10_remember_19 : decode cX10_remember 19 = .ok (.iload_n 1, 1) := by decide +kernel
theorem dX10_remember_20 : decode cX10_remember 20 = .ok (.iadd, 1) := by decide +kernel
theorem dX10_remember_21 : decode cX10_remember 21 = .ok (.aload_n 0, 1) := by decide +kernel
theorem dX10_remember_22 : decode cX10_remember 22 = .ok (.getfield 47, 3) := by decide +kernel
theorem dX10_remember_25 : decode cX10_remember 25 = .ok (.iload_n 1, 1) := by decide +kernel
theorem dX10_remember_26 : decode cX10_remember 26 = .ok (.iaload, 1) := by decide +kernel
theorem dX10_remember_27 : decode cX10_remember 27 = .ok (.iastore, 1) := by decide +kernel
theorem dX10_remember_28 : decode cX10_remember 28 = .ok (.iinc 1 1, 3) := by decide +kernel
theorem dX10_remember_31 : decode cX10_remember 31 = .ok (.goto (-29), 3) := by decide +kernel
theorem dX10_remember_34 : decode cX10_remember 34 = .ok (.aload_n 0, 1) := by decide +kernel
theorem dX10_remember_35 : decode cX10_remember 35 = .ok (.aload_n 0, 1) := by decide +kernel
theorem dX10_remember_36 : decode cX10_remember 36 = .ok (.getfield 212, 3) := by decide +kernel
theorem dX10_remember_39 : decode cX10_remember 39 = .ok (.iconst 1, 1) := by decide +kernel
theorem dX10_remember_40 : decode cX10_remember 40 = .ok (.iadd, 1) := by decide +kernel
theorem dX10_remember_41 : decode cX10_remember 41 = .ok (.bipush 30, 2) := by decide +kernel
theorem dX10_remember_43 : decode cX10_remember 43 = .ok (.irem, 1) := by decide +kernel
theorem dX10_remember_44 : decode cX10_remember 44 = .ok (.putfield 212, 3) := by decide +kernel
theorem dX10_remember_47 : decode cX10_remember 47 = .ok (.aload_n 0, 1) := by decide +kernel
theorem dX10_remember_48 : decode cX10_remember 48 = .ok (.dup, 1) := by decide +kernel
theorem dX10_remember_49 : decode cX10_remember 49 = .ok (.getfield 159, 3) := by decide +kernel
theorem dX10_remember_52 : decode cX10_remember 52 = .ok (.aload_n 0, 1) := by decide +kernel
theorem dX10_remember_53 : decode cX10_remember 53 = .ok (.getfield 159, 3) := by decide +kernel
theorem dX10_remember_56 : decode cX10_remember 56 = .ok (.bipush 30, 2) := by decide +kernel
theorem dX10_remember_58 : decode cX10_remember 58 = .ok (.if_icmp .ge 7, 3) := by decide +kernel
theorem dX10_remember_61 : decode cX10_remember 61 = .ok (.iconst 1, 1) := by decide +kernel
theorem dX10_remember_62 : decode cX10_remember 62 = .ok (.goto 4, 3) := by decide +kernel
theorem dX10_remember_65 : decode cX10_remember 65 = .ok (.iconst 0, 1) := by decide +kernel
theorem dX10_remember_66 : decode cX10_remember 66 = .ok (.iadd, 1) := by decide +kernel
theorem dX10_remember_67 : decode cX10_remember 67 = .ok (.putfield 159, 3) := by decide +kernel
theorem dX10_remember_70 : decode cX10_remember 70 = .ok (.return_, 1) := by decide +kernel
theorem dX10_passes_0 : decode cX10_passes 0 = .ok (.iconst 0, 1) := by decide +kernel
theorem dX10_passes_1 : decode cX10_passes 1 = .ok (.istore_n 2, 1) := by decide +kernel
theorem dX10_passes_2 : decode cX10_passes 2 = .ok (.iload_n 2, 1) := by decide +kernel
theorem dX10_passes_3 : decode cX10_passes 3 = .ok (.iload_n 1, 1) := by decide +kernel
theorem dX10_passes_4 : decode cX10_passes 4 = .ok (.if_icmp .ge 120, 3) := by decide +kernel
theorem dX10_passes_7 : decode cX10_passes 7 = .ok (.iconst 0, 1) := by decide +kernel
theorem dX10_passes_8 : decode cX10_passes 8 = .ok (.istore_n 3, 1) := by decide +kernel
theorem dX10_passes_9 : decode cX10_passes 9 = .ok (.iload_n 3, 1) := by decide +kernel
theorem dX10_passes_10 : decode cX10_passes 10 = .ok (.aload_n 0, 1) := by decide +kernel
theorem dX10_passes_11 : decode cX10_passes 11 = .ok (.getfield 156, 3) := by decide +kernel
theorem dX10_passes_14 : decode cX10_passes 14 = .ok (.if_icmp .ge 94, 3) := by decide +kernel
theorem dX10_passes_17 : decode cX10_passes 17 = .ok (.aload_n 0, 1) := by decide +kernel
theorem dX10_passes_18 : decode cX10_passes 18 = .ok (.getfield 47, 3) := by decide +kernel
theorem dX10_passes_21 : decode cX10_passes 21 = .ok (.bipush 7, 2) := by decide +kernel
theorem dX10_passes_23 : decode cX10_passes 23 = .ok (.iload_n 3, 1) := by decide +kernel
theorem dX10_passes_24 : decode cX10_passes 24 = .ok (.iadd, 1) := by decide +kernel
theorem dX10_passes_25 : decode cX10_passes 25 = .ok (.iaload, 1) := by decide +kernel
theorem dX10_passes_26 : decode cX10_passes 26 = .ok (.ifCond .ne 7, 3) := by decide +kernel
theorem dX10_passes_29 : decode cX10_passes 29 = .ok (.iconst 1, 1) := by decide +kernel
theorem dX10_passes_30 : decode cX10_passes 30 = .ok (.goto 4, 3) := by decide +kernel
theorem dX10_passes_33 : decode cX10_passes 33 = .ok (.iconst 0, 1) := by decide +kernel
theorem dX10_passes_34 : decode cX10_passes 34 = .ok (.istore 4, 2) := by decide +kernel
theorem dX10_passes_36 : decode cX10_passes 36 = .ok (.aload_n 0, 1) := by decide +kernel
theorem dX10_passes_37 : decode cX10_passes 37 = .ok (.getfield 47, 3) := by decide +kernel
theorem dX10_passes_40 : decode cX10_passes 40 = .ok (.bipush 19, 2) := by decide +kernel
theorem dX10_passes_42 : decode cX10_passes 42 = .ok (.iload_n 3, 1) := by decide +kernel
theorem dX10_passes_43 : decode cX10_passes 43 = .ok (.iadd, 1) := by decide +kernel
theorem dX10_passes_44 : decode cX10_passes 44 = .ok (.dup2, 1) := by decide +kernel
theorem dX10_passes_45 : decode cX10_passes 45 = .ok (.iaload, 1) := by decide +kernel
theorem dX10_passes_46 : decode cX10_passes 46 = .ok (.iload 4, 2) := by decide +kernel
theorem dX10_passes_48 : decode cX10_passes 48 = .ok (.ifCond .eq 7, 3) := by decide +kernel
theorem dX10_passes_51 : decode cX10_passes 51 = .ok (.iconst 1, 1) := by decide +kernel
theorem dX10_passes_52 : decode cX10_passes 52 = .ok (.goto 4, 3) := by decide +kernel
theorem dX10_passes_55 : decode cX10_passes 55 = .ok (.iconst 0, 1) := by decide +kernel
theorem dX10_passes_56 : decode cX10_passes 56 = .ok (.iadd, 1) := by decide +kernel
theorem dX10_passes_57 : decode cX10_passes 57 = .ok (.iastore, 1) := by decide +kernel
theorem dX10_passes_58 : decode cX10_passes 58 = .ok (.aload_n 0, 1) := by decide +kernel
theorem dX10_passes_59 : decode cX10_passes 59 = .ok (.getfield 47, 3) := by decide +kernel
theorem dX10_passes_62 : decode cX10_passes 62 = .ok (.bipush 7, 2) := by decide +kernel
theorem dX10_passes_64 : decode cX10_passes 64 = .ok (.iload_n 3, 1) := by decide +kernel
theorem dX10_passes_65 : decode cX10_passes 65 = .ok (.iadd, 1) := by decide +kernel
theorem dX10_passes_66 : decode cX10_passes 66 = .ok (.iload 4, 2) := by decide +kernel
theorem dX10_passes_68 : decode cX10_passes 68 = .ok (.ifCond .eq 24, 3) := by decide +kernel
theorem dX10_passes_71 : decode cX10_passes 71 = .ok (.aload_n 0, 1) := by decide +kernel
theorem dX10_passes_72 : decode cX10_passes 72 = .ok (.getfield 47, 3) := by decide +kernel
theorem dX10_passes_75 : decode cX10_passes 75 = .ok (.bipush 19, 2) := by decide +kernel
theorem dX10_passes_77 : decode cX10_passes 77 = .ok (.iload_n 3, 1) := by decide +kernel
theorem dX10_passes_78 : decode cX10_passes 78 = .ok (.iadd, 1) := by decide +kernel
theorem dX10_passes_79 : decode cX10_passes 79 = .ok (.iaload, 1) := by decide +kernel
theorem dX10_passes_80 : decode cX10_passes 80 = .ok (.aload_n 0, 1) := by decide +kernel
theorem dX10_passes_81 : decode cX10_passes 81 = .ok (.iload_n 3, 1) := by decide +kernel
theorem dX10_passes_82 : decode cX10_passes 82 = .ok (.invokevirtual 206, 3) := by decide +kernel
theorem dX10_passes_85 : decode cX10_passes 85 = .ok (.if_icmp .le 7, 3) := by decide +kernel
theorem dX10_passes_88 : decode cX10_passes 88 = .ok (.iconst 3, 1) := by decide +kernel
theorem dX10_passes_89 : decode cX10_passes 89 = .ok (.goto 12, 3) := by decide +kernel
theorem dX10_passes_92 : decode cX10_passes 92 = .ok (.aload_n 0, 1) := by decide +kernel
theorem dX10_passes_93 : decode cX10_passes 93 = .ok (.getfield 47, 3) := by decide +kernel
theorem dX10_passes_96 : decode cX10_passes 96 = .ok (.bipush 7, 2) := by decide +kernel
theorem dX10_passes_98 : decode cX10_passes 98 = .ok (.iload_n 3, 1) := by decide +kernel
theorem dX10_passes_99 : decode cX10_passes 99 = .ok (.iadd, 1) := by decide +kernel
theorem dX10_passes_100 : decode cX10_passes 100 = .ok (.iaload, 1) := by decide +kernel
theorem dX10_passes_101 : decode cX10_passes 101 = .ok (.iastore, 1) := by decide +kernel
theorem dX10_passes_102 : decode cX10_passes 102 = .ok (.iinc 3 1, 3) := by decide +kernel
theorem dX10_passes_105 : decode cX10_passes 105 = .ok (.goto (-96), 3) := by decide +kernel
theorem dX10_passes_108 : decode cX10_passes 108 = .ok (.aload_n 0, 1) := by decide +kernel
theorem dX10_passes_109 : decode cX10_passes 109 = .ok (.getfield 47, 3) := by decide +kernel
theorem dX10_passes_112 : decode cX10_passes 112 = .ok (.iconst 0, 1) := by decide +kernel
theorem dX10_passes_113 : decode cX10_passes 113 = .ok (.dup2, 1) := by decide +kernel
theorem dX10_passes_114 : decode cX10_passes 114 = .ok (.iaload, 1) := by decide +kernel
theorem dX10_passes_115 : decode cX10_passes 115 = .ok (.iconst 1, 1) := by decide +kernel
theorem dX10_passes_116 : decode cX10_passes 116 = .ok (.iadd, 1) := by decide +kernel
theorem dX10_passes_117 : decode cX10_passes 117 = .ok (.iastore, 1) := by decide +kernel
theorem dX10_passes_118 : decode cX10_passes 118 = .ok (.iinc 2 1, 3) := by decide +kernel
theorem dX10_passes_121 : decode cX10_passes 121 = .ok (.goto (-119), 3) := by decide +kernel
theorem dX10_passes_124 : decode cX10_passes 124 = .ok (.return_, 1) := by decide +kernel
theorem dX10_seats_0 : decode cX10_seats 0 = .ok (.aload_n 0, 1) := by decide +kernel
theorem dX10_seats_1 : decode cX10_seats 1 = .ok (.getfield 47, 3) := by decide +kernel
theorem dX10_seats_4 : decode cX10_seats 4 = .ok (.bipush 7, 2) := by decide +kernel
theorem dX10_seats_6 : decode cX10_seats 6 = .ok (.iload_n 1, 1) := by decide +kernel
theorem dX10_seats_7 : decode cX10_seats 7 = .ok (.iadd, 1) := by decide +kernel
theorem dX10_seats_8 : decode cX10_seats 8 = .ok (.iconst 1, 1) := by decide +kernel
theorem dX10_seats_9 : decode cX10_seats 9 = .ok (.iastore, 1) := by decide +kernel
theorem dX10_seats_10 : decode cX10_seats 10 = .ok (.aload_n 0, 1) := by decide +kernel
theorem dX10_seats_11 : decode cX10_seats 11 = .ok (.getfield 47, 3) := by decide +kernel
theorem dX10_seats_14 : decode cX10_seats 14 = .ok (.iconst 4, 1) := by decide +kernel
theorem dX10_seats_15 : decode cX10_seats 15 = .ok (.iload_n 1, 1) := by decide +kernel
theorem dX10_seats_16 : decode cX10_seats 16 = .ok (.iastore, 1) := by decide +kernel
theorem dX10_seats_17 : decode cX10_seats 17 = .ok (.aload_n 0, 1) := by decide +kernel
theorem dX10_seats_18 : decode cX10_seats 18 = .ok (.getfield 47, 3) := by decide +kernel
theorem dX10_seats_21 : decode cX10_seats 21 = .ok (.iconst 5, 1) := by decide +kernel
theorem dX10_seats_22 : decode cX10_seats 22 = .ok (.iconst 0, 1) := by decide +kernel
theorem dX10_seats_23 : decode cX10_seats 23 = .ok (.iastore, 1) := by decide +kernel
theorem dX10_seats_24 : decode cX10_seats 24 = .ok (.aload_n 0, 1) := by decide +kernel
theorem dX10_seats_25 : decode cX10_seats 25 = .ok (.getfield 47, 3) := by decide +kernel
theorem dX10_seats_28 : decode cX10_seats 28 = .ok (.bipush 6, 2) := by decide +kernel
theorem dX10_seats_30 : decode cX10_seats 30 = .ok (.iconst (-1), 1) := by decide +kernel
theorem dX10_seats_31 : decode cX10_seats 31 = .ok (.iastore, 1) := by decide +kernel
theorem dX10_seats_32 : decode cX10_seats 32 = .ok (.return_, 1) := by decide +kernel
theorem dX10_seat_0 : decode cX10_seat 0 = .ok (.aload_n 0, 1) := by decide +kernel
theorem dX10_seat_1 : decode cX10_seat 1 = .ok (.iload_n 1, 1) := by decide +kernel
theorem dX10_seat_2 : decode cX10_seat 2 = .ok (.invokevirtual 203, 3) := by decide +kernel
theorem dX10_seat_5 : decode cX10_seat 5 = .ok (.ifCond .ne 6, 3) := by decide +kernel
theorem dX10_seat_8 : decode cX10_seat 8 = .ok (.ldc 193, 2) := by decide +kernel
theorem dX10_seat_10 : decode cX10_seat 10 = .ok (.ireturn, 1) := by decide +kernel
theorem dX10_seat_11 : decode cX10_seat 11 = .ok (.aload_n 0, 1) := by decide +kernel
theorem dX10_seat_12 : decode cX10_seat 12 = .ok (.getfield 47, 3) := by decide +kernel
theorem dX10_seat_15 : decode cX10_seat 15 = .ok (.iconst 4, 1) := by decide +kernel
theorem dX10_seat_16 : decode cX10_seat 16 = .ok (.iaload, 1) := by decide +kernel
theorem dX10_seat_17 : decode cX10_seat 17 = .ok (.iconst (-1), 1) := by decide +kernel
theorem dX10_seat_18 : decode cX10_seat 18 = .ok (.if_icmp .ne 15, 3) := by decide +kernel
theorem dX10_seat_21 : decode cX10_seat 21 = .ok (.aload_n 0, 1) := by decide +kernel
theorem dX10_seat_22 : decode cX10_seat 22 = .ok (.getfield 47, 3) := by decide +kernel
theorem dX10_seat_25 : decode cX10_seat 25 = .ok (.bipush 7, 2) := by decide +kernel
theorem dX10_seat_27 : decode cX10_seat 27 = .ok (.iload_n 1, 1) := by decide +kernel
theorem dX10_seat_28 : decode cX10_seat 28 = .ok (.iadd, 1) := by decide +kernel
theorem dX10_seat_29 : decode cX10_seat 29 = .ok (.iaload, 1) := by decide +kernel
theorem dX10_seat_30 : decode cX10_seat 30 = .ok (.ifCond .eq 6, 3) := by decide +kernel
theorem dX10_seat_33 : decode cX10_seat 33 = .ok (.ldc 215, 2) := by decide +kernel
theorem dX10_seat_35 : decode cX10_seat 35 = .ok (.ireturn, 1) := by decide +kernel
theorem dX10_seat_36 : decode cX10_seat 36 = .ok (.aload_n 0, 1) := by decide +kernel
theorem dX10_seat_37 : decode cX10_seat 37 = .ok (.invokevirtual 216, 3) := by decide +kernel
theorem dX10_seat_40 : decode cX10_seat 40 = .ok (.aload_n 0, 1) := by decide +kernel
theorem dX10_seat_41 : decode cX10_seat 41 = .ok (.iload_n 1, 1) := by decide +kernel
theorem dX10_seat_42 : decode cX10_seat 42 = .ok (.invokevirtual 219, 3) := by decide +kernel
theorem dX10_seat_45 : decode cX10_seat 45 = .ok (.aload_n 0, 1) := by decide +kernel
theorem dX10_seat_46 : decode cX10_seat 46 = .ok (.getfield 47, 3) := by decide +kernel
theorem dX10_seat_49 : decode cX10_seat 49 = .ok (.bipush 19, 2) := by decide +kernel
theorem dX10_seat_51 : decode cX10_seat 51 = .ok (.iload_n 1, 1) := by decide +kernel
theorem dX10_seat_52 : decode cX10_seat 52 = .ok (.iadd, 1) := by decide +kernel
theorem dX10_seat_53 : decode cX10_seat 53 = .ok (.iaload, 1) := by decide +kernel
theorem dX10_seat_54 : decode cX10_seat 54 = .ok (.ireturn, 1) := by decide +kernel
theorem dX10_payFor_0 : decode cX10_payFor 0 = .ok (.iload_n 1, 1) := by decide +kernel
theorem dX10_payFor_1 : decode cX10_payFor 1 = .ok (.aload_n 0, 1) := by decide +kernel
theorem dX10_payFor_2 : decode cX10_payFor 2 = .ok (.getfield 147, 3) := by decide +kernel
theorem dX10_payFor_5 : decode cX10_payFor 5 = .ok (.idiv, 1) := by decide +kernel
theorem dX10_payFor_6 : decode cX10_payFor 6 = .ok (.aload_n 0, 1) := by decide +kernel
theorem dX10_payFor_7 : decode cX10_payFor 7 = .ok (.getfield 150, 3) := by decide +kernel
theorem dX10_payFor_10 : decode cX10_payFor 10 = .ok (.imul, 1) := by decide +kernel
theorem dX10_payFor_11 : decode cX10_payFor 11 = .ok (.ireturn, 1) := by decide +kernel
theorem dX10_rises_0 : decode cX10_rises 0 = .ok (.aload_n 0, 1) := by decide +kernel
theorem dX10_rises_1 : decode cX10_rises 1 = .ok (.getfield 47, 3) := by decide +kernel
theorem dX10_rises_4 : decode cX10_rises 4 = .ok (.iconst 4, 1) := by decide +kernel
theorem dX10_rises_5 : decode cX10_rises 5 = .ok (.iaload, 1) := by decide +kernel
theorem dX10_rises_6 : decode cX10_rises 6 = .ok (.istore_n 1, 1) := by decide +kernel
theorem dX10_rises_7 : decode cX10_rises 7 = .ok (.aload_n 0, 1) := by decide +kernel
theorem dX10_rises_8 : decode cX10_rises 8 = .ok (.aload_n 0, 1) := by decide +kernel
theorem dX10_rises_9 : decode cX10_rises 9 = .ok (.getfield 47, 3) := by decide +kernel
theorem dX10_rises_12 : decode cX10_rises 12 = .ok (.bipush 13, 2) := by decide +kernel
theorem dX10_rises_14 : decode cX10_rises 14 = .ok (.iload_n 1, 1) := by decide +kernel
theorem dX10_rises_15 : decode cX10_rises 15 = .ok (.iadd, 1) := by decide +kernel
theorem dX10_rises_16 : decode cX10_rises 16 = .ok (.iaload, 1) := by decide +kernel
theorem dX10_rises_17 : decode cX10_rises 17 = .ok (.invokevirtual 223, 3) := by decide +kernel
theorem dX10_rises_20 : decode cX10_rises 20 = .ok (.istore_n 2, 1) := by decide +kernel
theorem dX10_rises_21 : decode cX10_rises 21 = .ok (.aload_n 0, 1) := by decide +kernel
theorem dX10_rises_22 : decode cX10_rises 22 = .ok (.getfield 47, 3) := by decide +kernel
theorem dX10_rises_25 : decode cX10_rises 25 = .ok (.iconst 2, 1) := by decide +kernel
theorem dX10_rises_26 : decode cX10_rises 26 = .ok (.aload_n 0, 1) := by decide +kernel
theorem dX10_rises_27 : decode cX10_rises 27 = .ok (.getfield 47, 3) := by decide +kernel
theorem dX10_rises_30 : decode cX10_rises 30 = .ok (.iconst 2, 1) := by decide +kernel
theorem dX10_rises_31 : decode cX10_rises 31 = .ok (.iaload, 1) := by decide +kernel
theorem dX10_rises_32 : decode cX10_rises 32 = .ok (.iload_n 2, 1) := by decide +kernel
theorem dX10_rises_33 : decode cX10_rises 33 = .ok (.iadd, 1) := by decide +kernel
theorem dX10_rises_34 : decode cX10_rises 34 = .ok (.ldc 226, 2) := by decide +kernel
theorem dX10_rises_36 : decode cX10_rises 36 = .ok (.if_icmp .le 8, 3) := by decide +kernel
theorem dX10_rises_39 : decode cX10_rises 39 = .ok (.ldc 226, 2) := by decide +kernel
theorem dX10_rises_41 : decode cX10_rises 41 = .ok (.goto 11, 3) := by decide +kernel
theorem dX10_rises_44 : decode cX10_rises 44 = .ok (.aload_n 0, 1) := by decide +kernel
theorem dX10_rises_45 : decode cX10_rises 45 = .ok (.getfield 47, 3) := by decide +kernel
theorem dX10_rises_48 : decode cX10_rises 48 = .ok (.iconst 2, 1) := by decide +kernel
theorem dX10_rises_49 : decode cX10_rises 49 = .ok (.iaload, 1) := by decide +kernel
theorem dX10_rises_50 : decode cX10_rises 50 = .ok (.iload_n 2, 1) := by decide +kernel
theorem dX10_rises_51 : decode cX10_rises 51 = .ok (.iadd, 1) := by decide +kernel
theorem dX10_rises_52 : decode cX10_rises 52 = .ok (.iastore, 1) := by decide +kernel
theorem dX10_rises_53 : decode cX10_rises 53 = .ok (.aload_n 0, 1) := by decide +kernel
theorem dX10_rises_54 : decode cX10_rises 54 = .ok (.getfield 47, 3) := by decide +kernel
theorem dX10_rises_57 : decode cX10_rises 57 = .ok (.bipush 7, 2) := by decide +kernel
theorem dX10_rises_59 : decode cX10_rises 59 = .ok (.iload_n 1, 1) := by decide +kernel
theorem dX10_rises_60 : decode cX10_rises 60 = .ok (.iadd, 1) := by decide +kernel
theorem dX10_rises_61 : decode cX10_rises 61 = .ok (.iconst 2, 1) := by decide +kernel
theorem dX10_rises_62 : decode cX10_rises 62 = .ok (.iastore, 1) := by decide +kernel
theorem dX10_rises_63 : decode cX10_rises 63 = .ok (.aload_n 0, 1) := by decide +kernel
theorem dX10_rises_64 : decode cX10_rises 64 = .ok (.getfield 47, 3) := by decide +kernel
theorem dX10_rises_67 : decode cX10_rises 67 = .ok (.iconst 4, 1) := by decide +kernel
theorem dX10_rises_68 : decode cX10_rises 68 = .ok (.iconst (-1), 1) := by decide +kernel
theorem dX10_rises_69 : decode cX10_rises 69 = .ok (.iastore, 1) := by decide +kernel
theorem dX10_rises_70 : decode cX10_rises 70 = .ok (.aload_n 0, 1) := by decide +kernel
theorem dX10_rises_71 : decode cX10_rises 71 = .ok (.getfield 47, 3) := by decide +kernel
theorem dX10_rises_74 : decode cX10_rises 74 = .ok (.iconst 5, 1) := by decide +kernel
theorem dX10_rises_75 : decode cX10_rises 75 = .ok (.iconst 0, 1) := by decide +kernel
theorem dX10_rises_76 : decode cX10_rises 76 = .ok (.iastore, 1) := by decide +kernel
theorem dX10_rises_77 : decode cX10_rises 77 = .ok (.aload_n 0, 1) := by decide +kernel
theorem dX10_rises_78 : decode cX10_rises 78 = .ok (.getfield 47, 3) := by decide +kernel
theorem dX10_rises_81 : decode cX10_rises 81 = .ok (.bipush 6, 2) := by decide +kernel
theorem dX10_rises_83 : decode cX10_rises 83 = .ok (.iconst (-1), 1) := by decide +kernel
theorem dX10_rises_84 : decode cX10_rises 84 = .ok (.iastore, 1) := by decide +kernel
theorem dX10_rises_85 : decode cX10_rises 85 = .ok (.aload_n 0, 1) := by decide +kernel
theorem dX10_rises_86 : decode cX10_rises 86 = .ok (.getfield 44, 3) := by decide +kernel
theorem dX10_rises_89 : decode cX10_rises 89 = .ok (.iload_n 1, 1) := by decide +kernel
theorem dX10_rises_90 : decode cX10_rises 90 = .ok (.iaload, 1) := by decide +kernel
theorem dX10_rises_91 : decode cX10_rises 91 = .ok (.aload_n 0, 1) := by decide +kernel
theorem dX10_rises_92 : decode cX10_rises 92 = .ok (.getfield 47, 3) := by decide +kernel
theorem dX10_rises_95 : decode cX10_rises 95 = .ok (.iconst 3, 1) := by decide +kernel
theorem dX10_rises_96 : decode cX10_rises 96 = .ok (.iaload, 1) := by decide +kernel
theorem dX10_rises_97 : decode cX10_rises 97 = .ok (.iconst (-1), 1) := by decide +kernel
theorem dX10_rises_98 : decode cX10_rises 98 = .ok (.ixor, 1) := by decide +kernel
theorem dX10_rises_99 : decode cX10_rises 99 = .ok (.iand, 1) := by decide +kernel
theorem dX10_rises_100 : decode cX10_rises 100 = .ok (.istore_n 3, 1) := by decide +kernel
theorem dX10_rises_101 : decode cX10_rises 101 = .ok (.aload_n 0, 1) := by decide +kernel
theorem dX10_rises_102 : decode cX10_rises 102 = .ok (.getfield 47, 3) := by decide +kernel
theorem dX10_rises_105 : decode cX10_rises 105 = .ok (.iconst 3, 1) := by decide +kernel
theorem dX10_rises_106 : decode cX10_rises 106 = .ok (.dup2, 1) := by decide +kernel
theorem dX10_rises_107 : decode cX10_rises 107 = .ok (.iaload, 1) := by decide +kernel
theorem dX10_rises_108 : decode cX10_rises 108 = .ok (.aload_n 0, 1) := by decide +kernel
theorem dX10_rises_109 : decode cX10_rises 109 = .ok (.getfield 38, 3) := by decide +kernel
theorem dX10_rises_112 : decode cX10_rises 112 = .ok (.iload_n 1, 1) := by decide +kernel
theorem dX10_rises_113 : decode cX10_rises 113 = .ok (.iaload, 1) := by decide +kernel
theorem dX10_rises_114 : decode cX10_rises 114 = .ok (.iconst 3, 1) := by decide +kernel
theorem dX10_rises_115 : decode cX10_rises 115 = .ok (.if_icmp .ne 10, 3) := by decide +kernel
theorem dX10_rises_118 : decode cX10_rises 118 = .ok (.iload_n 3, 1) := by decide +kernel
theorem dX10_rises_119 : decode cX10_rises 119 = .ok (.iload_n 3, 1) := by decide +kernel
theorem dX10_rises_120 : decode cX10_rises 120 = .ok (.ineg, 1) := by decide +kernel
theorem dX10_rises_121 : decode cX10_rises 121 = .ok (.iand, 1) := by decide +kernel
theorem dX10_rises_122 : decode cX10_rises 122 = .ok (.goto 4, 3) := by decide +kernel
theorem dX10_rises_125 : decode cX10_rises 125 = .ok (.iconst 0, 1) := by decide +kernel
theorem dX10_rises_126 : decode cX10_rises 126 = .ok (.ior, 1) := by decide +kernel
theorem dX10_rises_127 : decode cX10_rises 127 = .ok (.iastore, 1) := by decide +kernel
theorem dX10_rises_128 : decode cX10_rises 128 = .ok (.iload_n 2, 1) := by decide +kernel
theorem dX10_rises_129 : decode cX10_rises 129 = .ok (.ireturn, 1) := by decide +kernel
theorem dX10_tells_0 : decode cX10_tells 0 = .ok (.aload_n 0, 1) := by decide +kernel
theorem dX10_tells_1 : decode cX10_tells 1 = .ok (.getfield 47, 3) := by decide +kernel
theorem dX10_tells_4 : decode cX10_tells 4 = .ok (.iconst 4, 1) := by decide +kernel
theorem dX10_tells_5 : decode cX10_tells 5 = .ok (.iaload, 1) := by decide +kernel
theorem dX10_tells_6 : decode cX10_tells 6 = .ok (.istore_n 2, 1) := by decide +kernel
theorem dX10_tells_7 : decode cX10_tells 7 = .ok (.aload_n 0, 1) := by decide +kernel
theorem dX10_tells_8 : decode cX10_tells 8 = .ok (.getfield 47, 3) := by decide +kernel
theorem dX10_tells_11 : decode cX10_tells 11 = .ok (.bipush 6, 2) := by decide +kernel
theorem dX10_tells_13 : decode cX10_tells 13 = .ok (.iaload, 1) := by decide +kernel
theorem dX10_tells_14 : decode cX10_tells 14 = .ok (.iconst (-1), 1) := by decide +kernel
theorem dX10_tells_15 : decode cX10_tells 15 = .ok (.if_icmp .eq 29, 3) := by decide +kernel
theorem dX10_tells_18 : decode cX10_tells 18 = .ok (.aload_n 0, 1) := by decide +kernel
theorem dX10_tells_19 : decode cX10_tells 19 = .ok (.getfield 35, 3) := by decide +kernel
theorem dX10_tells_22 : decode cX10_tells 22 = .ok (.aload_n 0, 1) := by decide +kernel
theorem dX10_tells_23 : decode cX10_tells 23 = .ok (.getfield 47, 3) := by decide +kernel
theorem dX10_tells_26 : decode cX10_tells 26 = .ok (.bipush 6, 2) := by decide +kernel
theorem dX10_tells_28 : decode cX10_tells 28 = .ok (.iaload, 1) := by decide +kernel
theorem dX10_tells_29 : decode cX10_tells 29 = .ok (.iaload, 1) := by decide +kernel
theorem dX10_tells_30 : decode cX10_tells 30 = .ok (.iload_n 1, 1) := by decide +kernel
theorem dX10_tells_31 : decode cX10_tells 31 = .ok (.invokestatic 168, 3) := by decide +kernel
theorem dX10_tells_34 : decode cX10_tells 34 = .ok (.ifCond .ne 10, 3) := by decide +kernel
theorem dX10_tells_37 : decode cX10_tells 37 = .ok (.aload_n 0, 1) := by decide +kernel
theorem dX10_tells_38 : decode cX10_tells 38 = .ok (.invokevirtual 227, 3) := by decide +kernel
theorem dX10_tells_41 : decode cX10_tells 41 = .ok (.pop, 1) := by decide +kernel
theorem dX10_tells_42 : decode cX10_tells 42 = .ok (.iconst (-1), 1) := by decide +kernel
