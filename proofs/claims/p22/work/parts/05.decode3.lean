theorem dX10_tells_43 : decode cX10_tells 43 = .ok (.ireturn, 1) := by decide +kernel
theorem dX10_tells_44 : decode cX10_tells 44 = .ok (.aload_n 0, 1) := by decide +kernel
theorem dX10_tells_45 : decode cX10_tells 45 = .ok (.iload_n 2, 1) := by decide +kernel
theorem dX10_tells_46 : decode cX10_tells 46 = .ok (.iload_n 1, 1) := by decide +kernel
theorem dX10_tells_47 : decode cX10_tells 47 = .ok (.invokevirtual 200, 3) := by decide +kernel
theorem dX10_tells_50 : decode cX10_tells 50 = .ok (.istore_n 3, 1) := by decide +kernel
theorem dX10_tells_51 : decode cX10_tells 51 = .ok (.aload_n 0, 1) := by decide +kernel
theorem dX10_tells_52 : decode cX10_tells 52 = .ok (.getfield 47, 3) := by decide +kernel
theorem dX10_tells_55 : decode cX10_tells 55 = .ok (.iconst 5, 1) := by decide +kernel
theorem dX10_tells_56 : decode cX10_tells 56 = .ok (.dup2, 1) := by decide +kernel
theorem dX10_tells_57 : decode cX10_tells 57 = .ok (.iaload, 1) := by decide +kernel
theorem dX10_tells_58 : decode cX10_tells 58 = .ok (.iconst 1, 1) := by decide +kernel
theorem dX10_tells_59 : decode cX10_tells 59 = .ok (.iload_n 1, 1) := by decide +kernel
theorem dX10_tells_60 : decode cX10_tells 60 = .ok (.ishl, 1) := by decide +kernel
theorem dX10_tells_61 : decode cX10_tells 61 = .ok (.ior, 1) := by decide +kernel
theorem dX10_tells_62 : decode cX10_tells 62 = .ok (.iastore, 1) := by decide +kernel
theorem dX10_tells_63 : decode cX10_tells 63 = .ok (.aload_n 0, 1) := by decide +kernel
theorem dX10_tells_64 : decode cX10_tells 64 = .ok (.getfield 47, 3) := by decide +kernel
theorem dX10_tells_67 : decode cX10_tells 67 = .ok (.bipush 6, 2) := by decide +kernel
theorem dX10_tells_69 : decode cX10_tells 69 = .ok (.iload_n 1, 1) := by decide +kernel
theorem dX10_tells_70 : decode cX10_tells 70 = .ok (.iastore, 1) := by decide +kernel
theorem dX10_tells_71 : decode cX10_tells 71 = .ok (.aload_n 0, 1) := by decide +kernel
theorem dX10_tells_72 : decode cX10_tells 72 = .ok (.getfield 47, 3) := by decide +kernel
theorem dX10_tells_75 : decode cX10_tells 75 = .ok (.bipush 13, 2) := by decide +kernel
theorem dX10_tells_77 : decode cX10_tells 77 = .ok (.iload_n 2, 1) := by decide +kernel
theorem dX10_tells_78 : decode cX10_tells 78 = .ok (.iadd, 1) := by decide +kernel
theorem dX10_tells_79 : decode cX10_tells 79 = .ok (.dup2, 1) := by decide +kernel
theorem dX10_tells_80 : decode cX10_tells 80 = .ok (.iaload, 1) := by decide +kernel
theorem dX10_tells_81 : decode cX10_tells 81 = .ok (.iload_n 3, 1) := by decide +kernel
theorem dX10_tells_82 : decode cX10_tells 82 = .ok (.iadd, 1) := by decide +kernel
theorem dX10_tells_83 : decode cX10_tells 83 = .ok (.iastore, 1) := by decide +kernel
theorem dX10_tells_84 : decode cX10_tells 84 = .ok (.aload_n 0, 1) := by decide +kernel
theorem dX10_tells_85 : decode cX10_tells 85 = .ok (.iload_n 3, 1) := by decide +kernel
theorem dX10_tells_86 : decode cX10_tells 86 = .ok (.invokevirtual 230, 3) := by decide +kernel
theorem dX10_tells_89 : decode cX10_tells 89 = .ok (.iload_n 3, 1) := by decide +kernel
theorem dX10_tells_90 : decode cX10_tells 90 = .ok (.ireturn, 1) := by decide +kernel
theorem dX10_isTellable_0 : decode cX10_isTellable 0 = .ok (.aload_n 0, 1) := by decide +kernel
theorem dX10_isTellable_1 : decode cX10_isTellable 1 = .ok (.getfield 47, 3) := by decide +kernel
theorem dX10_isTellable_4 : decode cX10_isTellable 4 = .ok (.iconst 4, 1) := by decide +kernel
theorem dX10_isTellable_5 : decode cX10_isTellable 5 = .ok (.iaload, 1) := by decide +kernel
theorem dX10_isTellable_6 : decode cX10_isTellable 6 = .ok (.iconst (-1), 1) := by decide +kernel
theorem dX10_isTellable_7 : decode cX10_isTellable 7 = .ok (.if_icmp .eq 33, 3) := by decide +kernel
theorem dX10_isTellable_10 : decode cX10_isTellable 10 = .ok (.aload_n 0, 1) := by decide +kernel
theorem dX10_isTellable_11 : decode cX10_isTellable 11 = .ok (.getfield 47, 3) := by decide +kernel
theorem dX10_isTellable_14 : decode cX10_isTellable 14 = .ok (.iconst 3, 1) := by decide +kernel
theorem dX10_isTellable_15 : decode cX10_isTellable 15 = .ok (.iaload, 1) := by decide +kernel
theorem dX10_isTellable_16 : decode cX10_isTellable 16 = .ok (.iload_n 1, 1) := by decide +kernel
theorem dX10_isTellable_17 : decode cX10_isTellable 17 = .ok (.invokestatic 168, 3) := by decide +kernel
theorem dX10_isTellable_20 : decode cX10_isTellable 20 = .ok (.ifCond .eq 20, 3) := by decide +kernel
theorem dX10_isTellable_23 : decode cX10_isTellable 23 = .ok (.aload_n 0, 1) := by decide +kernel
theorem dX10_isTellable_24 : decode cX10_isTellable 24 = .ok (.getfield 47, 3) := by decide +kernel
theorem dX10_isTellable_27 : decode cX10_isTellable 27 = .ok (.iconst 5, 1) := by decide +kernel
theorem dX10_isTellable_28 : decode cX10_isTellable 28 = .ok (.iaload, 1) := by decide +kernel
theorem dX10_isTellable_29 : decode cX10_isTellable 29 = .ok (.iload_n 1, 1) := by decide +kernel
theorem dX10_isTellable_30 : decode cX10_isTellable 30 = .ok (.invokestatic 168, 3) := by decide +kernel
theorem dX10_isTellable_33 : decode cX10_isTellable 33 = .ok (.ifCond .ne 7, 3) := by decide +kernel
theorem dX10_isTellable_36 : decode cX10_isTellable 36 = .ok (.iconst 1, 1) := by decide +kernel
theorem dX10_isTellable_37 : decode cX10_isTellable 37 = .ok (.goto 4, 3) := by decide +kernel
theorem dX10_isTellable_40 : decode cX10_isTellable 40 = .ok (.iconst 0, 1) := by decide +kernel
theorem dX10_isTellable_41 : decode cX10_isTellable 41 = .ok (.ireturn, 1) := by decide +kernel
theorem dX10_tell_0 : decode cX10_tell 0 = .ok (.aload_n 0, 1) := by decide +kernel
theorem dX10_tell_1 : decode cX10_tell 1 = .ok (.iload_n 1, 1) := by decide +kernel
theorem dX10_tell_2 : decode cX10_tell 2 = .ok (.invokevirtual 190, 3) := by decide +kernel
theorem dX10_tell_5 : decode cX10_tell 5 = .ok (.ifCond .ne 6, 3) := by decide +kernel
theorem dX10_tell_8 : decode cX10_tell 8 = .ok (.ldc 193, 2) := by decide +kernel
theorem dX10_tell_10 : decode cX10_tell 10 = .ok (.ireturn, 1) := by decide +kernel
theorem dX10_tell_11 : decode cX10_tell 11 = .ok (.aload_n 0, 1) := by decide +kernel
theorem dX10_tell_12 : decode cX10_tell 12 = .ok (.iload_n 1, 1) := by decide +kernel
theorem dX10_tell_13 : decode cX10_tell 13 = .ok (.invokevirtual 233, 3) := by decide +kernel
theorem dX10_tell_16 : decode cX10_tell 16 = .ok (.ifCond .ne 6, 3) := by decide +kernel
theorem dX10_tell_19 : decode cX10_tell 19 = .ok (.ldc 215, 2) := by decide +kernel
theorem dX10_tell_21 : decode cX10_tell 21 = .ok (.ireturn, 1) := by decide +kernel
theorem dX10_tell_22 : decode cX10_tell 22 = .ok (.aload_n 0, 1) := by decide +kernel
theorem dX10_tell_23 : decode cX10_tell 23 = .ok (.invokevirtual 216, 3) := by decide +kernel
theorem dX10_tell_26 : decode cX10_tell 26 = .ok (.aload_n 0, 1) := by decide +kernel
theorem dX10_tell_27 : decode cX10_tell 27 = .ok (.iload_n 1, 1) := by decide +kernel
theorem dX10_tell_28 : decode cX10_tell 28 = .ok (.invokevirtual 236, 3) := by decide +kernel
theorem dX10_tell_31 : decode cX10_tell 31 = .ok (.ireturn, 1) := by decide +kernel
theorem dX10_rise_0 : decode cX10_rise 0 = .ok (.aload_n 0, 1) := by decide +kernel
theorem dX10_rise_1 : decode cX10_rise 1 = .ok (.getfield 47, 3) := by decide +kernel
theorem dX10_rise_4 : decode cX10_rise 4 = .ok (.iconst 4, 1) := by decide +kernel
theorem dX10_rise_5 : decode cX10_rise 5 = .ok (.iaload, 1) := by decide +kernel
theorem dX10_rise_6 : decode cX10_rise 6 = .ok (.iconst (-1), 1) := by decide +kernel
theorem dX10_rise_7 : decode cX10_rise 7 = .ok (.if_icmp .ne 6, 3) := by decide +kernel
theorem dX10_rise_10 : decode cX10_rise 10 = .ok (.ldc 215, 2) := by decide +kernel
theorem dX10_rise_12 : decode cX10_rise 12 = .ok (.ireturn, 1) := by decide +kernel
theorem dX10_rise_13 : decode cX10_rise 13 = .ok (.aload_n 0, 1) := by decide +kernel
theorem dX10_rise_14 : decode cX10_rise 14 = .ok (.invokevirtual 216, 3) := by decide +kernel
theorem dX10_rise_17 : decode cX10_rise 17 = .ok (.aload_n 0, 1) := by decide +kernel
theorem dX10_rise_18 : decode cX10_rise 18 = .ok (.invokevirtual 227, 3) := by decide +kernel
theorem dX10_rise_21 : decode cX10_rise 21 = .ok (.ireturn, 1) := by decide +kernel
theorem dX10_learn_0 : decode cX10_learn 0 = .ok (.aload_n 0, 1) := by decide +kernel
theorem dX10_learn_1 : decode cX10_learn 1 = .ok (.iload_n 1, 1) := by decide +kernel
theorem dX10_learn_2 : decode cX10_learn 2 = .ok (.invokevirtual 190, 3) := by decide +kernel
theorem dX10_learn_5 : decode cX10_learn 5 = .ok (.ifCond .ne 6, 3) := by decide +kernel
theorem dX10_learn_8 : decode cX10_learn 8 = .ok (.ldc 193, 2) := by decide +kernel
theorem dX10_learn_10 : decode cX10_learn 10 = .ok (.ireturn, 1) := by decide +kernel
theorem dX10_learn_11 : decode cX10_learn 11 = .ok (.aload_n 0, 1) := by decide +kernel
theorem dX10_learn_12 : decode cX10_learn 12 = .ok (.getfield 47, 3) := by decide +kernel
theorem dX10_learn_15 : decode cX10_learn 15 = .ok (.iconst 3, 1) := by decide +kernel
theorem dX10_learn_16 : decode cX10_learn 16 = .ok (.iaload, 1) := by decide +kernel
theorem dX10_learn_17 : decode cX10_learn 17 = .ok (.iload_n 1, 1) := by decide +kernel
theorem dX10_learn_18 : decode cX10_learn 18 = .ok (.invokestatic 168, 3) := by decide +kernel
theorem dX10_learn_21 : decode cX10_learn 21 = .ok (.ifCond .eq 6, 3) := by decide +kernel
theorem dX10_learn_24 : decode cX10_learn 24 = .ok (.ldc 215, 2) := by decide +kernel
theorem dX10_learn_26 : decode cX10_learn 26 = .ok (.ireturn, 1) := by decide +kernel
theorem dX10_learn_27 : decode cX10_learn 27 = .ok (.aload_n 0, 1) := by decide +kernel
theorem dX10_learn_28 : decode cX10_learn 28 = .ok (.invokevirtual 216, 3) := by decide +kernel
theorem dX10_learn_31 : decode cX10_learn 31 = .ok (.aload_n 0, 1) := by decide +kernel
theorem dX10_learn_32 : decode cX10_learn 32 = .ok (.getfield 47, 3) := by decide +kernel
theorem dX10_learn_35 : decode cX10_learn 35 = .ok (.iconst 3, 1) := by decide +kernel
theorem dX10_learn_36 : decode cX10_learn 36 = .ok (.dup2, 1) := by decide +kernel
theorem dX10_learn_37 : decode cX10_learn 37 = .ok (.iaload, 1) := by decide +kernel
theorem dX10_learn_38 : decode cX10_learn 38 = .ok (.iconst 1, 1) := by decide +kernel
theorem dX10_learn_39 : decode cX10_learn 39 = .ok (.iload_n 1, 1) := by decide +kernel
theorem dX10_learn_40 : decode cX10_learn 40 = .ok (.ishl, 1) := by decide +kernel
theorem dX10_learn_41 : decode cX10_learn 41 = .ok (.ior, 1) := by decide +kernel
theorem dX10_learn_42 : decode cX10_learn 42 = .ok (.iastore, 1) := by decide +kernel
theorem dX10_learn_43 : decode cX10_learn 43 = .ok (.aload_n 0, 1) := by decide +kernel
theorem dX10_learn_44 : decode cX10_learn 44 = .ok (.bipush 60, 2) := by decide +kernel
theorem dX10_learn_46 : decode cX10_learn 46 = .ok (.invokevirtual 230, 3) := by decide +kernel
theorem dX10_learn_49 : decode cX10_learn 49 = .ok (.aload_n 0, 1) := by decide +kernel
theorem dX10_learn_50 : decode cX10_learn 50 = .ok (.getfield 47, 3) := by decide +kernel
theorem dX10_learn_53 : decode cX10_learn 53 = .ok (.iconst 3, 1) := by decide +kernel
theorem dX10_learn_54 : decode cX10_learn 54 = .ok (.iaload, 1) := by decide +kernel
theorem dX10_learn_55 : decode cX10_learn 55 = .ok (.invokestatic 172, 3) := by decide +kernel
theorem dX10_learn_58 : decode cX10_learn 58 = .ok (.ireturn, 1) := by decide +kernel
theorem dX10_minute_0 : decode cX10_minute 0 = .ok (.iload_n 1, 1) := by decide +kernel
theorem dX10_minute_1 : decode cX10_minute 1 = .ok (.iconst 1, 1) := by decide +kernel
theorem dX10_minute_2 : decode cX10_minute 2 = .ok (.bipush 60, 2) := by decide +kernel
theorem dX10_minute_4 : decode cX10_minute 4 = .ok (.invokestatic 82, 3) := by decide +kernel
theorem dX10_minute_7 : decode cX10_minute 7 = .ok (.ifCond .ne 6, 3) := by decide +kernel
theorem dX10_minute_10 : decode cX10_minute 10 = .ok (.ldc 86, 2) := by decide +kernel
theorem dX10_minute_12 : decode cX10_minute 12 = .ok (.ireturn, 1) := by decide +kernel
theorem dX10_minute_13 : decode cX10_minute 13 = .ok (.aload_n 0, 1) := by decide +kernel
theorem dX10_minute_14 : decode cX10_minute 14 = .ok (.invokevirtual 239, 3) := by decide +kernel
theorem dX10_minute_17 : decode cX10_minute 17 = .ok (.ifCond .ne 6, 3) := by decide +kernel
theorem dX10_minute_20 : decode cX10_minute 20 = .ok (.ldc 215, 2) := by decide +kernel
theorem dX10_minute_22 : decode cX10_minute 22 = .ok (.ireturn, 1) := by decide +kernel
theorem dX10_minute_23 : decode cX10_minute 23 = .ok (.aload_n 0, 1) := by decide +kernel
theorem dX10_minute_24 : decode cX10_minute 24 = .ok (.getfield 47, 3) := by decide +kernel
theorem dX10_minute_27 : decode cX10_minute 27 = .ok (.iconst 0, 1) := by decide +kernel
theorem dX10_minute_28 : decode cX10_minute 28 = .ok (.iaload, 1) := by decide +kernel
theorem dX10_minute_29 : decode cX10_minute 29 = .ok (.ldc 242, 2) := by decide +kernel
theorem dX10_minute_31 : decode cX10_minute 31 = .ok (.if_icmp .le 6, 3) := by decide +kernel
theorem dX10_minute_34 : decode cX10_minute 34 = .ok (.ldc 90, 2) := by decide +kernel
theorem dX10_minute_36 : decode cX10_minute 36 = .ok (.ireturn, 1) := by decide +kernel
theorem dX10_minute_37 : decode cX10_minute 37 = .ok (.aload_n 0, 1) := by decide +kernel
theorem dX10_minute_38 : decode cX10_minute 38 = .ok (.invokevirtual 216, 3) := by decide +kernel
theorem dX10_minute_41 : decode cX10_minute 41 = .ok (.aload_n 0, 1) := by decide +kernel
theorem dX10_minute_42 : decode cX10_minute 42 = .ok (.iload_n 1, 1) := by decide +kernel
theorem dX10_minute_43 : decode cX10_minute 43 = .ok (.invokevirtual 230, 3) := by decide +kernel
theorem dX10_minute_46 : decode cX10_minute 46 = .ok (.aload_n 0, 1) := by decide +kernel
theorem dX10_minute_47 : decode cX10_minute 47 = .ok (.getfield 47, 3) := by decide +kernel
theorem dX10_minute_50 : decode cX10_minute 50 = .ok (.iconst 0, 1) := by decide +kernel
theorem dX10_minute_51 : decode cX10_minute 51 = .ok (.iaload, 1) := by decide +kernel
theorem dX10_minute_52 : decode cX10_minute 52 = .ok (.ireturn, 1) := by decide +kernel
theorem dX10_anew_0 : decode cX10_anew 0 = .ok (.aload_n 0, 1) := by decide +kernel
theorem dX10_anew_1 : decode cX10_anew 1 = .ok (.invokevirtual 239, 3) := by decide +kernel
theorem dX10_anew_4 : decode cX10_anew 4 = .ok (.ifCond .ne 6, 3) := by decide +kernel
theorem dX10_anew_7 : decode cX10_anew 7 = .ok (.ldc 215, 2) := by decide +kernel
theorem dX10_anew_9 : decode cX10_anew 9 = .ok (.ireturn, 1) := by decide +kernel
theorem dX10_anew_10 : decode cX10_anew 10 = .ok (.aload_n 0, 1) := by decide +kernel
theorem dX10_anew_11 : decode cX10_anew 11 = .ok (.getfield 47, 3) := by decide +kernel
theorem dX10_anew_14 : decode cX10_anew 14 = .ok (.iconst 1, 1) := by decide +kernel
theorem dX10_anew_15 : decode cX10_anew 15 = .ok (.iaload, 1) := by decide +kernel
theorem dX10_anew_16 : decode cX10_anew 16 = .ok (.sipush 9000, 3) := by decide +kernel
theorem dX10_anew_19 : decode cX10_anew 19 = .ok (.if_icmp .ne 6, 3) := by decide +kernel
theorem dX10_anew_22 : decode cX10_anew 22 = .ok (.ldc 90, 2) := by decide +kernel
theorem dX10_anew_24 : decode cX10_anew 24 = .ok (.ireturn, 1) := by decide +kernel
theorem dX10_anew_25 : decode cX10_anew 25 = .ok (.aload_n 0, 1) := by decide +kernel
theorem dX10_anew_26 : decode cX10_anew 26 = .ok (.invokevirtual 216, 3) := by decide +kernel
theorem dX10_anew_29 : decode cX10_anew 29 = .ok (.iconst 0, 1) := by decide +kernel
theorem dX10_anew_30 : decode cX10_anew 30 = .ok (.istore_n 1, 1) := by decide +kernel
theorem dX10_anew_31 : decode cX10_anew 31 = .ok (.iload_n 1, 1) := by decide +kernel
theorem dX10_anew_32 : decode cX10_anew 32 = .ok (.aload_n 0, 1) := by decide +kernel
theorem dX10_anew_33 : decode cX10_anew 33 = .ok (.getfield 156, 3) := by decide +kernel
theorem dX10_anew_36 : decode cX10_anew 36 = .ok (.if_icmp .ge 39, 3) := by decide +kernel
theorem dX10_anew_39 : decode cX10_anew 39 = .ok (.aload_n 0, 1) := by decide +kernel
theorem dX10_anew_40 : decode cX10_anew 40 = .ok (.getfield 47, 3) := by decide +kernel
theorem dX10_anew_43 : decode cX10_anew 43 = .ok (.bipush 7, 2) := by decide +kernel
theorem dX10_anew_45 : decode cX10_anew 45 = .ok (.iload_n 1, 1) := by decide +kernel
theorem dX10_anew_46 : decode cX10_anew 46 = .ok (.iadd, 1) := by decide +kernel
theorem dX10_anew_47 : decode cX10_anew 47 = .ok (.iconst 0, 1) := by decide +kernel
theorem dX10_anew_48 : decode cX10_anew 48 = .ok (.iastore, 1) := by decide +kernel
theorem dX10_anew_49 : decode cX10_anew 49 = .ok (.aload_n 0, 1) := by decide +kernel
theorem dX10_anew_50 : decode cX10_anew 50 = .ok (.getfield 47, 3) := by decide +kernel
theorem dX10_anew_53 : decode cX10_anew 53 = .ok (.bipush 13, 2) := by decide +kernel
theorem dX10_anew_55 : decode cX10_anew 55 = .ok (.iload_n 1, 1) := by decide +kernel
theorem dX10_anew_56 : decode cX10_anew 56 = .ok (.iadd, 1) := by decide +kernel
theorem dX10_anew_57 : decode cX10_anew 57 = .ok (.iconst 0, 1) := by decide +kernel
theorem dX10_anew_58 : decode cX10_anew 58 = .ok (.iastore, 1) := by decide +kernel
theorem dX10_anew_59 : decode cX10_anew 59 = .ok (.aload_n 0, 1) := by decide +kernel
theorem dX10_anew_60 : decode cX10_anew 60 = .ok (.getfield 47, 3) := by decide +kernel
theorem dX10_anew_63 : decode cX10_anew 63 = .ok (.bipush 19, 2) := by decide +kernel
theorem dX10_anew_65 : decode cX10_anew 65 = .ok (.iload_n 1, 1) := by decide +kernel
theorem dX10_anew_66 : decode cX10_anew 66 = .ok (.iadd, 1) := by decide +kernel
theorem dX10_anew_67 : decode cX10_anew 67 = .ok (.iconst 0, 1) := by decide +kernel
theorem dX10_anew_68 : decode cX10_anew 68 = .ok (.iastore, 1) := by decide +kernel
theorem dX10_anew_69 : decode cX10_anew 69 = .ok (.iinc 1 1, 3) := by decide +kernel
theorem dX10_anew_72 : decode cX10_anew 72 = .ok (.goto (-41), 3) := by decide +kernel
theorem dX10_anew_75 : decode cX10_anew 75 = .ok (.aload_n 0, 1) := by decide +kernel
theorem dX10_anew_76 : decode cX10_anew 76 = .ok (.getfield 47, 3) := by decide +kernel
theorem dX10_anew_79 : decode cX10_anew 79 = .ok (.iconst 4, 1) := by decide +kernel
theorem dX10_anew_80 : decode cX10_anew 80 = .ok (.iconst (-1), 1) := by decide +kernel
theorem dX10_anew_81 : decode cX10_anew 81 = .ok (.iastore, 1) := by decide +kernel
theorem dX10_anew_82 : decode cX10_anew 82 = .ok (.aload_n 0, 1) := by decide +kernel
theorem dX10_anew_83 : decode cX10_anew 83 = .ok (.getfield 47, 3) := by decide +kernel
theorem dX10_anew_86 : decode cX10_anew 86 = .ok (.iconst 5, 1) := by decide +kernel
theorem dX10_anew_87 : decode cX10_anew 87 = .ok (.iconst 0, 1) := by decide +kernel
theorem dX10_anew_88 : decode cX10_anew 88 = .ok (.iastore, 1) := by decide +kernel
theorem dX10_anew_89 : decode cX10_anew 89 = .ok (.aload_n 0, 1) := by decide +kernel
theorem dX10_anew_90 : decode cX10_anew 90 = .ok (.getfield 47, 3) := by decide +kernel
theorem dX10_anew_93 : decode cX10_anew 93 = .ok (.bipush 6, 2) := by decide +kernel
theorem dX10_anew_95 : decode cX10_anew 95 = .ok (.iconst (-1), 1) := by decide +kernel
theorem dX10_anew_96 : decode cX10_anew 96 = .ok (.iastore, 1) := by decide +kernel
theorem dX10_anew_97 : decode cX10_anew 97 = .ok (.aload_n 0, 1) := by decide +kernel
theorem dX10_anew_98 : decode cX10_anew 98 = .ok (.getfield 47, 3) := by decide +kernel
theorem dX10_anew_101 : decode cX10_anew 101 = .ok (.iconst 1, 1) := by decide +kernel
theorem dX10_anew_102 : decode cX10_anew 102 = .ok (.dup2, 1) := by decide +kernel
theorem dX10_anew_103 : decode cX10_anew 103 = .ok (.iaload, 1) := by decide +kernel
theorem dX10_anew_104 : decode cX10_anew 104 = .ok (.iconst 1, 1) := by decide +kernel
theorem dX10_anew_105 : decode cX10_anew 105 = .ok (.iadd, 1) := by decide +kernel
theorem dX10_anew_106 : decode cX10_anew 106 = .ok (.iastore, 1) := by decide +kernel
theorem dX10_anew_107 : decode cX10_anew 107 = .ok (.aload_n 0, 1) := by decide +kernel
theorem dX10_anew_108 : decode cX10_anew 108 = .ok (.getfield 47, 3) := by decide +kernel
theorem dX10_anew_111 : decode cX10_anew 111 = .ok (.iconst 1, 1) := by decide +kernel
theorem dX10_anew_112 : decode cX10_anew 112 = .ok (.iaload, 1) := by decide +kernel
theorem dX10_anew_113 : decode cX10_anew 113 = .ok (.ireturn, 1) := by decide +kernel
theorem dX10_draw_0 : decode cX10_draw 0 = .ok (.aload_n 0, 1) := by decide +kernel
theorem dX10_draw_1 : decode cX10_draw 1 = .ok (.aload_n 0, 1) := by decide +kernel
theorem dX10_draw_2 : decode cX10_draw 2 = .ok (.getfield 243, 3) := by decide +kernel
theorem dX10_draw_5 : decode cX10_draw 5 = .ok (.ldc2_w 247, 3) := by decide +kernel
theorem dX10_draw_8 : decode cX10_draw 8 = .ok (.lmul, 1) := by decide +kernel
theorem dX10_draw_9 : decode cX10_draw 9 = .ok (.ldc2_w 249, 3) := by decide +kernel
theorem dX10_draw_12 : decode cX10_draw 12 = .ok (.ladd, 1) := by decide +kernel
theorem dX10_draw_13 : decode cX10_draw 13 = .ok (.ldc2_w 251, 3) := by decide +kernel
theorem dX10_draw_16 : decode cX10_draw 16 = .ok (.lrem, 1) := by decide +kernel
theorem dX10_draw_17 : decode cX10_draw 17 = .ok (.putfield 243, 3) := by decide +kernel
theorem dX10_draw_20 : decode cX10_draw 20 = .ok (.aload_n 0, 1) := by decide +kernel
theorem dX10_draw_21 : decode cX10_draw 21 = .ok (.getfield 243, 3) := by decide +kernel
theorem dX10_draw_24 : decode cX10_draw 24 = .ok (.ldc2_w 253, 3) := by decide +kernel
theorem dX10_draw_27 : decode cX10_draw 27 = .ok (.ldiv, 1) := by decide +kernel
theorem dX10_draw_28 : decode cX10_draw 28 = .ok (.iload_n 1, 1) := by decide +kernel
theorem dX10_draw_29 : decode cX10_draw 29 = .ok (.i2l, 1) := by decide +kernel
theorem dX10_draw_30 : decode cX10_draw 30 = .ok (.lrem, 1) := by decide +kernel
theorem dX10_draw_31 : decode cX10_draw 31 = .ok (.l2i, 1) := by decide +kernel
theorem dX10_draw_32 : decode cX10_draw 32 = .ok (.ireturn, 1) := by decide +kernel
theorem dX10_draws_0 : decode cX10_draws 0 = .ok (.aload_n 0, 1) := by decide +kernel
theorem dX10_draws_1 : decode cX10_draws 1 = .ok (.getfield 47, 3) := by decide +kernel
theorem dX10_draws_4 : decode cX10_draws 4 = .ok (.iconst 4, 1) := by decide +kernel
theorem dX10_draws_5 : decode cX10_draws 5 = .ok (.iaload, 1) := by decide +kernel
theorem dX10_draws_6 : decode cX10_draws 6 = .ok (.iconst (-1), 1) := by decide +kernel
theorem dX10_draws_7 : decode cX10_draws 7 = .ok (.if_icmp .ne 48, 3) := by decide +kernel
theorem dX10_draws_10 : decode cX10_draws 10 = .ok (.aload_n 0, 1) := by decide +kernel
theorem dX10_draws_11 : decode cX10_draws 11 = .ok (.getfield 156, 3) := by decide +kernel
theorem dX10_draws_14 : decode cX10_draws 14 = .ok (.ifCond .le 14, 3) := by decide +kernel
theorem dX10_draws_17 : decode cX10_draws 17 = .ok (.aload_n 0, 1) := by decide +kernel
theorem dX10_draws_18 : decode cX10_draws 18 = .ok (.aload_n 0, 1) := by decide +kernel
theorem dX10_draws_19 : decode cX10_draws 19 = .ok (.getfield 156, 3) := by decide +kernel
theorem dX10_draws_22 : decode cX10_draws 22 = .ok (.invokevirtual 255, 3) := by decide +kernel
theorem dX10_draws_25 : decode cX10_draws 25 = .ok (.goto 4, 3) := by decide +kernel
theorem dX10_draws_28 : decode cX10_draws 28 = .ok (.iconst (-1), 1) := by decide +kernel
theorem dX10_draws_29 : decode cX10_draws 29 = .ok (.istore_n 1, 1) := by decide +kernel
theorem dX10_draws_30 : decode cX10_draws 30 = .ok (.iload_n 1, 1) := by decide +kernel
theorem dX10_draws_31 : decode cX10_draws 31 = .ok (.iconst (-1), 1) := by decide +kernel
theorem dX10_draws_32 : decode cX10_draws 32 = .ok (.if_icmp .eq 20, 3) := by decide +kernel
theorem dX10_draws_35 : decode cX10_draws 35 = .ok (.aload_n 0, 1) := by decide +kernel
theorem dX10_draws_36 : decode cX10_draws 36 = .ok (.getfield 47, 3) := by decide +kernel
theorem dX10_draws_39 : decode cX10_draws 39 = .ok (.bipush 7, 2) := by decide +kernel
theorem dX10_draws_41 : decode cX10_draws 41 = .ok (.iload_n 1, 1) := by decide +kernel
theorem dX10_draws_42 : decode cX10_draws 42 = .ok (.iadd, 1) := by decide +kernel
theorem dX10_draws_43 : decode cX10_draws 43 = .ok (.iaload, 1) := by decide +kernel
theorem dX10_draws_44 : decode cX10_draws 44 = .ok (.ifCond .ne 8, 3) := by decide +kernel
theorem dX10_draws_47 : decode cX10_draws 47 = .ok (.aload_n 0, 1) := by decide +kernel
theorem dX10_draws_48 : decode cX10_draws 48 = .ok (.iload_n 1, 1) := by decide +kernel
theorem dX10_draws_49 : decode cX10_draws 49 = .ok (.invokevirtual 219, 3) := by decide +kernel
theorem dX10_draws_52 : decode cX10_draws 52 = .ok (.goto 49, 3) := by decide +kernel
theorem dX10_draws_55 : decode cX10_draws 55 = .ok (.aload_n 0, 1) := by decide +kernel
theorem dX10_draws_56 : decode cX10_draws 56 = .ok (.iconst 4, 1) := by decide +kernel
theorem dX10_draws_57 : decode cX10_draws 57 = .ok (.invokevirtual 255, 3) := by decide +kernel
theorem dX10_draws_60 : decode cX10_draws 60 = .ok (.ifCond .ne 11, 3) := by decide +kernel
theorem dX10_draws_63 : decode cX10_draws 63 = .ok (.aload_n 0, 1) := by decide +kernel
theorem dX10_draws_64 : decode cX10_draws 64 = .ok (.invokevirtual 227, 3) := by decide +kernel
theorem dX10_draws_67 : decode cX10_draws 67 = .ok (.pop, 1) := by decide +kernel
theorem dX10_draws_68 : decode cX10_draws 68 = .ok (.goto 33, 3) := by decide +kernel
theorem dX10_draws_71 : decode cX10_draws 71 = .ok (.aload_n 0, 1) := by decide +kernel
theorem dX10_draws_72 : decode cX10_draws 72 = .ok (.getfield 153, 3) := by decide +kernel
theorem dX10_draws_75 : decode cX10_draws 75 = .ok (.ifCond .le 26, 3) := by decide +kernel
theorem dX10_draws_78 : decode cX10_draws 78 = .ok (.aload_n 0, 1) := by decide +kernel
theorem dX10_draws_79 : decode cX10_draws 79 = .ok (.aload_n 0, 1) := by decide +kernel
theorem dX10_draws_80 : decode cX10_draws 80 = .ok (.getfield 153, 3) := by decide +kernel
theorem dX10_draws_83 : decode cX10_draws 83 = .ok (.invokevirtual 255, 3) := by decide +kernel
theorem dX10_draws_86 : decode cX10_draws 86 = .ok (.istore_n 1, 1) := by decide +kernel
theorem dX10_draws_87 : decode cX10_draws 87 = .ok (.aload_n 0, 1) := by decide +kernel
theorem dX10_draws_88 : decode cX10_draws 88 = .ok (.iload_n 1, 1) := by decide +kernel
theorem dX10_draws_89 : decode cX10_draws 89 = .ok (.invokevirtual 233, 3) := by decide +kernel
theorem dX10_draws_92 : decode cX10_draws 92 = .ok (.ifCond .eq 9, 3) := by decide +kernel
theorem dX10_draws_95 : decode cX10_draws 95 = .ok (.aload_n 0, 1) := by decide +kernel
theorem dX10_draws_96 : decode cX10_draws 96 = .ok (.iload_n 1, 1) := by decide +kernel
theorem dX10_draws_97 : decode cX10_draws 97 = .ok (.invokevirtual 236, 3) := by decide +kernel
theorem dX10_draws_100 : decode cX10_draws 100 = .ok (.pop, 1) := by decide +kernel
theorem dX10_draws_101 : decode cX10_draws 101 = .ok (.return_, 1) := by decide +kernel
theorem dX10_drift_0 : decode cX10_drift 0 = .ok (.iload_n 1, 1) := by decide +kernel
theorem dX10_drift_1 : decode cX10_drift 1 = .ok (.iconst 1, 1) := by decide +kernel
theorem dX10_drift_2 : decode cX10_drift 2 = .ok (.bipush 30, 2) := by decide +kernel
theorem dX10_drift_4 : decode cX10_drift 4 = .ok (.invokestatic 82, 3) := by decide +kernel
theorem dX10_drift_7 : decode cX10_drift 7 = .ok (.ifCond .ne 6, 3) := by decide +kernel
theorem dX10_drift_10 : decode cX10_drift 10 = .ok (.ldc 86, 2) := by decide +kernel
theorem dX10_drift_12 : decode cX10_drift 12 = .ok (.ireturn, 1) := by decide +kernel
theorem dX10_drift_13 : decode cX10_drift 13 = .ok (.aload_n 0, 1) := by decide +kernel
theorem dX10_drift_14 : decode cX10_drift 14 = .ok (.invokevirtual 239, 3) := by decide +kernel
theorem dX10_drift_17 : decode cX10_drift 17 = .ok (.ifCond .ne 6, 3) := by decide +kernel
theorem dX10_drift_20 : decode cX10_drift 20 = .ok (.ldc 215, 2) := by decide +kernel
theorem dX10_drift_22 : decode cX10_drift 22 = .ok (.ireturn, 1) := by decide +kernel
theorem dX10_drift_23 : decode cX10_drift 23 = .ok (.aload_n 0, 1) := by decide +kernel
theorem dX10_drift_24 : decode cX10_drift 24 = .ok (.getfield 47, 3) := by decide +kernel
theorem dX10_drift_27 : decode cX10_drift 27 = .ok (.iconst 0, 1) := by decide +kernel
theorem dX10_drift_28 : decode cX10_drift 28 = .ok (.iaload, 1) := by decide +kernel
theorem dX10_drift_29 : decode cX10_drift 29 = .ok (.ldc 242, 2) := by decide +kernel
theorem dX10_drift_31 : decode cX10_drift 31 = .ok (.if_icmp .le 6, 3) := by decide +kernel
theorem dX10_drift_34 : decode cX10_drift 34 = .ok (.ldc 90, 2) := by decide +kernel
theorem dX10_drift_36 : decode cX10_drift 36 = .ok (.ireturn, 1) := by decide +kernel
theorem dX10_drift_37 : decode cX10_drift 37 = .ok (.iconst 0, 1) := by decide +kernel
theorem dX10_drift_38 : decode cX10_drift 38 = .ok (.istore_n 2, 1) := by decide +kernel
theorem dX10_drift_39 : decode cX10_drift 39 = .ok (.iload_n 2, 1) := by decide +kernel
theorem dX10_drift_40 : decode cX10_drift 40 = .ok (.iload_n 1, 1) := by decide +kernel
theorem dX10_drift_41 : decode cX10_drift 41 = .ok (.if_icmp .ge 22, 3) := by decide +kernel
theorem dX10_drift_44 : decode cX10_drift 44 = .ok (.aload_n 0, 1) := by decide +kernel
theorem dX10_drift_45 : decode cX10_drift 45 = .ok (.invokevirtual 216, 3) := by decide +kernel
theorem dX10_drift_48 : decode cX10_drift 48 = .ok (.aload_n 0, 1) := by decide +kernel
theorem dX10_drift_49 : decode cX10_drift 49 = .ok (.invokevirtual 258, 3) := by decide +kernel
theorem dX10_drift_52 : decode cX10_drift 52 = .ok (.aload_n 0, 1) := by decide +kernel
theorem dX10_drift_53 : decode cX10_drift 53 = .ok (.iconst 1, 1) := by decide +kernel
theorem dX10_drift_54 : decode cX10_drift 54 = .ok (.invokevirtual 230, 3) := by decide +kernel
theorem dX10_drift_57 : decode cX10_drift 57 = .ok (.iinc 2 1, 3) := by decide +kernel
theorem dX10_drift_60 : decode cX10_drift 60 = .ok (.goto (-21), 3) := by decide +kernel
theorem dX10_drift_63 : decode cX10_drift 63 = .ok (.aload_n 0, 1) := by decide +kernel
theorem dX10_drift_64 : decode cX10_drift 64 = .ok (.getfield 47, 3) := by decide +kernel
theorem dX10_drift_67 : decode cX10_drift 67 = .ok (.iconst 0, 1) := by decide +kernel
theorem dX10_drift_68 : decode cX10_drift 68 = .ok (.iaload, 1) := by decide +kernel
theorem dX10_drift_69 : decode cX10_drift 69 = .ok (.ireturn, 1) := by decide +kernel
theorem dX10_undo_0 : decode cX10_undo 0 = .ok (.iload_n 1, 1) := by decide +kernel
theorem dX10_undo_1 : decode cX10_undo 1 = .ok (.iconst 1, 1) := by decide +kernel
theorem dX10_undo_2 : decode cX10_undo 2 = .ok (.bipush 30, 2) := by decide +kernel
theorem dX10_undo_4 : decode cX10_undo 4 = .ok (.invokestatic 82, 3) := by decide +kernel
theorem dX10_undo_7 : decode cX10_undo 7 = .ok (.ifCond .ne 6, 3) := by decide +kernel
theorem dX10_undo_10 : decode cX10_undo 10 = .ok (.ldc 86, 2) := by decide +kernel
theorem dX10_undo_12 : decode cX10_undo 12 = .ok (.ireturn, 1) := by decide +kernel
theorem dX10_undo_13 : decode cX10_undo 13 = .ok (.iload_n 1, 1) := by decide +kernel
theorem dX10_undo_14 : decode cX10_undo 14 = .ok (.aload_n 0, 1) := by decide +kernel
theorem dX10_undo_15 : decode cX10_undo 15 = .ok (.getfield 159, 3) := by decide +kernel
theorem dX10_undo_18 : decode cX10_undo 18 = .ok (.if_icmp .le 6, 3) := by decide +kernel
theorem dX10_undo_21 : decode cX10_undo 21 = .ok (.ldc 215, 2) := by decide +kernel
theorem dX10_undo_23 : decode cX10_undo 23 = .ok (.ireturn, 1) := by decide +kernel
theorem dX10_undo_24 : decode cX10_undo 24 = .ok (.aload_n 0, 1) := by decide +kernel
theorem dX10_undo_25 : decode cX10_undo 25 = .ok (.aload_n 0, 1) := by decide +kernel
theorem dX10_undo_26 : decode cX10_undo 26 = .ok (.getfield 212, 3) := by decide +kernel
theorem dX10_undo_29 : decode cX10_undo 29 = .ok (.bipush 30, 2) := by decide +kernel
theorem dX10_undo_31 : decode cX10_undo 31 = .ok (.iadd, 1) := by decide +kernel
theorem dX10_undo_32 : decode cX10_undo 32 = .ok (.iload_n 1, 1) := by decide +kernel
theorem dX10_undo_33 : decode cX10_undo 33 = .ok (.isub, 1) := by decide +kernel
theorem dX10_undo_34 : decode cX10_undo 34 = .ok (.bipush 30, 2) := by decide +kernel
theorem dX10_undo_36 : decode cX10_undo 36 = .ok (.irem, 1) := by decide +kernel
theorem dX10_undo_37 : decode cX10_undo 37 = .ok (.putfield 212, 3) := by decide +kernel
theorem dX10_undo_40 : decode cX10_undo 40 = .ok (.aload_n 0, 1) := by decide +kernel
theorem dX10_undo_41 : decode cX10_undo 41 = .ok (.dup, 1) := by decide +kernel
theorem dX10_undo_42 : decode cX10_undo 42 = .ok (.getfield 159, 3) := by decide +kernel
theorem dX10_undo_45 : decode cX10_undo 45 = .ok (.iload_n 1, 1) := by decide +kernel
theorem dX10_undo_46 : decode cX10_undo 46 = .ok (.isub, 1) := by decide +kernel
theorem dX10_undo_47 : decode cX10_undo 47 = .ok (.putfield 159, 3) := by decide +kernel
theorem dX10_undo_50 : decode cX10_undo 50 = .ok (.iconst 0, 1) := by decide +kernel
theorem dX10_undo_51 : decode cX10_undo 51 = .ok (.istore_n 2, 1) := by decide +kernel
theorem dX10_undo_52 : decode cX10_undo 52 = .ok (.iload_n 2, 1) := by decide +kernel
theorem dX10_undo_53 : decode cX10_undo 53 = .ok (.bipush 25, 2) := by decide +kernel
theorem dX10_undo_55 : decode cX10_undo 55 = .ok (.if_icmp .ge 29, 3) := by decide +kernel
theorem dX10_undo_58 : decode cX10_undo 58 = .ok (.aload_n 0, 1) := by decide +kernel
theorem dX10_undo_59 : decode cX10_undo 59 = .ok (.getfield 47, 3) := by decide +kernel
theorem dX10_undo_62 : decode cX10_undo 62 = .ok (.iload_n 2, 1) := by decide +kernel
theorem dX10_undo_63 : decode cX10_undo 63 = .ok (.aload_n 0, 1) := by decide +kernel
theorem dX10_undo_64 : decode cX10_undo 64 = .ok (.getfield 50, 3) := by decide +kernel
theorem dX10_undo_67 : decode cX10_undo 67 = .ok (.bipush 25, 2) := by decide +kernel
theorem dX10_undo_69 : decode cX10_undo 69 = .ok (.aload_n 0, 1) := by decide +kernel
theorem dX10_undo_70 : decode cX10_undo 70 = .ok (.getfield 212, 3) := by decide +kernel
theorem dX10_undo_73 : decode cX10_undo 73 = .ok (.imul, 1) := by decide +kernel
theorem dX10_undo_74 : decode cX10_undo 74 = .ok (.iload_n 2, 1) := by decide +kernel
theorem dX10_undo_75 : decode cX10_undo 75 = .ok (.iadd, 1) := by decide +kernel
theorem dX10_undo_76 : decode cX10_undo 76 = .ok (.iaload, 1) := by decide +kernel
theorem dX10_undo_77 : decode cX10_undo 77 = .ok (.iastore, 1) := by decide +kernel
theorem dX10_undo_78 : decode cX10_undo 78 = .ok (.iinc 2 1, 3) := by decide +kernel
theorem dX10_undo_81 : decode cX10_undo 81 = .ok (.goto (-29), 3) := by decide +kernel
theorem dX10_undo_84 : decode cX10_undo 84 = .ok (.aload_n 0, 1) := by decide +kernel
theorem dX10_undo_85 : decode cX10_undo 85 = .ok (.getfield 47, 3) := by decide +kernel
theorem dX10_undo_88 : decode cX10_undo 88 = .ok (.iconst 0, 1) := by decide +kernel
theorem dX10_undo_89 : decode cX10_undo 89 = .ok (.iaload, 1) := by decide +kernel
theorem dX10_undo_90 : decode cX10_undo 90 = .ok (.ireturn, 1) := by decide +kernel
theorem dX10_stay_0 : decode cX10_stay 0 = .ok (.aload_n 0, 1) := by decide +kernel
theorem dX10_stay_1 : decode cX10_stay 1 = .ok (.iload_n 1, 1) := by decide +kernel
theorem dX10_stay_2 : decode cX10_stay 2 = .ok (.invokevirtual 203, 3) := by decide +kernel
theorem dX10_stay_5 : decode cX10_stay 5 = .ok (.ifCond .eq 20, 3) := by decide +kernel
theorem dX10_stay_8 : decode cX10_stay 8 = .ok (.aload_n 0, 1) := by decide +kernel
theorem dX10_stay_9 : decode cX10_stay 9 = .ok (.iload_n 2, 1) := by decide +kernel
theorem dX10_stay_10 : decode cX10_stay 10 = .ok (.invokevirtual 190, 3) := by decide +kernel
theorem dX10_stay_13 : decode cX10_stay 13 = .ok (.ifCond .eq 12, 3) := by decide +kernel
theorem dX10_stay_16 : decode cX10_stay 16 = .ok (.aload_n 0, 1) := by decide +kernel
theorem dX10_stay_17 : decode cX10_stay 17 = .ok (.iload_n 1, 1) := by decide +kernel
theorem dX10_stay_18 : decode cX10_stay 18 = .ok (.iload_n 2, 1) := by decide +kernel
theorem dX10_stay_19 : decode cX10_stay 19 = .ok (.invokevirtual 200, 3) := by decide +kernel
theorem dX10_stay_22 : decode cX10_stay 22 = .ok (.goto 5, 3) := by decide +kernel
theorem dX10_stay_25 : decode cX10_stay 25 = .ok (.ldc 193, 2) := by decide +kernel
theorem dX10_stay_27 : decode cX10_stay 27 = .ok (.ireturn, 1) := by decide +kernel
theorem dX10_layTalks_0 : decode cX10_layTalks 0 = .ok (.iconst 0, 1) := by decide +kernel
theorem dX10_layTalks_1 : decode cX10_layTalks 1 = .ok (.istore_n 2, 1) := by decide +kernel
theorem dX10_layTalks_2 : decode cX10_layTalks 2 = .ok (.iload_n 2, 1) := by decide +kernel
theorem dX10_layTalks_3 : decode cX10_layTalks 3 = .ok (.sipush 2048, 3) := by decide +kernel
theorem dX10_layTalks_6 : decode cX10_layTalks 6 = .ok (.if_icmp .ge 16, 3) := by decide +kernel
theorem dX10_layTalks_9 : decode cX10_layTalks 9 = .ok (.aload_n 0, 1) := by decide +kernel
theorem dX10_layTalks_10 : decode cX10_layTalks 10 = .ok (.getfield 53, 3) := by decide +kernel
theorem dX10_layTalks_13 : decode cX10_layTalks 13 = .ok (.iload_n 2, 1) := by decide +kernel
theorem dX10_layTalks_14 : decode cX10_layTalks 14 = .ok (.iconst 0, 1) := by decide +kernel
theorem dX10_layTalks_15 : decode cX10_layTalks 15 = .ok (.iastore, 1) := by decide +kernel
theorem dX10_layTalks_16 : decode cX10_layTalks 16 = .ok (.iinc 2 1, 3) := by decide +kernel
theorem dX10_layTalks_19 : decode cX10_layTalks 19 = .ok (.goto (-17), 3) := by decide +kernel
theorem dX10_layTalks_22 : decode cX10_layTalks 22 = .ok (.iconst 1, 1) := by decide +kernel
theorem dX10_layTalks_23 : decode cX10_layTalks 23 = .ok (.istore_n 2, 1) := by decide +kernel
theorem dX10_layTalks_24 : decode cX10_layTalks 24 = .ok (.iload_n 2, 1) := by decide +kernel
theorem dX10_layTalks_25 : decode cX10_layTalks 25 = .ok (.sipush 256, 3) := by decide +kernel
theorem dX10_layTalks_28 : decode cX10_layTalks 28 = .ok (.if_icmp .ge 141, 3) := by decide +kernel
theorem dX10_layTalks_31 : decode cX10_layTalks 31 = .ok (.iconst 0, 1) := by decide +kernel
theorem dX10_layTalks_32 : decode cX10_layTalks 32 = .ok (.istore_n 3, 1) := by decide +kernel
theorem dX10_layTalks_33 : decode cX10_layTalks 33 = .ok (.iload_n 3, 1) := by decide +kernel
theorem dX10_layTalks_34 : decode cX10_layTalks 34 = .ok (.aload_n 0, 1) := by decide +kernel
theorem dX10_layTalks_35 : decode cX10_layTalks 35 = .ok (.getfield 153, 3) := by decide +kernel
theorem dX10_layTalks_38 : decode cX10_layTalks 38 = .ok (.if_icmp .ge 125, 3) := by decide +kernel
theorem dX10_layTalks_41 : decode cX10_layTalks 41 = .ok (.iload_n 2, 1) := by decide +kernel
theorem dX10_layTalks_42 : decode cX10_layTalks 42 = .ok (.iload_n 1, 1) := by decide +kernel
theorem dX10_layTalks_43 : decode cX10_layTalks 43 = .ok (.iconst (-1), 1) := by decide +kernel
theorem dX10_layTalks_44 : decode cX10_layTalks 44 = .ok (.ixor, 1) := by decide +kernel
theorem dX10_layTalks_45 : decode cX10_layTalks 45 = .ok (.iand, 1) := by decide +kernel
theorem dX10_layTalks_46 : decode cX10_layTalks 46 = .ok (.ifCond .ne 117, 3) := by decide +kernel
theorem dX10_layTalks_49 : decode cX10_layTalks 49 = .ok (.iload_n 2, 1) := by decide +kernel
theorem dX10_layTalks_50 : decode cX10_layTalks 50 = .ok (.iload_n 3, 1) := by decide +kernel
theorem dX10_layTalks_51 : decode cX10_layTalks 51 = .ok (.invokestatic 168, 3) := by decide +kernel
theorem dX10_layTalks_54 : decode cX10_layTalks 54 = .ok (.ifCond .eq 103, 3) := by decide +kernel
theorem dX10_layTalks_57 : decode cX10_layTalks 57 = .ok (.iload_n 2, 1) := by decide +kernel
theorem dX10_layTalks_58 : decode cX10_layTalks 58 = .ok (.iconst 1, 1) := by decide +kernel
theorem dX10_layTalks_59 : decode cX10_layTalks 59 = .ok (.iload_n 3, 1) := by decide +kernel
theorem dX10_layTalks_60 : decode cX10_layTalks 60 = .ok (.ishl, 1) := by decide +kernel
theorem dX10_layTalks_61 : decode cX10_layTalks 61 = .ok (.iconst (-1), 1) := by decide +kernel
theorem dX10_layTalks_62 : decode cX10_layTalks 62 = .ok (.ixor, 1) := by decide +kernel
theorem dX10_layTalks_63 : decode cX10_layTalks 63 = .ok (.iand, 1) := by decide +kernel
theorem dX10_layTalks_64 : decode cX10_layTalks 64 = .ok (.istore 4, 2) := by decide +kernel
theorem dX10_layTalks_66 : decode cX10_layTalks 66 = .ok (.iload 4, 2) := by decide +kernel
theorem dX10_layTalks_68 : decode cX10_layTalks 68 = .ok (.ifCond .ne 9, 3) := by decide +kernel
theorem dX10_layTalks_71 : decode cX10_layTalks 71 = .ok (.iconst 1, 1) := by decide +kernel
theorem dX10_layTalks_72 : decode cX10_layTalks 72 = .ok (.iload_n 3, 1) := by decide +kernel
theorem dX10_layTalks_73 : decode cX10_layTalks 73 = .ok (.ishl, 1) := by decide +kernel
theorem dX10_layTalks_74 : decode cX10_layTalks 74 = .ok (.goto 4, 3) := by decide +kernel
theorem dX10_layTalks_77 : decode cX10_layTalks 77 = .ok (.iconst 0, 1) := by decide +kernel
theorem dX10_layTalks_78 : decode cX10_layTalks 78 = .ok (.istore 5, 2) := by decide +kernel
theorem dX10_layTalks_80 : decode cX10_layTalks 80 = .ok (.iconst 0, 1) := by decide +kernel
theorem dX10_layTalks_81 : decode cX10_layTalks 81 = .ok (.istore 6, 2) := by decide +kernel
theorem dX10_layTalks_83 : decode cX10_layTalks 83 = .ok (.iload 6, 2) := by decide +kernel
theorem dX10_layTalks_85 : decode cX10_layTalks 85 = .ok (.aload_n 0, 1) := by decide +kernel
theorem dX10_layTalks_86 : decode cX10_layTalks 86 = .ok (.getfield 153, 3) := by decide +kernel
theorem dX10_layTalks_89 : decode cX10_layTalks 89 = .ok (.if_icmp .ge 55, 3) := by decide +kernel
theorem dX10_layTalks_92 : decode cX10_layTalks 92 = .ok (.iload 5, 2) := by decide +kernel
theorem dX10_layTalks_94 : decode cX10_layTalks 94 = .ok (.iload 4, 2) := by decide +kernel
theorem dX10_layTalks_96 : decode cX10_layTalks 96 = .ok (.iload 6, 2) := by decide +kernel
theorem dX10_layTalks_98 : decode cX10_layTalks 98 = .ok (.invokestatic 168, 3) := by decide +kernel
theorem dX10_layTalks_101 : decode cX10_layTalks 101 = .ok (.ifCond .eq 33, 3) := by decide +kernel
theorem dX10_layTalks_104 : decode cX10_layTalks 104 = .ok (.aload_n 0, 1) := by decide +kernel
theorem dX10_layTalks_105 : decode cX10_layTalks 105 = .ok (.getfield 35, 3) := by decide +kernel
theorem dX10_layTalks_108 : decode cX10_layTalks 108 = .ok (.iload 6, 2) := by decide +kernel
theorem dX10_layTalks_110 : decode cX10_layTalks 110 = .ok (.iaload, 1) := by decide +kernel
theorem dX10_layTalks_111 : decode cX10_layTalks 111 = .ok (.iload_n 3, 1) := by decide +kernel
theorem dX10_layTalks_112 : decode cX10_layTalks 112 = .ok (.invokestatic 168, 3) := by decide +kernel
theorem dX10_layTalks_115 : decode cX10_layTalks 115 = .ok (.ifCond .eq 19, 3) := by decide +kernel
theorem dX10_layTalks_118 : decode cX10_layTalks 118 = .ok (.aload_n 0, 1) := by decide +kernel
theorem dX10_layTalks_119 : decode cX10_layTalks 119 = .ok (.getfield 53, 3) := by decide +kernel
theorem dX10_layTalks_122 : decode cX10_layTalks 122 = .ok (.bipush 8, 2) := by decide +kernel
theorem dX10_layTalks_124 : decode cX10_layTalks 124 = .ok (.iload 4, 2) := by decide +kernel
theorem dX10_layTalks_126 : decode cX10_layTalks 126 = .ok (.imul, 1) := by decide +kernel
theorem dX10_layTalks_127 : decode cX10_layTalks 127 = .ok (.iload 6, 2) := by decide +kernel
theorem dX10_layTalks_129 : decode cX10_layTalks 129 = .ok (.iadd, 1) := by decide +kernel
theorem dX10_layTalks_130 : decode cX10_layTalks 130 = .ok (.iaload, 1) := by decide +kernel
theorem dX10_layTalks_131 : decode cX10_layTalks 131 = .ok (.goto 4, 3) := by decide +kernel
theorem dX10_layTalks_134 : decode cX10_layTalks 134 = .ok (.iconst 0, 1) := by decide +kernel
theorem dX10_layTalks_135 : decode cX10_layTalks 135 = .ok (.ior, 1) := by decide +kernel
theorem dX10_layTalks_136 : decode cX10_layTalks 136 = .ok (.istore 5, 2) := by decide +kernel
theorem dX10_layTalks_138 : decode cX10_layTalks 138 = .ok (.iinc 6 1, 3) := by decide +kernel
theorem dX10_layTalks_141 : decode cX10_layTalks 141 = .ok (.goto (-58), 3) := by decide +kernel
theorem dX10_layTalks_144 : decode cX10_layTalks 144 = .ok (.aload_n 0, 1) := by decide +kernel
theorem dX10_layTalks_145 : decode cX10_layTalks 145 = .ok (.getfield 53, 3) := by decide +kernel
theorem dX10_layTalks_148 : decode cX10_layTalks 148 = .ok (.bipush 8, 2) := by decide +kernel
theorem dX10_layTalks_150 : decode cX10_layTalks 150 = .ok (.iload_n 2, 1) := by decide +kernel
theorem dX10_layTalks_151 : decode cX10_layTalks 151 = .ok (.imul, 1) := by decide +kernel
theorem dX10_layTalks_152 : decode cX10_layTalks 152 = .ok (.iload_n 3, 1) := by decide +kernel
theorem dX10_layTalks_153 : decode cX10_layTalks 153 = .ok (.iadd, 1) := by decide +kernel
theorem dX10_layTalks_154 : decode cX10_layTalks 154 = .ok (.iload 5, 2) := by decide +kernel
theorem dX10_layTalks_156 : decode cX10_layTalks 156 = .ok (.iastore, 1) := by decide +kernel
theorem dX10_layTalks_157 : decode cX10_layTalks 157 = .ok (.iinc 3 1, 3) := by decide +kernel
theorem dX10_layTalks_160 : decode cX10_layTalks 160 = .ok (.goto (-127), 3) := by decide +kernel
theorem dX10_layTalks_163 : decode cX10_layTalks 163 = .ok (.iinc 2 1, 3) := by decide +kernel
theorem dX10_layTalks_166 : decode cX10_layTalks 166 = .ok (.goto (-142), 3) := by decide +kernel
theorem dX10_layTalks_169 : decode cX10_layTalks 169 = .ok (.return_, 1) := by decide +kernel
theorem dX10_layTalk_0 : decode cX10_layTalk 0 = .ok (.aload_n 0, 1) := by decide +kernel
theorem dX10_layTalk_1 : decode cX10_layTalk 1 = .ok (.iload_n 2, 1) := by decide +kernel
theorem dX10_layTalk_2 : decode cX10_layTalk 2 = .ok (.invokevirtual 261, 3) := by decide +kernel
theorem dX10_layTalk_5 : decode cX10_layTalk 5 = .ok (.aload_n 0, 1) := by decide +kernel
theorem dX10_layTalk_6 : decode cX10_layTalk 6 = .ok (.iconst 0, 1) := by decide +kernel
theorem dX10_layTalk_7 : decode cX10_layTalk 7 = .ok (.putfield 264, 3) := by decide +kernel
theorem dX10_layTalk_10 : decode cX10_layTalk 10 = .ok (.aload_n 0, 1) := by decide +kernel
theorem dX10_layTalk_11 : decode cX10_layTalk 11 = .ok (.iconst (-1), 1) := by decide +kernel
theorem dX10_layTalk_12 : decode cX10_layTalk 12 = .ok (.putfield 267, 3) := by decide +kernel
theorem dX10_layTalk_15 : decode cX10_layTalk 15 = .ok (.aload_n 0, 1) := by decide +kernel
theorem dX10_layTalk_16 : decode cX10_layTalk 16 = .ok (.iconst 0, 1) := by decide +kernel
theorem dX10_layTalk_17 : decode cX10_layTalk 17 = .ok (.putfield 270, 3) := by decide +kernel
theorem dX10_layTalk_20 : decode cX10_layTalk 20 = .ok (.iconst 1, 1) := by decide +kernel
theorem dX10_layTalk_21 : decode cX10_layTalk 21 = .ok (.istore_n 3, 1) := by decide +kernel
theorem dX10_layTalk_22 : decode cX10_layTalk 22 = .ok (.iload_n 3, 1) := by decide +kernel
theorem dX10_layTalk_23 : decode cX10_layTalk 23 = .ok (.sipush 256, 3) := by decide +kernel
theorem dX10_layTalk_26 : decode cX10_layTalk 26 = .ok (.if_icmp .ge 179, 3) := by decide +kernel
theorem dX10_layTalk_29 : decode cX10_layTalk 29 = .ok (.iconst 0, 1) := by decide +kernel
theorem dX10_layTalk_30 : decode cX10_layTalk 30 = .ok (.istore 4, 2) := by decide +kernel
theorem dX10_layTalk_32 : decode cX10_layTalk 32 = .ok (.iconst 0, 1) := by decide +kernel
theorem dX10_layTalk_33 : decode cX10_layTalk 33 = .ok (.istore 5, 2) := by decide +kernel
theorem dX10_layTalk_35 : decode cX10_layTalk 35 = .ok (.iconst 0, 1) := by decide +kernel
theorem dX10_layTalk_36 : decode cX10_layTalk 36 = .ok (.istore 6, 2) := by decide +kernel
theorem dX10_layTalk_38 : decode cX10_layTalk 38 = .ok (.iload 6, 2) := by decide +kernel
theorem dX10_layTalk_40 : decode cX10_layTalk 40 = .ok (.aload_n 0, 1) := by decide +kernel
theorem dX10_layTalk_41 : decode cX10_layTalk 41 = .ok (.getfield 153, 3) := by decide +kernel
theorem dX10_layTalk_44 : decode cX10_layTalk 44 = .ok (.if_icmp .ge 51, 3) := by decide +kernel
theorem dX10_layTalk_47 : decode cX10_layTalk 47 = .ok (.iload 4, 2) := by decide +kernel
theorem dX10_layTalk_49 : decode cX10_layTalk 49 = .ok (.aload_n 0, 1) := by decide +kernel
theorem dX10_layTalk_50 : decode cX10_layTalk 50 = .ok (.getfield 53, 3) := by decide +kernel
theorem dX10_layTalk_53 : decode cX10_layTalk 53 = .ok (.bipush 8, 2) := by decide +kernel
theorem dX10_layTalk_55 : decode cX10_layTalk 55 = .ok (.iload_n 3, 1) := by decide +kernel
theorem dX10_layTalk_56 : decode cX10_layTalk 56 = .ok (.imul, 1) := by decide +kernel
theorem dX10_layTalk_57 : decode cX10_layTalk 57 = .ok (.iload 6, 2) := by decide +kernel
theorem dX10_layTalk_59 : decode cX10_layTalk 59 = .ok (.iadd, 1) := by decide +kernel
theorem dX10_layTalk_60 : decode cX10_layTalk 60 = .ok (.iaload, 1) := by decide +kernel
theorem dX10_layTalk_61 : decode cX10_layTalk 61 = .ok (.ior, 1) := by decide +kernel
theorem dX10_layTalk_62 : decode cX10_layTalk 62 = .ok (.istore 4, 2) := by decide +kernel
theorem dX10_layTalk_64 : decode cX10_layTalk 64 = .ok (.iload 5, 2) := by decide +kernel
theorem dX10_layTalk_66 : decode cX10_layTalk 66 = .ok (.iload_n 3, 1) := by decide +kernel
theorem dX10_layTalk_67 : decode cX10_layTalk 67 = .ok (.iload 6, 2) := by decide +kernel
theorem dX10_layTalk_69 : decode cX10_layTalk 69 = .ok (.invokestatic 168, 3) := by decide +kernel
theorem dX10_layTalk_72 : decode cX10_layTalk 72 = .ok (.ifCond .eq 13, 3) := by decide +kernel
theorem dX10_layTalk_75 : decode cX10_layTalk 75 = .ok (.aload_n 0, 1) := by decide +kernel
theorem dX10_layTalk_76 : decode cX10_layTalk 76 = .ok (.iload_n 1, 1) := by decide +kernel
theorem dX10_layTalk_77 : decode cX10_layTalk 77 = .ok (.iload 6, 2) := by decide +kernel
theorem dX10_layTalk_79 : decode cX10_layTalk 79 = .ok (.invokevirtual 200, 3) := by decide +kernel
theorem dX10_layTalk_82 : decode cX10_layTalk 82 = .ok (.goto 4, 3) := by decide +kernel
theorem dX10_layTalk_85 : decode cX10_layTalk 85 = .ok (.iconst 0, 1) := by decide +kernel
theorem dX10_layTalk_86 : decode cX10_layTalk 86 = .ok (.iadd, 1) := by decide +kernel
theorem dX10_layTalk_87 : decode cX10_layTalk 87 = .ok (.istore 5, 2) := by decide +kernel
theorem dX10_layTalk_89 : decode cX10_layTalk 89 = .ok (.iinc 6 1, 3) := by decide +kernel
theorem dX10_layTalk_92 : decode cX10_layTalk 92 = .ok (.goto (-54), 3) := by decide +kernel
theorem dX10_layTalk_95 : decode cX10_layTalk 95 = .ok (.iload 4, 2) := by decide +kernel
theorem dX10_layTalk_97 : decode cX10_layTalk 97 = .ok (.iload 4, 2) := by decide +kernel
theorem dX10_layTalk_99 : decode cX10_layTalk 99 = .ok (.ineg, 1) := by decide +kernel
theorem dX10_layTalk_100 : decode cX10_layTalk 100 = .ok (.iand, 1) := by decide +kernel
theorem dX10_layTalk_101 : decode cX10_layTalk 101 = .ok (.iconst 1, 1) := by decide +kernel
theorem dX10_layTalk_102 : decode cX10_layTalk 102 = .ok (.isub, 1) := by decide +kernel
theorem dX10_layTalk_103 : decode cX10_layTalk 103 = .ok (.invokestatic 172, 3) := by decide +kernel
theorem dX10_layTalk_106 : decode cX10_layTalk 106 = .ok (.istore 6, 2) := by decide +kernel
theorem dX10_layTalk_108 : decode cX10_layTalk 108 = .ok (.iload 5, 2) := by decide +kernel
theorem dX10_layTalk_110 : decode cX10_layTalk 110 = .ok (.aload_n 0, 1) := by decide +kernel
theorem dX10_layTalk_111 : decode cX10_layTalk 111 = .ok (.getfield 264, 3) := by decide +kernel
theorem dX10_layTalk_114 : decode cX10_layTalk 114 = .ok (.if_icmp .gt 43, 3) := by decide +kernel
theorem dX10_layTalk_117 : decode cX10_layTalk 117 = .ok (.iload 5, 2) := by decide +kernel
theorem dX10_layTalk_119 : decode cX10_layTalk 119 = .ok (.aload_n 0, 1) := by decide +kernel
theorem dX10_layTalk_120 : decode cX10_layTalk 120 = .ok (.getfield 264, 3) := by decide +kernel
theorem dX10_layTalk_123 : decode cX10_layTalk 123 = .ok (.if_icmp .ne 38, 3) := by decide +kernel
theorem dX10_layTalk_126 : decode cX10_layTalk 126 = .ok (.iload_n 3, 1) := by decide +kernel
theorem dX10_layTalk_127 : decode cX10_layTalk 127 = .ok (.invokestatic 172, 3) := by decide +kernel
theorem dX10_layTalk_130 : decode cX10_layTalk 130 = .ok (.aload_n 0, 1) := by decide +kernel
theorem dX10_layTalk_131 : decode cX10_layTalk 131 = .ok (.getfield 270, 3) := by decide +kernel
theorem dX10_layTalk_134 : decode cX10_layTalk 134 = .ok (.if_icmp .lt 23, 3) := by decide +kernel
theorem dX10_layTalk_137 : decode cX10_layTalk 137 = .ok (.iload_n 3, 1) := by decide +kernel
theorem dX10_layTalk_138 : decode cX10_layTalk 138 = .ok (.invokestatic 172, 3) := by decide +kernel
theorem dX10_layTalk_141 : decode cX10_layTalk 141 = .ok (.aload_n 0, 1) := by decide +kernel
theorem dX10_layTalk_142 : decode cX10_layTalk 142 = .ok (.getfield 270, 3) := by decide +kernel
theorem dX10_layTalk_145 : decode cX10_layTalk 145 = .ok (.if_icmp .ne 16, 3) := by decide +kernel
theorem dX10_layTalk_148 : decode cX10_layTalk 148 = .ok (.iload 6, 2) := by decide +kernel
theorem dX10_layTalk_150 : decode cX10_layTalk 150 = .ok (.aload_n 0, 1) := by decide +kernel
theorem dX10_layTalk_151 : decode cX10_layTalk 151 = .ok (.getfield 267, 3) := by decide +kernel
theorem dX10_layTalk_154 : decode cX10_layTalk 154 = .ok (.if_icmp .ge 7, 3) := by decide +kernel
theorem dX10_layTalk_157 : decode cX10_layTalk 157 = .ok (.iconst 1, 1) := by decide +kernel
theorem dX10_layTalk_158 : decode cX10_layTalk 158 = .ok (.goto 4, 3) := by decide +kernel
theorem dX10_layTalk_161 : decode cX10_layTalk 161 = .ok (.iconst 0, 1) := by decide +kernel
theorem dX10_layTalk_162 : decode cX10_layTalk 162 = .ok (.istore 7, 2) := by decide +kernel
theorem dX10_layTalk_164 : decode cX10_layTalk 164 = .ok (.iload 4, 2) := by decide +kernel
theorem dX10_layTalk_166 : decode cX10_layTalk 166 = .ok (.ifCond .eq 33, 3) := by decide +kernel
theorem dX10_layTalk_169 : decode cX10_layTalk 169 = .ok (.iload 5, 2) := by decide +kernel
theorem dX10_layTalk_171 : decode cX10_layTalk 171 = .ok (.ifCond .le 28, 3) := by decide +kernel
theorem dX10_layTalk_174 : decode cX10_layTalk 174 = .ok (.iload 7, 2) := by decide +kernel
theorem dX10_layTalk_176 : decode cX10_layTalk 176 = .ok (.ifCond .eq 23, 3) := by decide +kernel
theorem dX10_layTalk_179 : decode cX10_layTalk 179 = .ok (.aload_n 0, 1) := by decide +kernel
theorem dX10_layTalk_180 : decode cX10_layTalk 180 = .ok (.iload 5, 2) := by decide +kernel
theorem dX10_layTalk_182 : decode cX10_layTalk 182 = .ok (.putfield 264, 3) := by decide +kernel
theorem dX10_layTalk_185 : decode cX10_layTalk 185 = .ok (.aload_n 0, 1) := by decide +kernel
theorem dX10_layTalk_186 : decode cX10_layTalk 186 = .ok (.iload 6, 2) := by decide +kernel
theorem dX10_layTalk_188 : decode cX10_layTalk 188 = .ok (.putfield 267, 3) := by decide +kernel
theorem dX10_layTalk_191 : decode cX10_layTalk 191 = .ok (.aload_n 0, 1) := by decide +kernel
theorem dX10_layTalk_192 : decode cX10_layTalk 192 = .ok (.iload_n 3, 1) := by decide +kernel
theorem dX10_layTalk_193 : decode cX10_layTalk 193 = .ok (.invokestatic 172, 3) := by decide +kernel
theorem dX10_layTalk_196 : decode cX10_layTalk 196 = .ok (.putfield 270, 3) := by decide +kernel
theorem dX10_layTalk_199 : decode cX10_layTalk 199 = .ok (.iinc 3 1, 3) := by decide +kernel
theorem dX10_layTalk_202 : decode cX10_layTalk 202 = .ok (.goto (-180), 3) := by decide +kernel
theorem dX10_layTalk_205 : decode cX10_layTalk 205 = .ok (.return_, 1) := by decide +kernel
theorem dX10_talk_0 : decode cX10_talk 0 = .ok (.aload_n 0, 1) := by decide +kernel
theorem dX10_talk_1 : decode cX10_talk 1 = .ok (.iload_n 1, 1) := by decide +kernel
theorem dX10_talk_2 : decode cX10_talk 2 = .ok (.invokevirtual 203, 3) := by decide +kernel
theorem dX10_talk_5 : decode cX10_talk 5 = .ok (.ifCond .ne 6, 3) := by decide +kernel
theorem dX10_talk_8 : decode cX10_talk 8 = .ok (.ldc 193, 2) := by decide +kernel
theorem dX10_talk_10 : decode cX10_talk 10 = .ok (.ireturn, 1) := by decide +kernel
theorem dX10_talk_11 : decode cX10_talk 11 = .ok (.iload_n 2, 1) := by decide +kernel
theorem dX10_talk_12 : decode cX10_talk 12 = .ok (.iconst 0, 1) := by decide +kernel
theorem dX10_talk_13 : decode cX10_talk 13 = .ok (.iconst 3, 1) := by decide +kernel
theorem dX10_talk_14 : decode cX10_talk 14 = .ok (.invokestatic 82, 3) := by decide +kernel
theorem dX10_talk_17 : decode cX10_talk 17 = .ok (.ifCond .ne 6, 3) := by decide +kernel
theorem dX10_talk_20 : decode cX10_talk 20 = .ok (.ldc 86, 2) := by decide +kernel
theorem dX10_talk_22 : decode cX10_talk 22 = .ok (.ireturn, 1) := by decide +kernel
theorem dX10_talk_23 : decode cX10_talk 23 = .ok (.aload_n 0, 1) := by decide +kernel
theorem dX10_talk_24 : decode cX10_talk 24 = .ok (.iload_n 1, 1) := by decide +kernel
theorem dX10_talk_25 : decode cX10_talk 25 = .ok (.aload_n 0, 1) := by decide +kernel
theorem dX10_talk_26 : decode cX10_talk 26 = .ok (.getfield 47, 3) := by decide +kernel
theorem dX10_talk_29 : decode cX10_talk 29 = .ok (.iconst 3, 1) := by decide +kernel
theorem dX10_talk_30 : decode cX10_talk 30 = .ok (.iaload, 1) := by decide +kernel
theorem dX10_talk_31 : decode cX10_talk 31 = .ok (.invokevirtual 273, 3) := by decide +kernel
theorem dX10_talk_34 : decode cX10_talk 34 = .ok (.iload_n 2, 1) := by decide +kernel
theorem dX10_talk_35 : decode cX10_talk 35 = .ok (.ifCond .ne 10, 3) := by decide +kernel
theorem dX10_talk_38 : decode cX10_talk 38 = .ok (.aload_n 0, 1) := by decide +kernel
theorem dX10_talk_39 : decode cX10_talk 39 = .ok (.getfield 264, 3) := by decide +kernel
theorem dX10_talk_42 : decode cX10_talk 42 = .ok (.goto 35, 3) := by decide +kernel
theorem dX10_talk_45 : decode cX10_talk 45 = .ok (.iload_n 2, 1) := by decide +kernel
theorem dX10_talk_46 : decode cX10_talk 46 = .ok (.iconst 1, 1) := by decide +kernel
theorem dX10_talk_47 : decode cX10_talk 47 = .ok (.if_icmp .ne 10, 3) := by decide +kernel
theorem dX10_talk_50 : decode cX10_talk 50 = .ok (.aload_n 0, 1) := by decide +kernel
theorem dX10_talk_51 : decode cX10_talk 51 = .ok (.getfield 267, 3) := by decide +kernel
theorem dX10_talk_54 : decode cX10_talk 54 = .ok (.goto 23, 3) := by decide +kernel
theorem dX10_talk_57 : decode cX10_talk 57 = .ok (.iload_n 2, 1) := by decide +kernel
theorem dX10_talk_58 : decode cX10_talk 58 = .ok (.iconst 2, 1) := by decide +kernel
theorem dX10_talk_59 : decode cX10_talk 59 = .ok (.if_icmp .ne 10, 3) := by decide +kernel
theorem dX10_talk_62 : decode cX10_talk 62 = .ok (.aload_n 0, 1) := by decide +kernel
theorem dX10_talk_63 : decode cX10_talk 63 = .ok (.getfield 270, 3) := by decide +kernel
theorem dX10_talk_66 : decode cX10_talk 66 = .ok (.goto 11, 3) := by decide +kernel
theorem dX10_talk_69 : decode cX10_talk 69 = .ok (.aload_n 0, 1) := by decide +kernel
theorem dX10_talk_70 : decode cX10_talk 70 = .ok (.aload_n 0, 1) := by decide +kernel
theorem dX10_talk_71 : decode cX10_talk 71 = .ok (.getfield 264, 3) := by decide +kernel
theorem dX10_talk_74 : decode cX10_talk 74 = .ok (.invokevirtual 223, 3) := by decide +kernel
theorem dX10_talk_77 : decode cX10_talk 77 = .ok (.ireturn, 1) := by decide +kernel
theorem dX10_worthOfAll_0 : decode cX10_worthOfAll 0 = .ok (.iconst 0, 1) := by decide +kernel
theorem dX10_worthOfAll_1 : decode cX10_worthOfAll 1 = .ok (.istore_n 2, 1) := by decide +kernel
theorem dX10_worthOfAll_2 : decode cX10_worthOfAll 2 = .ok (.iconst 0, 1) := by decide +kernel
theorem dX10_worthOfAll_3 : decode cX10_worthOfAll 3 = .ok (.istore_n 3, 1) := by decide +kernel
theorem dX10_worthOfAll_4 : decode cX10_worthOfAll 4 = .ok (.iload_n 3, 1) := by decide +kernel
theorem dX10_worthOfAll_5 : decode cX10_worthOfAll 5 = .ok (.aload_n 0, 1) := by decide +kernel
theorem dX10_worthOfAll_6 : decode cX10_worthOfAll 6 = .ok (.getfield 156, 3) := by decide +kernel
theorem dX10_worthOfAll_9 : decode cX10_worthOfAll 9 = .ok (.if_icmp .ge 26, 3) := by decide +kernel
theorem dX10_worthOfAll_12 : decode cX10_worthOfAll 12 = .ok (.aload_n 0, 1) := by decide +kernel
theorem dX10_worthOfAll_13 : decode cX10_worthOfAll 13 = .ok (.iload_n 3, 1) := by decide +kernel
theorem dX10_worthOfAll_14 : decode cX10_worthOfAll 14 = .ok (.iload_n 1, 1) := by decide +kernel
theorem dX10_worthOfAll_15 : decode cX10_worthOfAll 15 = .ok (.invokevirtual 273, 3) := by decide +kernel
theorem dX10_worthOfAll_18 : decode cX10_worthOfAll 18 = .ok (.iload_n 2, 1) := by decide +kernel
theorem dX10_worthOfAll_19 : decode cX10_worthOfAll 19 = .ok (.aload_n 0, 1) := by decide +kernel
theorem dX10_worthOfAll_20 : decode cX10_worthOfAll 20 = .ok (.aload_n 0, 1) := by decide +kernel
theorem dX10_worthOfAll_21 : decode cX10_worthOfAll 21 = .ok (.getfield 264, 3) := by decide +kernel
theorem dX10_worthOfAll_24 : decode cX10_worthOfAll 24 = .ok (.invokevirtual 223, 3) := by decide +kernel
theorem dX10_worthOfAll_27 : decode cX10_worthOfAll 27 = .ok (.iadd, 1) := by decide +kernel
theorem dX10_worthOfAll_28 : decode cX10_worthOfAll 28 = .ok (.istore_n 2, 1) := by decide +kernel
theorem dX10_worthOfAll_29 : decode cX10_worthOfAll 29 = .ok (.iinc 3 1, 3) := by decide +kernel
theorem dX10_worthOfAll_32 : decode cX10_worthOfAll 32 = .ok (.goto (-28), 3) := by decide +kernel
theorem dX10_worthOfAll_35 : decode cX10_worthOfAll 35 = .ok (.iload_n 2, 1) := by decide +kernel
theorem dX10_worthOfAll_36 : decode cX10_worthOfAll 36 = .ok (.ireturn, 1) := by decide +kernel
theorem dX10_bestToLearn_0 : decode cX10_bestToLearn 0 = .ok (.iconst (-1), 1) := by decide +kernel
theorem dX10_bestToLearn_1 : decode cX10_bestToLearn 1 = .ok (.istore_n 1, 1) := by decide +kernel
theorem dX10_bestToLearn_2 : decode cX10_bestToLearn 2 = .ok (.iconst (-1), 1) := by decide +kernel
theorem dX10_bestToLearn_3 : decode cX10_bestToLearn 3 = .ok (.istore_n 2, 1) := by decide +kernel
theorem dX10_bestToLearn_4 : decode cX10_bestToLearn 4 = .ok (.iconst 0, 1) := by decide +kernel
theorem dX10_bestToLearn_5 : decode cX10_bestToLearn 5 = .ok (.istore_n 3, 1) := by decide +kernel
theorem dX10_bestToLearn_6 : decode cX10_bestToLearn 6 = .ok (.iload_n 3, 1) := by decide +kernel
theorem dX10_bestToLearn_7 : decode cX10_bestToLearn 7 = .ok (.aload_n 0, 1) := by decide +kernel
theorem dX10_bestToLearn_8 : decode cX10_bestToLearn 8 = .ok (.getfield 153, 3) := by decide +kernel
theorem dX10_bestToLearn_11 : decode cX10_bestToLearn 11 = .ok (.if_icmp .ge 67, 3) := by decide +kernel
theorem dX10_bestToLearn_14 : decode cX10_bestToLearn 14 = .ok (.aload_n 0, 1) := by decide +kernel
theorem dX10_bestToLearn_15 : decode cX10_bestToLearn 15 = .ok (.getfield 47, 3) := by decide +kernel
theorem dX10_bestToLearn_18 : decode cX10_bestToLearn 18 = .ok (.iconst 3, 1) := by decide +kernel
theorem dX10_bestToLearn_19 : decode cX10_bestToLearn 19 = .ok (.iaload, 1) := by decide +kernel
theorem dX10_bestToLearn_20 : decode cX10_bestToLearn 20 = .ok (.iload_n 3, 1) := by decide +kernel
theorem dX10_bestToLearn_21 : decode cX10_bestToLearn 21 = .ok (.invokestatic 168, 3) := by decide +kernel
theorem dX10_bestToLearn_24 : decode cX10_bestToLearn 24 = .ok (.ifCond .eq 7, 3) := by decide +kernel
theorem dX10_bestToLearn_27 : decode cX10_bestToLearn 27 = .ok (.iconst (-1), 1) := by decide +kernel
theorem dX10_bestToLearn_28 : decode cX10_bestToLearn 28 = .ok (.goto 17, 3) := by decide +kernel
theorem dX10_bestToLearn_31 : decode cX10_bestToLearn 31 = .ok (.aload_n 0, 1) := by decide +kernel
theorem dX10_bestToLearn_32 : decode cX10_bestToLearn 32 = .ok (.aload_n 0, 1) := by decide +kernel
theorem dX10_bestToLearn_33 : decode cX10_bestToLearn 33 = .ok (.getfield 47, 3) := by decide +kernel
theorem dX10_bestToLearn_36 : decode cX10_bestToLearn 36 = .ok (.iconst 3, 1) := by decide +kernel
theorem dX10_bestToLearn_37 : decode cX10_bestToLearn 37 = .ok (.iaload, 1) := by decide +kernel
theorem dX10_bestToLearn_38 : decode cX10_bestToLearn 38 = .ok (.iconst 1, 1) := by decide +kernel
theorem dX10_bestToLearn_39 : decode cX10_bestToLearn 39 = .ok (.iload_n 3, 1) := by decide +kernel
theorem dX10_bestToLearn_40 : decode cX10_bestToLearn 40 = .ok (.ishl, 1) := by decide +kernel
theorem dX10_bestToLearn_41 : decode cX10_bestToLearn 41 = .ok (.ior, 1) := by decide +kernel
theorem dX10_bestToLearn_42 : decode cX10_bestToLearn 42 = .ok (.invokevirtual 277, 3) := by decide +kernel
theorem dX10_bestToLearn_45 : decode cX10_bestToLearn 45 = .ok (.istore 4, 2) := by decide +kernel
theorem dX10_bestToLearn_47 : decode cX10_bestToLearn 47 = .ok (.iload 4, 2) := by decide +kernel
theorem dX10_bestToLearn_49 : decode cX10_bestToLearn 49 = .ok (.iload_n 2, 1) := by decide +kernel
theorem dX10_bestToLearn_50 : decode cX10_bestToLearn 50 = .ok (.if_icmp .le 7, 3) := by decide +kernel
theorem dX10_bestToLearn_53 : decode cX10_bestToLearn 53 = .ok (.iload_n 3, 1) := by decide +kernel
theorem dX10_bestToLearn_54 : decode cX10_bestToLearn 54 = .ok (.goto 4, 3) := by decide +kernel
theorem dX10_bestToLearn_57 : decode cX10_bestToLearn 57 = .ok (.iload_n 1, 1) := by decide +kernel
theorem dX10_bestToLearn_58 : decode cX10_bestToLearn 58 = .ok (.istore_n 1, 1) := by decide +kernel
theorem dX10_bestToLearn_59 : decode cX10_bestToLearn 59 = .ok (.iload 4, 2) := by decide +kernel
theorem dX10_bestToLearn_61 : decode cX10_bestToLearn 61 = .ok (.iload_n 2, 1) := by decide +kernel
theorem dX10_bestToLearn_62 : decode cX10_bestToLearn 62 = .ok (.if_icmp .le 8, 3) := by decide +kernel
theorem dX10_bestToLearn_65 : decode cX10_bestToLearn 65 = .ok (.iload 4, 2) := by decide +kernel
theorem dX10_bestToLearn_67 : decode cX10_bestToLearn 67 = .ok (.goto 4, 3) := by decide +kernel
theorem dX10_bestToLearn_70 : decode cX10_bestToLearn 70 = .ok (.iload_n 2, 1) := by decide +kernel
theorem dX10_bestToLearn_71 : decode cX10_bestToLearn 71 = .ok (.istore_n 2, 1) := by decide +kernel
theorem dX10_bestToLearn_72 : decode cX10_bestToLearn 72 = .ok (.iinc 3 1, 3) := by decide +kernel
theorem dX10_bestToLearn_75 : decode cX10_bestToLearn 75 = .ok (.goto (-69), 3) := by decide +kernel
theorem dX10_bestToLearn_78 : decode cX10_bestToLearn 78 = .ok (.iload_n 1, 1) := by decide +kernel
theorem dX10_bestToLearn_79 : decode cX10_bestToLearn 79 = .ok (.ireturn, 1) := by decide +kernel
theorem dX10_paidBy_0 : decode cX10_paidBy 0 = .ok (.iload_n 2, 1) := by decide +kernel
theorem dX10_paidBy_1 : decode cX10_paidBy 1 = .ok (.istore_n 3, 1) := by decide +kernel
theorem dX10_paidBy_2 : decode cX10_paidBy 2 = .ok (.iconst 0, 1) := by decide +kernel
theorem dX10_paidBy_3 : decode cX10_paidBy 3 = .ok (.istore 4, 2) := by decide +kernel
theorem dX10_paidBy_5 : decode cX10_paidBy 5 = .ok (.iconst 0, 1) := by decide +kernel
theorem dX10_paidBy_6 : decode cX10_paidBy 6 = .ok (.istore 5, 2) := by decide +kernel
theorem dX10_paidBy_8 : decode cX10_paidBy 8 = .ok (.iconst 1, 1) := by decide +kernel
theorem dX10_paidBy_9 : decode cX10_paidBy 9 = .ok (.istore 6, 2) := by decide +kernel
theorem dX10_paidBy_11 : decode cX10_paidBy 11 = .ok (.iconst 1, 1) := by decide +kernel
theorem dX10_paidBy_12 : decode cX10_paidBy 12 = .ok (.istore 7, 2) := by decide +kernel
theorem dX10_paidBy_14 : decode cX10_paidBy 14 = .ok (.iload 7, 2) := by decide +kernel
theorem dX10_paidBy_16 : decode cX10_paidBy 16 = .ok (.iload_n 2, 1) := by decide +kernel
theorem dX10_paidBy_17 : decode cX10_paidBy 17 = .ok (.invokestatic 172, 3) := by decide +kernel
theorem dX10_paidBy_20 : decode cX10_paidBy 20 = .ok (.if_icmp .ge 16, 3) := by decide +kernel
theorem dX10_paidBy_23 : decode cX10_paidBy 23 = .ok (.iload 6, 2) := by decide +kernel
theorem dX10_paidBy_25 : decode cX10_paidBy 25 = .ok (.bipush 10, 2) := by decide +kernel
theorem dX10_paidBy_27 : decode cX10_paidBy 27 = .ok (.imul, 1) := by decide +kernel
theorem dX10_paidBy_28 : decode cX10_paidBy 28 = .ok (.istore 6, 2) := by decide +kernel
theorem dX10_paidBy_30 : decode cX10_paidBy 30 = .ok (.iinc 7 1, 3) := by decide +kernel
theorem dX10_paidBy_33 : decode cX10_paidBy 33 = .ok (.goto (-19), 3) := by decide +kernel
theorem dX10_paidBy_36 : decode cX10_paidBy 36 = .ok (.iload_n 2, 1) := by decide +kernel
theorem dX10_paidBy_37 : decode cX10_paidBy 37 = .ok (.invokestatic 172, 3) := by decide +kernel
theorem dX10_paidBy_40 : decode cX10_paidBy 40 = .ok (.istore 7, 2) := by decide +kernel
theorem dX10_paidBy_42 : decode cX10_paidBy 42 = .ok (.iload 7, 2) := by decide +kernel
theorem dX10_paidBy_44 : decode cX10_paidBy 44 = .ok (.ifCond .le 127, 3) := by decide +kernel
theorem dX10_paidBy_47 : decode cX10_paidBy 47 = .ok (.iload_n 1, 1) := by decide +kernel
theorem dX10_paidBy_48 : decode cX10_paidBy 48 = .ok (.iload 6, 2) := by decide +kernel
theorem dX10_paidBy_50 : decode cX10_paidBy 50 = .ok (.idiv, 1) := by decide +kernel
theorem dX10_paidBy_51 : decode cX10_paidBy 51 = .ok (.bipush 10, 2) := by decide +kernel
theorem dX10_paidBy_53 : decode cX10_paidBy 53 = .ok (.irem, 1) := by decide +kernel
theorem dX10_paidBy_54 : decode cX10_paidBy 54 = .ok (.iconst 1, 1) := by decide +kernel
theorem dX10_paidBy_55 : decode cX10_paidBy 55 = .ok (.isub, 1) := by decide +kernel
theorem dX10_paidBy_56 : decode cX10_paidBy 56 = .ok (.istore 8, 2) := by decide +kernel
theorem dX10_paidBy_58 : decode cX10_paidBy 58 = .ok (.iload 6, 2) := by decide +kernel
theorem dX10_paidBy_60 : decode cX10_paidBy 60 = .ok (.bipush 10, 2) := by decide +kernel
theorem dX10_paidBy_62 : decode cX10_paidBy 62 = .ok (.idiv, 1) := by decide +kernel
theorem dX10_paidBy_63 : decode cX10_paidBy 63 = .ok (.istore 6, 2) := by decide +kernel
theorem dX10_paidBy_65 : decode cX10_paidBy 65 = .ok (.iload 8, 2) := by decide +kernel
theorem dX10_paidBy_67 : decode cX10_paidBy 67 = .ok (.ifCond .lt 12, 3) := by decide +kernel
theorem dX10_paidBy_70 : decode cX10_paidBy 70 = .ok (.iload_n 3, 1) := by decide +kernel
theorem dX10_paidBy_71 : decode cX10_paidBy 71 = .ok (.iload 8, 2) := by decide +kernel
theorem dX10_paidBy_73 : decode cX10_paidBy 73 = .ok (.invokestatic 168, 3) := by decide +kernel
theorem dX10_paidBy_76 : decode cX10_paidBy 76 = .ok (.ifCond .ne 5, 3) := by decide +kernel
theorem dX10_paidBy_79 : decode cX10_paidBy 79 = .ok (.iconst (-1), 1) := by decide +kernel
theorem dX10_paidBy_80 : decode cX10_paidBy 80 = .ok (.ireturn, 1) := by decide +kernel
theorem dX10_paidBy_81 : decode cX10_paidBy 81 = .ok (.iload_n 3, 1) := by decide +kernel
theorem dX10_paidBy_82 : decode cX10_paidBy 82 = .ok (.iconst 1, 1) := by decide +kernel
theorem dX10_paidBy_83 : decode cX10_paidBy 83 = .ok (.iload 8, 2) := by decide +kernel
theorem dX10_paidBy_85 : decode cX10_paidBy 85 = .ok (.ishl, 1) := by decide +kernel
theorem dX10_paidBy_86 : decode cX10_paidBy 86 = .ok (.iconst (-1), 1) := by decide +kernel
theorem dX10_paidBy_87 : decode cX10_paidBy 87 = .ok (.ixor, 1) := by decide +kernel
theorem dX10_paidBy_88 : decode cX10_paidBy 88 = .ok (.iand, 1) := by decide +kernel
theorem dX10_paidBy_89 : decode cX10_paidBy 89 = .ok (.istore_n 3, 1) := by decide +kernel
theorem dX10_paidBy_90 : decode cX10_paidBy 90 = .ok (.aload_n 0, 1) := by decide +kernel
theorem dX10_paidBy_91 : decode cX10_paidBy 91 = .ok (.getfield 47, 3) := by decide +kernel
theorem dX10_paidBy_94 : decode cX10_paidBy 94 = .ok (.bipush 19, 2) := by decide +kernel
theorem dX10_paidBy_96 : decode cX10_paidBy 96 = .ok (.iload 8, 2) := by decide +kernel
theorem dX10_paidBy_98 : decode cX10_paidBy 98 = .ok (.iadd, 1) := by decide +kernel
theorem dX10_paidBy_99 : decode cX10_paidBy 99 = .ok (.iaload, 1) := by decide +kernel
theorem dX10_paidBy_100 : decode cX10_paidBy 100 = .ok (.iload 4, 2) := by decide +kernel
theorem dX10_paidBy_102 : decode cX10_paidBy 102 = .ok (.iadd, 1) := by decide +kernel
theorem dX10_paidBy_103 : decode cX10_paidBy 103 = .ok (.aload_n 0, 1) := by decide +kernel
theorem dX10_paidBy_104 : decode cX10_paidBy 104 = .ok (.iload 8, 2) := by decide +kernel
theorem dX10_paidBy_106 : decode cX10_paidBy 106 = .ok (.invokevirtual 206, 3) := by decide +kernel
theorem dX10_paidBy_109 : decode cX10_paidBy 109 = .ok (.if_icmp .gt 7, 3) := by decide +kernel
theorem dX10_paidBy_112 : decode cX10_paidBy 112 = .ok (.iconst 1, 1) := by decide +kernel
theorem dX10_paidBy_113 : decode cX10_paidBy 113 = .ok (.goto 4, 3) := by decide +kernel
theorem dX10_paidBy_116 : decode cX10_paidBy 116 = .ok (.iconst 0, 1) := by decide +kernel
theorem dX10_paidBy_117 : decode cX10_paidBy 117 = .ok (.istore 9, 2) := by decide +kernel
theorem dX10_paidBy_119 : decode cX10_paidBy 119 = .ok (.iload 5, 2) := by decide +kernel
theorem dX10_paidBy_121 : decode cX10_paidBy 121 = .ok (.iload 9, 2) := by decide +kernel
theorem dX10_paidBy_123 : decode cX10_paidBy 123 = .ok (.ifCond .eq 17, 3) := by decide +kernel
theorem dX10_paidBy_126 : decode cX10_paidBy 126 = .ok (.aload_n 0, 1) := by decide +kernel
theorem dX10_paidBy_127 : decode cX10_paidBy 127 = .ok (.aload_n 0, 1) := by decide +kernel
theorem dX10_paidBy_128 : decode cX10_paidBy 128 = .ok (.getfield 56, 3) := by decide +kernel
theorem dX10_paidBy_131 : decode cX10_paidBy 131 = .ok (.iload 8, 2) := by decide +kernel
theorem dX10_paidBy_133 : decode cX10_paidBy 133 = .ok (.iaload, 1) := by decide +kernel
theorem dX10_paidBy_134 : decode cX10_paidBy 134 = .ok (.invokevirtual 223, 3) := by decide +kernel
theorem dX10_paidBy_137 : decode cX10_paidBy 137 = .ok (.goto 4, 3) := by decide +kernel
theorem dX10_paidBy_140 : decode cX10_paidBy 140 = .ok (.iconst 0, 1) := by decide +kernel
theorem dX10_paidBy_141 : decode cX10_paidBy 141 = .ok (.iadd, 1) := by decide +kernel
theorem dX10_paidBy_142 : decode cX10_paidBy 142 = .ok (.istore 5, 2) := by decide +kernel
theorem dX10_paidBy_144 : decode cX10_paidBy 144 = .ok (.iload 4, 2) := by decide +kernel
theorem dX10_paidBy_146 : decode cX10_paidBy 146 = .ok (.iload 9, 2) := by decide +kernel
theorem dX10_paidBy_148 : decode cX10_paidBy 148 = .ok (.ifCond .eq 13, 3) := by decide +kernel
theorem dX10_paidBy_151 : decode cX10_paidBy 151 = .ok (.aload_n 0, 1) := by decide +kernel
theorem dX10_paidBy_152 : decode cX10_paidBy 152 = .ok (.getfield 56, 3) := by decide +kernel
theorem dX10_paidBy_155 : decode cX10_paidBy 155 = .ok (.iload 8, 2) := by decide +kernel
theorem dX10_paidBy_157 : decode cX10_paidBy 157 = .ok (.iaload, 1) := by decide +kernel
theorem dX10_paidBy_158 : decode cX10_paidBy 158 = .ok (.goto 4, 3) := by decide +kernel
theorem dX10_paidBy_161 : decode cX10_paidBy 161 = .ok (.iconst 0, 1) := by decide +kernel
theorem dX10_paidBy_162 : decode cX10_paidBy 162 = .ok (.iadd, 1) := by decide +kernel
theorem dX10_paidBy_163 : decode cX10_paidBy 163 = .ok (.istore 4, 2) := by decide +kernel
theorem dX10_paidBy_165 : decode cX10_paidBy 165 = .ok (.iinc 7 (-1), 3) := by decide +kernel
theorem dX10_paidBy_168 : decode cX10_paidBy 168 = .ok (.goto (-126), 3) := by decide +kernel
theorem dX10_paidBy_171 : decode cX10_paidBy 171 = .ok (.iload 5, 2) := by decide +kernel
theorem dX10_paidBy_173 : decode cX10_paidBy 173 = .ok (.ireturn, 1) := by decide +kernel
theorem dX10_nextFigures_0 : decode cX10_nextFigures 0 = .ok (.iload_n 0, 1) := by decide +kernel
theorem dX10_nextFigures_1 : decode cX10_nextFigures 1 = .ok (.iconst 1, 1) := by decide +kernel
theorem dX10_nextFigures_2 : decode cX10_nextFigures 2 = .ok (.iadd, 1) := by decide +kernel
theorem dX10_nextFigures_3 : decode cX10_nextFigures 3 = .ok (.istore_n 2, 1) := by decide +kernel
theorem dX10_nextFigures_4 : decode cX10_nextFigures 4 = .ok (.iconst 1, 1) := by decide +kernel
theorem dX10_nextFigures_5 : decode cX10_nextFigures 5 = .ok (.istore_n 3, 1) := by decide +kernel
theorem dX10_nextFigures_6 : decode cX10_nextFigures 6 = .ok (.iload_n 2, 1) := by decide +kernel
theorem dX10_nextFigures_7 : decode cX10_nextFigures 7 = .ok (.iload_n 3, 1) := by decide +kernel
theorem dX10_nextFigures_8 : decode cX10_nextFigures 8 = .ok (.idiv, 1) := by decide +kernel
theorem dX10_nextFigures_9 : decode cX10_nextFigures 9 = .ok (.bipush 10, 2) := by decide +kernel
theorem dX10_nextFigures_11 : decode cX10_nextFigures 11 = .ok (.irem, 1) := by decide +kernel
theorem dX10_nextFigures_12 : decode cX10_nextFigures 12 = .ok (.iload_n 1, 1) := by decide +kernel
theorem dX10_nextFigures_13 : decode cX10_nextFigures 13 = .ok (.if_icmp .le 27, 3) := by decide +kernel
theorem dX10_nextFigures_16 : decode cX10_nextFigures 16 = .ok (.iload_n 2, 1) := by decide +kernel
theorem dX10_nextFigures_17 : decode cX10_nextFigures 17 = .ok (.iload_n 3, 1) := by decide +kernel
theorem dX10_nextFigures_18 : decode cX10_nextFigures 18 = .ok (.bipush 10, 2) := by decide +kernel
theorem dX10_nextFigures_20 : decode cX10_nextFigures 20 = .ok (.iload_n 2, 1) := by decide +kernel
theorem dX10_nextFigures_21 : decode cX10_nextFigures 21 = .ok (.iload_n 3, 1) := by decide +kernel
theorem dX10_nextFigures_22 : decode cX10_nextFigures 22 = .ok (.idiv, 1) := by decide +kernel
theorem dX10_nextFigures_23 : decode cX10_nextFigures 23 = .ok (.bipush 10, 2) := by decide +kernel
theorem dX10_nextFigures_25 : decode cX10_nextFigures 25 = .ok (.irem, 1) := by decide +kernel
theorem dX10_nextFigures_26 : decode cX10_nextFigures 26 = .ok (.isub, 1) := by decide +kernel
theorem dX10_nextFigures_27 : decode cX10_nextFigures 27 = .ok (.imul, 1) := by decide +kernel
theorem dX10_nextFigures_28 : decode cX10_nextFigures 28 = .ok (.iload_n 3, 1) := by decide +kernel
theorem dX10_nextFigures_29 : decode cX10_nextFigures 29 = .ok (.iadd, 1) := by decide +kernel
theorem dX10_nextFigures_30 : decode cX10_nextFigures 30 = .ok (.iadd, 1) := by decide +kernel
theorem dX10_nextFigures_31 : decode cX10_nextFigures 31 = .ok (.istore_n 2, 1) := by decide +kernel
theorem dX10_nextFigures_32 : decode cX10_nextFigures 32 = .ok (.iload_n 3, 1) := by decide +kernel
theorem dX10_nextFigures_33 : decode cX10_nextFigures 33 = .ok (.bipush 10, 2) := by decide +kernel
theorem dX10_nextFigures_35 : decode cX10_nextFigures 35 = .ok (.imul, 1) := by decide +kernel
theorem dX10_nextFigures_36 : decode cX10_nextFigures 36 = .ok (.istore_n 3, 1) := by decide +kernel
theorem dX10_nextFigures_37 : decode cX10_nextFigures 37 = .ok (.goto (-31), 3) := by decide +kernel
theorem dX10_nextFigures_40 : decode cX10_nextFigures 40 = .ok (.iload_n 2, 1) := by decide +kernel
theorem dX10_nextFigures_41 : decode cX10_nextFigures 41 = .ok (.ireturn, 1) := by decide +kernel
theorem dX10_queue_0 : decode cX10_queue 0 = .ok (.iload_n 1, 1) := by decide +kernel
theorem dX10_queue_1 : decode cX10_queue 1 = .ok (.iconst 0, 1) := by decide +kernel
theorem dX10_queue_2 : decode cX10_queue 2 = .ok (.iconst 1, 1) := by decide +kernel
theorem dX10_queue_3 : decode cX10_queue 3 = .ok (.invokestatic 82, 3) := by decide +kernel
theorem dX10_queue_6 : decode cX10_queue 6 = .ok (.ifCond .ne 6, 3) := by decide +kernel
theorem dX10_queue_9 : decode cX10_queue 9 = .ok (.ldc 86, 2) := by decide +kernel
theorem dX10_queue_11 : decode cX10_queue 11 = .ok (.ireturn, 1) := by decide +kernel
theorem dX10_queue_12 : decode cX10_queue 12 = .ok (.aload_n 0, 1) := by decide +kernel
theorem dX10_queue_13 : decode cX10_queue 13 = .ok (.getfield 47, 3) := by decide +kernel
theorem dX10_queue_16 : decode cX10_queue 16 = .ok (.iconst 4, 1) := by decide +kernel
theorem dX10_queue_17 : decode cX10_queue 17 = .ok (.iaload, 1) := by decide +kernel
theorem dX10_queue_18 : decode cX10_queue 18 = .ok (.iconst (-1), 1) := by decide +kernel
theorem dX10_queue_19 : decode cX10_queue 19 = .ok (.if_icmp .eq 6, 3) := by decide +kernel
theorem dX10_queue_22 : decode cX10_queue 22 = .ok (.ldc 215, 2) := by decide +kernel
theorem dX10_queue_24 : decode cX10_queue 24 = .ok (.ireturn, 1) := by decide +kernel
theorem dX10_queue_25 : decode cX10_queue 25 = .ok (.aload_n 0, 1) := by decide +kernel
theorem dX10_queue_26 : decode cX10_queue 26 = .ok (.iconst 0, 1) := by decide +kernel
theorem dX10_queue_27 : decode cX10_queue 27 = .ok (.invokevirtual 175, 3) := by decide +kernel
theorem dX10_queue_30 : decode cX10_queue 30 = .ok (.istore_n 2, 1) := by decide +kernel
theorem dX10_queue_31 : decode cX10_queue 31 = .ok (.iload_n 2, 1) := by decide +kernel
theorem dX10_queue_32 : decode cX10_queue 32 = .ok (.ifCond .ne 5, 3) := by decide +kernel
theorem dX10_queue_35 : decode cX10_queue 35 = .ok (.iconst 0, 1) := by decide +kernel
theorem dX10_queue_36 : decode cX10_queue 36 = .ok (.ireturn, 1) := by decide +kernel
theorem dX10_queue_37 : decode cX10_queue 37 = .ok (.iconst 0, 1) := by decide +kernel
theorem dX10_queue_38 : decode cX10_queue 38 = .ok (.istore_n 3, 1) := by decide +kernel
theorem dX10_queue_39 : decode cX10_queue 39 = .ok (.iload_n 3, 1) := by decide +kernel
theorem dX10_queue_40 : decode cX10_queue 40 = .ok (.aload_n 0, 1) := by decide +kernel
theorem dX10_queue_41 : decode cX10_queue 41 = .ok (.getfield 156, 3) := by decide +kernel
theorem dX10_queue_44 : decode cX10_queue 44 = .ok (.if_icmp .ge 30, 3) := by decide +kernel
theorem dX10_queue_47 : decode cX10_queue 47 = .ok (.aload_n 0, 1) := by decide +kernel
theorem dX10_queue_48 : decode cX10_queue 48 = .ok (.iload_n 3, 1) := by decide +kernel
theorem dX10_queue_49 : decode cX10_queue 49 = .ok (.aload_n 0, 1) := by decide +kernel
theorem dX10_queue_50 : decode cX10_queue 50 = .ok (.getfield 47, 3) := by decide +kernel
theorem dX10_queue_53 : decode cX10_queue 53 = .ok (.iconst 3, 1) := by decide +kernel
theorem dX10_queue_54 : decode cX10_queue 54 = .ok (.iaload, 1) := by decide +kernel
theorem dX10_queue_55 : decode cX10_queue 55 = .ok (.invokevirtual 273, 3) := by decide +kernel
theorem dX10_queue_58 : decode cX10_queue 58 = .ok (.aload_n 0, 1) := by decide +kernel
theorem dX10_queue_59 : decode cX10_queue 59 = .ok (.getfield 56, 3) := by decide +kernel
theorem dX10_queue_62 : decode cX10_queue 62 = .ok (.iload_n 3, 1) := by decide +kernel
theorem dX10_queue_63 : decode cX10_queue 63 = .ok (.aload_n 0, 1) := by decide +kernel
theorem dX10_queue_64 : decode cX10_queue 64 = .ok (.getfield 264, 3) := by decide +kernel
theorem dX10_queue_67 : decode cX10_queue 67 = .ok (.iastore, 1) := by decide +kernel
theorem dX10_queue_68 : decode cX10_queue 68 = .ok (.iinc 3 1, 3) := by decide +kernel
theorem dX10_queue_71 : decode cX10_queue 71 = .ok (.goto (-32), 3) := by decide +kernel
theorem dX10_queue_74 : decode cX10_queue 74 = .ok (.iconst 1, 1) := by decide +kernel
theorem dX10_queue_75 : decode cX10_queue 75 = .ok (.istore_n 3, 1) := by decide +kernel
theorem dX10_queue_76 : decode cX10_queue 76 = .ok (.bipush 10, 2) := by decide +kernel
theorem dX10_queue_78 : decode cX10_queue 78 = .ok (.istore 4, 2) := by decide +kernel
theorem dX10_queue_80 : decode cX10_queue 80 = .ok (.iconst 1, 1) := by decide +kernel
theorem dX10_queue_81 : decode cX10_queue 81 = .ok (.istore 5, 2) := by decide +kernel
theorem dX10_queue_83 : decode cX10_queue 83 = .ok (.iload 5, 2) := by decide +kernel
theorem dX10_queue_85 : decode cX10_queue 85 = .ok (.iload_n 2, 1) := by decide +kernel
theorem dX10_queue_86 : decode cX10_queue 86 = .ok (.invokestatic 172, 3) := by decide +kernel
theorem dX10_queue_89 : decode cX10_queue 89 = .ok (.if_icmp .ge 23, 3) := by decide +kernel
theorem dX10_queue_92 : decode cX10_queue 92 = .ok (.bipush 10, 2) := by decide +kernel
theorem dX10_queue_94 : decode cX10_queue 94 = .ok (.iload_n 3, 1) := by decide +kernel
theorem dX10_queue_95 : decode cX10_queue 95 = .ok (.imul, 1) := by decide +kernel
theorem dX10_queue_96 : decode cX10_queue 96 = .ok (.iconst 1, 1) := by decide +kernel
theorem dX10_queue_97 : decode cX10_queue 97 = .ok (.iadd, 1) := by decide +kernel
theorem dX10_queue_98 : decode cX10_queue 98 = .ok (.istore_n 3, 1) := by decide +kernel
theorem dX10_queue_99 : decode cX10_queue 99 = .ok (.iload 4, 2) := by decide +kernel
theorem dX10_queue_101 : decode cX10_queue 101 = .ok (.bipush 10, 2) := by decide +kernel
theorem dX10_queue_103 : decode cX10_queue 103 = .ok (.imul, 1) := by decide +kernel
theorem dX10_queue_104 : decode cX10_queue 104 = .ok (.istore 4, 2) := by decide +kernel
theorem dX10_queue_106 : decode cX10_queue 106 = .ok (.iinc 5 1, 3) := by decide +kernel
theorem dX10_queue_109 : decode cX10_queue 109 = .ok (.goto (-26), 3) := by decide +kernel
theorem dX10_queue_112 : decode cX10_queue 112 = .ok (.iconst 0, 1) := by decide +kernel
theorem dX10_queue_113 : decode cX10_queue 113 = .ok (.istore 5, 2) := by decide +kernel
theorem dX10_queue_115 : decode cX10_queue 115 = .ok (.iconst (-1), 1) := by decide +kernel
theorem dX10_queue_116 : decode cX10_queue 116 = .ok (.istore 6, 2) := by decide +kernel
theorem dX10_queue_118 : decode cX10_queue 118 = .ok (.iload_n 3, 1) := by decide +kernel
theorem dX10_queue_119 : decode cX10_queue 119 = .ok (.iload 4, 2) := by decide +kernel
theorem dX10_queue_121 : decode cX10_queue 121 = .ok (.if_icmp .ge 54, 3) := by decide +kernel
theorem dX10_queue_124 : decode cX10_queue 124 = .ok (.aload_n 0, 1) := by decide +kernel
theorem dX10_queue_125 : decode cX10_queue 125 = .ok (.iload_n 3, 1) := by decide +kernel
theorem dX10_queue_126 : decode cX10_queue 126 = .ok (.iload_n 2, 1) := by decide +kernel
theorem dX10_queue_127 : decode cX10_queue 127 = .ok (.invokevirtual 280, 3) := by decide +kernel
theorem dX10_queue_130 : decode cX10_queue 130 = .ok (.istore 7, 2) := by decide +kernel
theorem dX10_queue_132 : decode cX10_queue 132 = .ok (.iload 7, 2) := by decide +kernel
theorem dX10_queue_134 : decode cX10_queue 134 = .ok (.iload 6, 2) := by decide +kernel
theorem dX10_queue_136 : decode cX10_queue 136 = .ok (.if_icmp .le 7, 3) := by decide +kernel
theorem dX10_queue_139 : decode cX10_queue 139 = .ok (.iload_n 3, 1) := by decide +kernel
theorem dX10_queue_140 : decode cX10_queue 140 = .ok (.goto 5, 3) := by decide +kernel
theorem dX10_queue_143 : decode cX10_queue 143 = .ok (.iload 5, 2) := by decide +kernel
theorem dX10_queue_145 : decode cX10_queue 145 = .ok (.istore 5, 2) := by decide +kernel
theorem dX10_queue_147 : decode cX10_queue 147 = .ok (.iload 7, 2) := by decide +kernel
theorem dX10_queue_149 : decode cX10_queue 149 = .ok (.iload 6, 2) := by decide +kernel
theorem dX10_queue_151 : decode cX10_queue 151 = .ok (.if_icmp .le 8, 3) := by decide +kernel
theorem dX10_queue_154 : decode cX10_queue 154 = .ok (.iload 7, 2) := by decide +kernel
theorem dX10_queue_156 : decode cX10_queue 156 = .ok (.goto 5, 3) := by decide +kernel
theorem dX10_queue_159 : decode cX10_queue 159 = .ok (.iload 6, 2) := by decide +kernel
theorem dX10_queue_161 : decode cX10_queue 161 = .ok (.istore 6, 2) := by decide +kernel
theorem dX10_queue_163 : decode cX10_queue 163 = .ok (.iload_n 3, 1) := by decide +kernel
theorem dX10_queue_164 : decode cX10_queue 164 = .ok (.aload_n 0, 1) := by decide +kernel
theorem dX10_queue_165 : decode cX10_queue 165 = .ok (.getfield 156, 3) := by decide +kernel
theorem dX10_queue_168 : decode cX10_queue 168 = .ok (.invokestatic 283, 3) := by decide +kernel
theorem dX10_queue_171 : decode cX10_queue 171 = .ok (.istore_n 3, 1) := by decide +kernel
theorem dX10_queue_172 : decode cX10_queue 172 = .ok (.goto (-54), 3) := by decide +kernel
theorem dX10_queue_175 : decode cX10_queue 175 = .ok (.iload_n 1, 1) := by decide +kernel
theorem dX10_queue_176 : decode cX10_queue 176 = .ok (.ifCond .ne 8, 3) := by decide +kernel
theorem dX10_queue_179 : decode cX10_queue 179 = .ok (.iload 6, 2) := by decide +kernel
theorem dX10_queue_181 : decode cX10_queue 181 = .ok (.goto 5, 3) := by decide +kernel
theorem dX10_queue_184 : decode cX10_queue 184 = .ok (.iload 5, 2) := by decide +kernel
theorem dX10_queue_186 : decode cX10_queue 186 = .ok (.ireturn, 1) := by decide +kernel
theorem dX10_dry_0 : decode cX10_dry 0 = .ok (.iload_n 1, 1) := by decide +kernel
theorem dX10_dry_1 : decode cX10_dry 1 = .ok (.iconst 0, 1) := by decide +kernel
theorem dX10_dry_2 : decode cX10_dry 2 = .ok (.bipush 60, 2) := by decide +kernel
theorem dX10_dry_4 : decode cX10_dry 4 = .ok (.invokestatic 82, 3) := by decide +kernel
theorem dX10_dry_7 : decode cX10_dry 7 = .ok (.ifCond .eq 13, 3) := by decide +kernel
theorem dX10_dry_10 : decode cX10_dry 10 = .ok (.iload_n 2, 1) := by decide +kernel
theorem dX10_dry_11 : decode cX10_dry 11 = .ok (.iconst 0, 1) := by decide +kernel
theorem dX10_dry_12 : decode cX10_dry 12 = .ok (.bipush 100, 2) := by decide +kernel
theorem dX10_dry_14 : decode cX10_dry 14 = .ok (.invokestatic 82, 3) := by decide +kernel
theorem dX10_dry_17 : decode cX10_dry 17 = .ok (.ifCond .ne 6, 3) := by decide +kernel
theorem dX10_dry_20 : decode cX10_dry 20 = .ok (.ldc 86, 2) := by decide +kernel
theorem dX10_dry_22 : decode cX10_dry 22 = .ok (.ireturn, 1) := by decide +kernel
theorem dX10_dry_23 : decode cX10_dry 23 = .ok (.ldc2_w 286, 3) := by decide +kernel
theorem dX10_dry_26 : decode cX10_dry 26 = .ok (.lstore_n 3, 1) := by decide +kernel
theorem dX10_dry_27 : decode cX10_dry 27 = .ok (.iconst 0, 1) := by decide +kernel
theorem dX10_dry_28 : decode cX10_dry 28 = .ok (.istore 5, 2) := by decide +kernel
theorem dX10_dry_30 : decode cX10_dry 30 = .ok (.iload 5, 2) := by decide +kernel
theorem dX10_dry_32 : decode cX10_dry 32 = .ok (.iload_n 1, 1) := by decide +kernel
theorem dX10_dry_33 : decode cX10_dry 33 = .ok (.if_icmp .ge 18, 3) := by decide +kernel
theorem dX10_dry_36 : decode cX10_dry 36 = .ok (.lload_n 3, 1) := by decide +kernel
theorem dX10_dry_37 : decode cX10_dry 37 = .ok (.iload_n 2, 1) := by decide +kernel
theorem dX10_dry_38 : decode cX10_dry 38 = .ok (.i2l, 1) := by decide +kernel
theorem dX10_dry_39 : decode cX10_dry 39 = .ok (.lmul, 1) := by decide +kernel
theorem dX10_dry_40 : decode cX10_dry 40 = .ok (.ldc2_w 288, 3) := by decide +kernel
theorem dX10_dry_43 : decode cX10_dry 43 = .ok (.ldiv, 1) := by decide +kernel
theorem dX10_dry_44 : decode cX10_dry 44 = .ok (.lstore_n 3, 1) := by decide +kernel
theorem dX10_dry_45 : decode cX10_dry 45 = .ok (.iinc 5 1, 3) := by decide +kernel
theorem dX10_dry_48 : decode cX10_dry 48 = .ok (.goto (-18), 3) := by decide +kernel
theorem dX10_dry_51 : decode cX10_dry 51 = .ok (.lload_n 3, 1) := by decide +kernel
theorem dX10_dry_52 : decode cX10_dry 52 = .ok (.l2i, 1) := by decide +kernel
theorem dX10_dry_53 : decode cX10_dry 53 = .ok (.ireturn, 1) := by decide +kernel
theorem dX10_stayed_0 : decode cX10_stayed 0 = .ok (.aload_n 0, 1) := by decide +kernel
theorem dX10_stayed_1 : decode cX10_stayed 1 = .ok (.iload_n 1, 1) := by decide +kernel
theorem dX10_stayed_2 : decode cX10_stayed 2 = .ok (.invokevirtual 203, 3) := by decide +kernel
theorem dX10_stayed_5 : decode cX10_stayed 5 = .ok (.ifCond .ne 6, 3) := by decide +kernel
theorem dX10_stayed_8 : decode cX10_stayed 8 = .ok (.ldc 193, 2) := by decide +kernel
theorem dX10_stayed_10 : decode cX10_stayed 10 = .ok (.ireturn, 1) := by decide +kernel
theorem dX10_stayed_11 : decode cX10_stayed 11 = .ok (.iload_n 2, 1) := by decide +kernel
theorem dX10_stayed_12 : decode cX10_stayed 12 = .ok (.iconst 0, 1) := by decide +kernel
theorem dX10_stayed_13 : decode cX10_stayed 13 = .ok (.bipush 100, 2) := by decide +kernel
theorem dX10_stayed_15 : decode cX10_stayed 15 = .ok (.invokestatic 82, 3) := by decide +kernel
theorem dX10_stayed_18 : decode cX10_stayed 18 = .ok (.ifCond .ne 6, 3) := by decide +kernel
theorem dX10_stayed_21 : decode cX10_stayed 21 = .ok (.ldc 86, 2) := by decide +kernel
theorem dX10_stayed_23 : decode cX10_stayed 23 = .ok (.ireturn, 1) := by decide +kernel
theorem dX10_stayed_24 : decode cX10_stayed 24 = .ok (.aload_n 0, 1) := by decide +kernel
theorem dX10_stayed_25 : decode cX10_stayed 25 = .ok (.getfield 162, 3) := by decide +kernel
theorem dX10_stayed_28 : decode cX10_stayed 28 = .ok (.bipush 6, 2) := by decide +kernel
theorem dX10_stayed_30 : decode cX10_stayed 30 = .ok (.if_icmp .ne 6, 3) := by decide +kernel
theorem dX10_stayed_33 : decode cX10_stayed 33 = .ok (.ldc 90, 2) := by decide +kernel
theorem dX10_stayed_35 : decode cX10_stayed 35 = .ok (.ireturn, 1) := by decide +kernel
theorem dX10_stayed_36 : decode cX10_stayed 36 = .ok (.aload_n 0, 1) := by decide +kernel
theorem dX10_stayed_37 : decode cX10_stayed 37 = .ok (.getfield 59, 3) := by decide +kernel
theorem dX10_stayed_40 : decode cX10_stayed 40 = .ok (.aload_n 0, 1) := by decide +kernel
theorem dX10_stayed_41 : decode cX10_stayed 41 = .ok (.getfield 162, 3) := by decide +kernel
theorem dX10_stayed_44 : decode cX10_stayed 44 = .ok (.iload_n 1, 1) := by decide +kernel
theorem dX10_stayed_45 : decode cX10_stayed 45 = .ok (.iastore, 1) := by decide +kernel
theorem dX10_stayed_46 : decode cX10_stayed 46 = .ok (.aload_n 0, 1) := by decide +kernel
theorem dX10_stayed_47 : decode cX10_stayed 47 = .ok (.getfield 62, 3) := by decide +kernel
theorem dX10_stayed_50 : decode cX10_stayed 50 = .ok (.aload_n 0, 1) := by decide +kernel
theorem dX10_stayed_51 : decode cX10_stayed 51 = .ok (.getfield 162, 3) := by decide +kernel
theorem dX10_stayed_54 : decode cX10_stayed 54 = .ok (.iload_n 2, 1) := by decide +kernel
theorem dX10_stayed_55 : decode cX10_stayed 55 = .ok (.iastore, 1) := by decide +kernel
theorem dX10_stayed_56 : decode cX10_stayed 56 = .ok (.aload_n 0, 1) := by decide +kernel
theorem dX10_stayed_57 : decode cX10_stayed 57 = .ok (.dup, 1) := by decide +kernel
theorem dX10_stayed_58 : decode cX10_stayed 58 = .ok (.getfield 162, 3) := by decide +kernel
theorem dX10_stayed_61 : decode cX10_stayed 61 = .ok (.iconst 1, 1) := by decide +kernel
theorem dX10_stayed_62 : decode cX10_stayed 62 = .ok (.iadd, 1) := by decide +kernel
theorem dX10_stayed_63 : decode cX10_stayed 63 = .ok (.putfield 162, 3) := by decide +kernel
theorem dX10_stayed_66 : decode cX10_stayed 66 = .ok (.aload_n 0, 1) := by decide +kernel
theorem dX10_stayed_67 : decode cX10_stayed 67 = .ok (.getfield 162, 3) := by decide +kernel
theorem dX10_stayed_70 : decode cX10_stayed 70 = .ok (.ireturn, 1) := by decide +kernel
theorem dX10_couldBe_0 : decode cX10_couldBe 0 = .ok (.iconst 0, 1) := by decide +kernel
theorem dX10_couldBe_1 : decode cX10_couldBe 1 = .ok (.istore_n 1, 1) := by decide +kernel
theorem dX10_couldBe_2 : decode cX10_couldBe 2 = .ok (.iconst 0, 1) := by decide +kernel
theorem dX10_couldBe_3 : decode cX10_couldBe 3 = .ok (.istore_n 2, 1) := by decide +kernel
theorem dX10_couldBe_4 : decode cX10_couldBe 4 = .ok (.iload_n 2, 1) := by decide +kernel
theorem dX10_couldBe_5 : decode cX10_couldBe 5 = .ok (.aload_n 0, 1) := by decide +kernel
theorem dX10_couldBe_6 : decode cX10_couldBe 6 = .ok (.getfield 153, 3) := by decide +kernel
theorem dX10_couldBe_9 : decode cX10_couldBe 9 = .ok (.if_icmp .ge 75, 3) := by decide +kernel
theorem dX10_couldBe_12 : decode cX10_couldBe 12 = .ok (.iconst 1, 1) := by decide +kernel
theorem dX10_couldBe_13 : decode cX10_couldBe 13 = .ok (.istore_n 3, 1) := by decide +kernel
theorem dX10_couldBe_14 : decode cX10_couldBe 14 = .ok (.iconst 0, 1) := by decide +kernel
theorem dX10_couldBe_15 : decode cX10_couldBe 15 = .ok (.istore 4, 2) := by decide +kernel
theorem dX10_couldBe_17 : decode cX10_couldBe 17 = .ok (.iload 4, 2) := by decide +kernel
theorem dX10_couldBe_19 : decode cX10_couldBe 19 = .ok (.aload_n 0, 1) := by decide +kernel
theorem dX10_couldBe_20 : decode cX10_couldBe 20 = .ok (.getfield 162, 3) := by decide +kernel
theorem dX10_couldBe_23 : decode cX10_couldBe 23 = .ok (.if_icmp .ge 41, 3) := by decide +kernel
theorem dX10_couldBe_26 : decode cX10_couldBe 26 = .ok (.iload_n 3, 1) := by decide +kernel
theorem dX10_couldBe_27 : decode cX10_couldBe 27 = .ok (.ifCond .eq 29, 3) := by decide +kernel
theorem dX10_couldBe_30 : decode cX10_couldBe 30 = .ok (.aload_n 0, 1) := by decide +kernel
theorem dX10_couldBe_31 : decode cX10_couldBe 31 = .ok (.aload_n 0, 1) := by decide +kernel
theorem dX10_couldBe_32 : decode cX10_couldBe 32 = .ok (.getfield 59, 3) := by decide +kernel
theorem dX10_couldBe_35 : decode cX10_couldBe 35 = .ok (.iload 4, 2) := by decide +kernel
theorem dX10_couldBe_37 : decode cX10_couldBe 37 = .ok (.iaload, 1) := by decide +kernel
theorem dX10_couldBe_38 : decode cX10_couldBe 38 = .ok (.iload_n 2, 1) := by decide +kernel
theorem dX10_couldBe_39 : decode cX10_couldBe 39 = .ok (.invokevirtual 200, 3) := by decide +kernel
theorem dX10_couldBe_42 : decode cX10_couldBe 42 = .ok (.aload_n 0, 1) := by decide +kernel
theorem dX10_couldBe_43 : decode cX10_couldBe 43 = .ok (.getfield 62, 3) := by decide +kernel
theorem dX10_couldBe_46 : decode cX10_couldBe 46 = .ok (.iload 4, 2) := by decide +kernel
theorem dX10_couldBe_48 : decode cX10_couldBe 48 = .ok (.iaload, 1) := by decide +kernel
theorem dX10_couldBe_49 : decode cX10_couldBe 49 = .ok (.if_icmp .ne 7, 3) := by decide +kernel
theorem dX10_couldBe_52 : decode cX10_couldBe 52 = .ok (.iconst 1, 1) := by decide +kernel
theorem dX10_couldBe_53 : decode cX10_couldBe 53 = .ok (.goto 4, 3) := by decide +kernel
theorem dX10_couldBe_56 : decode cX10_couldBe 56 = .ok (.iconst 0, 1) := by decide +kernel
theorem dX10_couldBe_57 : decode cX10_couldBe 57 = .ok (.istore_n 3, 1) := by decide +kernel
theorem dX10_couldBe_58 : decode cX10_couldBe 58 = .ok (.iinc 4 1, 3) := by decide +kernel
theorem dX10_couldBe_61 : decode cX10_couldBe 61 = .ok (.goto (-44), 3) := by decide +kernel
theorem dX10_couldBe_64 : decode cX10_couldBe 64 = .ok (.iload_n 1, 1) := by decide +kernel
theorem dX10_couldBe_65 : decode cX10_couldBe 65 = .ok (.iload_n 3, 1) := by decide +kernel
theorem dX10_couldBe_66 : decode cX10_couldBe 66 = .ok (.ifCond .eq 9, 3) := by decide +kernel
theorem dX10_couldBe_69 : decode cX10_couldBe 69 = .ok (.iconst 1, 1) := by decide +kernel
theorem dX10_couldBe_70 : decode cX10_couldBe 70 = .ok (.iload_n 2, 1) := by decide +kernel
theorem dX10_couldBe_71 : decode cX10_couldBe 71 = .ok (.ishl, 1) := by decide +kernel
theorem dX10_couldBe_72 : decode cX10_couldBe 72 = .ok (.goto 4, 3) := by decide +kernel
theorem dX10_couldBe_75 : decode cX10_couldBe 75 = .ok (.iconst 0, 1) := by decide +kernel
theorem dX10_couldBe_76 : decode cX10_couldBe 76 = .ok (.ior, 1) := by decide +kernel
theorem dX10_couldBe_77 : decode cX10_couldBe 77 = .ok (.istore_n 1, 1) := by decide +kernel
theorem dX10_couldBe_78 : decode cX10_couldBe 78 = .ok (.iinc 2 1, 3) := by decide +kernel
theorem dX10_couldBe_81 : decode cX10_couldBe 81 = .ok (.goto (-77), 3) := by decide +kernel
theorem dX10_couldBe_84 : decode cX10_couldBe 84 = .ok (.iload_n 1, 1) := by decide +kernel
theorem dX10_couldBe_85 : decode cX10_couldBe 85 = .ok (.ireturn, 1) := by decide +kernel
theorem dX10_alike_0 : decode cX10_alike 0 = .ok (.iconst 0, 1) := by decide +kernel
theorem dX10_alike_1 : decode cX10_alike 1 = .ok (.istore_n 3, 1) := by decide +kernel
theorem dX10_alike_2 : decode cX10_alike 2 = .ok (.iconst 0, 1) := by decide +kernel
theorem dX10_alike_3 : decode cX10_alike 3 = .ok (.istore 4, 2) := by decide +kernel
theorem dX10_alike_5 : decode cX10_alike 5 = .ok (.iload 4, 2) := by decide +kernel
theorem dX10_alike_7 : decode cX10_alike 7 = .ok (.aload_n 0, 1) := by decide +kernel
theorem dX10_alike_8 : decode cX10_alike 8 = .ok (.getfield 153, 3) := by decide +kernel
theorem dX10_alike_11 : decode cX10_alike 11 = .ok (.if_icmp .ge 88, 3) := by decide +kernel
theorem dX10_alike_14 : decode cX10_alike 14 = .ok (.iconst 0, 1) := by decide +kernel
theorem dX10_alike_15 : decode cX10_alike 15 = .ok (.istore 5, 2) := by decide +kernel
theorem dX10_alike_17 : decode cX10_alike 17 = .ok (.iconst 0, 1) := by decide +kernel
theorem dX10_alike_18 : decode cX10_alike 18 = .ok (.istore 6, 2) := by decide +kernel
theorem dX10_alike_20 : decode cX10_alike 20 = .ok (.iload 6, 2) := by decide +kernel
theorem dX10_alike_22 : decode cX10_alike 22 = .ok (.aload_n 0, 1) := by decide +kernel
theorem dX10_alike_23 : decode cX10_alike 23 = .ok (.getfield 153, 3) := by decide +kernel
theorem dX10_alike_26 : decode cX10_alike 26 = .ok (.if_icmp .ge 54, 3) := by decide +kernel
theorem dX10_alike_29 : decode cX10_alike 29 = .ok (.iload 5, 2) := by decide +kernel
theorem dX10_alike_31 : decode cX10_alike 31 = .ok (.iload_n 1, 1) := by decide +kernel
theorem dX10_alike_32 : decode cX10_alike 32 = .ok (.iload 4, 2) := by decide +kernel
theorem dX10_alike_34 : decode cX10_alike 34 = .ok (.invokestatic 168, 3) := by decide +kernel
theorem dX10_alike_37 : decode cX10_alike 37 = .ok (.ifCond .eq 33, 3) := by decide +kernel
theorem dX10_alike_40 : decode cX10_alike 40 = .ok (.iload_n 1, 1) := by decide +kernel
theorem dX10_alike_41 : decode cX10_alike 41 = .ok (.iload 6, 2) := by decide +kernel
theorem dX10_alike_43 : decode cX10_alike 43 = .ok (.invokestatic 168, 3) := by decide +kernel
theorem dX10_alike_46 : decode cX10_alike 46 = .ok (.ifCond .eq 24, 3) := by decide +kernel
theorem dX10_alike_49 : decode cX10_alike 49 = .ok (.aload_n 0, 1) := by decide +kernel
theorem dX10_alike_50 : decode cX10_alike 50 = .ok (.iload_n 2, 1) := by decide +kernel
theorem dX10_alike_51 : decode cX10_alike 51 = .ok (.iload 4, 2) := by decide +kernel
theorem dX10_alike_53 : decode cX10_alike 53 = .ok (.invokevirtual 200, 3) := by decide +kernel
theorem dX10_alike_56 : decode cX10_alike 56 = .ok (.aload_n 0, 1) := by decide +kernel
theorem dX10_alike_57 : decode cX10_alike 57 = .ok (.iload_n 2, 1) := by decide +kernel
theorem dX10_alike_58 : decode cX10_alike 58 = .ok (.iload 6, 2) := by decide +kernel
theorem dX10_alike_60 : decode cX10_alike 60 = .ok (.invokevirtual 200, 3) := by decide +kernel
theorem dX10_alike_63 : decode cX10_alike 63 = .ok (.if_icmp .ne 7, 3) := by decide +kernel
theorem dX10_alike_66 : decode cX10_alike 66 = .ok (.iconst 1, 1) := by decide +kernel
theorem dX10_alike_67 : decode cX10_alike 67 = .ok (.goto 4, 3) := by decide +kernel
theorem dX10_alike_70 : decode cX10_alike 70 = .ok (.iconst 0, 1) := by decide +kernel
theorem dX10_alike_71 : decode cX10_alike 71 = .ok (.iadd, 1) := by decide +kernel
theorem dX10_alike_72 : decode cX10_alike 72 = .ok (.istore 5, 2) := by decide +kernel
theorem dX10_alike_74 : decode cX10_alike 74 = .ok (.iinc 6 1, 3) := by decide +kernel
theorem dX10_alike_77 : decode cX10_alike 77 = .ok (.goto (-57), 3) := by decide +kernel
theorem dX10_alike_80 : decode cX10_alike 80 = .ok (.iload 5, 2) := by decide +kernel
theorem dX10_alike_82 : decode cX10_alike 82 = .ok (.iload_n 3, 1) := by decide +kernel
theorem dX10_alike_83 : decode cX10_alike 83 = .ok (.if_icmp .le 8, 3) := by decide +kernel
theorem dX10_alike_86 : decode cX10_alike 86 = .ok (.iload 5, 2) := by decide +kernel
theorem dX10_alike_88 : decode cX10_alike 88 = .ok (.goto 4, 3) := by decide +kernel
theorem dX10_alike_91 : decode cX10_alike 91 = .ok (.iload_n 3, 1) := by decide +kernel
theorem dX10_alike_92 : decode cX10_alike 92 = .ok (.istore_n 3, 1) := by decide +kernel
theorem dX10_alike_93 : decode cX10_alike 93 = .ok (.iinc 4 1, 3) := by decide +kernel
theorem dX10_alike_96 : decode cX10_alike 96 = .ok (.goto (-91), 3) := by decide +kernel
theorem dX10_alike_99 : decode cX10_alike 99 = .ok (.iload_n 3, 1) := by decide +kernel
theorem dX10_alike_100 : decode cX10_alike 100 = .ok (.ireturn, 1) := by decide +kernel
theorem dX10_ask_0 : decode cX10_ask 0 = .ok (.aload_n 0, 1) := by decide +kernel
theorem dX10_ask_1 : decode cX10_ask 1 = .ok (.invokevirtual 290, 3) := by decide +kernel
theorem dX10_ask_4 : decode cX10_ask 4 = .ok (.istore_n 1, 1) := by decide +kernel
theorem dX10_ask_5 : decode cX10_ask 5 = .ok (.iconst (-1), 1) := by decide +kernel
theorem dX10_ask_6 : decode cX10_ask 6 = .ok (.istore_n 2, 1) := by decide +kernel
theorem dX10_ask_7 : decode cX10_ask 7 = .ok (.iload_n 1, 1) := by decide +kernel
theorem dX10_ask_8 : decode cX10_ask 8 = .ok (.invokestatic 172, 3) := by decide +kernel
theorem dX10_ask_11 : decode cX10_ask 11 = .ok (.istore_n 3, 1) := by decide +kernel
theorem dX10_ask_12 : decode cX10_ask 12 = .ok (.iconst 0, 1) := by decide +kernel
theorem dX10_ask_13 : decode cX10_ask 13 = .ok (.istore 4, 2) := by decide +kernel
theorem dX10_ask_15 : decode cX10_ask 15 = .ok (.iload 4, 2) := by decide +kernel
theorem dX10_ask_17 : decode cX10_ask 17 = .ok (.aload_n 0, 1) := by decide +kernel
theorem dX10_ask_18 : decode cX10_ask 18 = .ok (.getfield 156, 3) := by decide +kernel
theorem dX10_ask_21 : decode cX10_ask 21 = .ok (.if_icmp .ge 44, 3) := by decide +kernel
theorem dX10_ask_24 : decode cX10_ask 24 = .ok (.aload_n 0, 1) := by decide +kernel
theorem dX10_ask_25 : decode cX10_ask 25 = .ok (.iload_n 1, 1) := by decide +kernel
theorem dX10_ask_26 : decode cX10_ask 26 = .ok (.iload 4, 2) := by decide +kernel
theorem dX10_ask_28 : decode cX10_ask 28 = .ok (.invokevirtual 293, 3) := by decide +kernel
theorem dX10_ask_31 : decode cX10_ask 31 = .ok (.istore 5, 2) := by decide +kernel
theorem dX10_ask_33 : decode cX10_ask 33 = .ok (.iload 5, 2) := by decide +kernel
theorem dX10_ask_35 : decode cX10_ask 35 = .ok (.iload_n 3, 1) := by decide +kernel
theorem dX10_ask_36 : decode cX10_ask 36 = .ok (.if_icmp .ge 8, 3) := by decide +kernel
theorem dX10_ask_39 : decode cX10_ask 39 = .ok (.iload 4, 2) := by decide +kernel
theorem dX10_ask_41 : decode cX10_ask 41 = .ok (.goto 4, 3) := by decide +kernel
theorem dX10_ask_44 : decode cX10_ask 44 = .ok (.iload_n 2, 1) := by decide +kernel
theorem dX10_ask_45 : decode cX10_ask 45 = .ok (.istore_n 2, 1) := by decide +kernel
theorem dX10_ask_46 : decode cX10_ask 46 = .ok (.iload 5, 2) := by decide +kernel
theorem dX10_ask_48 : decode cX10_ask 48 = .ok (.iload_n 3, 1) := by decide +kernel
theorem dX10_ask_49 : decode cX10_ask 49 = .ok (.if_icmp .ge 8, 3) := by decide +kernel
theorem dX10_ask_52 : decode cX10_ask 52 = .ok (.iload 5, 2) := by decide +kernel
theorem dX10_ask_54 : decode cX10_ask 54 = .ok (.goto 4, 3) := by decide +kernel
theorem dX10_ask_57 : decode cX10_ask 57 = .ok (.iload_n 3, 1) := by decide +kernel
theorem dX10_ask_58 : decode cX10_ask 58 = .ok (.istore_n 3, 1) := by decide +kernel
theorem dX10_ask_59 : decode cX10_ask 59 = .ok (.iinc 4 1, 3) := by decide +kernel
theorem dX10_ask_62 : decode cX10_ask 62 = .ok (.goto (-47), 3) := by decide +kernel
theorem dX10_ask_65 : decode cX10_ask 65 = .ok (.iload_n 2, 1) := by decide +kernel
theorem dX10_ask_66 : decode cX10_ask 66 = .ok (.ireturn, 1) := by decide +kernel
theorem dX10_write_0 : decode cX10_write 0 = .ok (.aload_n 0, 1) := by decide +kernel
theorem dX10_write_1 : decode cX10_write 1 = .ok (.iload_n 1, 1) := by decide +kernel
theorem dX10_write_2 : decode cX10_write 2 = .ok (.invokevirtual 203, 3) := by decide +kernel
theorem dX10_write_5 : decode cX10_write 5 = .ok (.ifCond .ne 6, 3) := by decide +kernel
theorem dX10_write_8 : decode cX10_write 8 = .ok (.ldc 193, 2) := by decide +kernel
theorem dX10_write_10 : decode cX10_write 10 = .ok (.ireturn, 1) := by decide +kernel
theorem dX10_write_11 : decode cX10_write 11 = .ok (.iload_n 2, 1) := by decide +kernel
theorem dX10_write_12 : decode cX10_write 12 = .ok (.iconst 0, 1) := by decide +kernel
theorem dX10_write_13 : decode cX10_write 13 = .ok (.sipush 9999, 3) := by decide +kernel
theorem dX10_write_16 : decode cX10_write 16 = .ok (.invokestatic 82, 3) := by decide +kernel
theorem dX10_write_19 : decode cX10_write 19 = .ok (.ifCond .ne 6, 3) := by decide +kernel
theorem dX10_write_22 : decode cX10_write 22 = .ok (.ldc 86, 2) := by decide +kernel
theorem dX10_write_24 : decode cX10_write 24 = .ok (.ireturn, 1) := by decide +kernel
theorem dX10_write_25 : decode cX10_write 25 = .ok (.aload_n 0, 1) := by decide +kernel
theorem dX10_write_26 : decode cX10_write 26 = .ok (.getfield 165, 3) := by decide +kernel
theorem dX10_write_29 : decode cX10_write 29 = .ok (.bipush 20, 2) := by decide +kernel
theorem dX10_write_31 : decode cX10_write 31 = .ok (.if_icmp .ne 6, 3) := by decide +kernel
theorem dX10_write_34 : decode cX10_write 34 = .ok (.ldc 90, 2) := by decide +kernel
theorem dX10_write_36 : decode cX10_write 36 = .ok (.ireturn, 1) := by decide +kernel
theorem dX10_write_37 : decode cX10_write 37 = .ok (.aload_n 0, 1) := by decide +kernel
theorem dX10_write_38 : decode cX10_write 38 = .ok (.getfield 65, 3) := by decide +kernel
theorem dX10_write_41 : decode cX10_write 41 = .ok (.aload_n 0, 1) := by decide +kernel
theorem dX10_write_42 : decode cX10_write 42 = .ok (.getfield 165, 3) := by decide +kernel
theorem dX10_write_45 : decode cX10_write 45 = .ok (.iload_n 1, 1) := by decide +kernel
theorem dX10_write_46 : decode cX10_write 46 = .ok (.iastore, 1) := by decide +kernel
theorem dX10_write_47 : decode cX10_write 47 = .ok (.aload_n 0, 1) := by decide +kernel
theorem dX10_write_48 : decode cX10_write 48 = .ok (.getfield 68, 3) := by decide +kernel
theorem dX10_write_51 : decode cX10_write 51 = .ok (.aload_n 0, 1) := by decide +kernel
theorem dX10_write_52 : decode cX10_write 52 = .ok (.getfield 165, 3) := by decide +kernel
theorem dX10_write_55 : decode cX10_write 55 = .ok (.iload_n 2, 1) := by decide +kernel
theorem dX10_write_56 : decode cX10_write 56 = .ok (.iastore, 1) := by decide +kernel
theorem dX10_write_57 : decode cX10_write 57 = .ok (.aload_n 0, 1) := by decide +kernel
theorem dX10_write_58 : decode cX10_write 58 = .ok (.dup, 1) := by decide +kernel
theorem dX10_write_59 : decode cX10_write 59 = .ok (.getfield 165, 3) := by decide +kernel
theorem dX10_write_62 : decode cX10_write 62 = .ok (.iconst 1, 1) := by decide +kernel
theorem dX10_write_63 : decode cX10_write 63 = .ok (.iadd, 1) := by decide +kernel
theorem dX10_write_64 : decode cX10_write 64 = .ok (.putfield 165, 3) := by decide +kernel
theorem dX10_write_67 : decode cX10_write 67 = .ok (.aload_n 0, 1) := by decide +kernel
theorem dX10_write_68 : decode cX10_write 68 = .ok (.getfield 165, 3) := by decide +kernel
theorem dX10_write_71 : decode cX10_write 71 = .ok (.ireturn, 1) := by decide +kernel
theorem dX10_judge_0 : decode cX10_judge 0 = .ok (.iconst 0, 1) := by decide +kernel
theorem dX10_judge_1 : decode cX10_judge 1 = .ok (.istore_n 1, 1) := by decide +kernel
theorem dX10_judge_2 : decode cX10_judge 2 = .ok (.iload_n 1, 1) := by decide +kernel
theorem dX10_judge_3 : decode cX10_judge 3 = .ok (.aload_n 0, 1) := by decide +kernel
theorem dX10_judge_4 : decode cX10_judge 4 = .ok (.getfield 165, 3) := by decide +kernel
theorem dX10_judge_7 : decode cX10_judge 7 = .ok (.if_icmp .ge 34, 3) := by decide +kernel
theorem dX10_judge_10 : decode cX10_judge 10 = .ok (.aload_n 0, 1) := by decide +kernel
theorem dX10_judge_11 : decode cX10_judge 11 = .ok (.getfield 47, 3) := by decide +kernel
theorem dX10_judge_14 : decode cX10_judge 14 = .ok (.bipush 13, 2) := by decide +kernel
theorem dX10_judge_16 : decode cX10_judge 16 = .ok (.aload_n 0, 1) := by decide +kernel
theorem dX10_judge_17 : decode cX10_judge 17 = .ok (.getfield 65, 3) := by decide +kernel
theorem dX10_judge_20 : decode cX10_judge 20 = .ok (.iload_n 1, 1) := by decide +kernel
theorem dX10_judge_21 : decode cX10_judge 21 = .ok (.iaload, 1) := by decide +kernel
theorem dX10_judge_22 : decode cX10_judge 22 = .ok (.iadd, 1) := by decide +kernel
theorem dX10_judge_23 : decode cX10_judge 23 = .ok (.iaload, 1) := by decide +kernel
theorem dX10_judge_24 : decode cX10_judge 24 = .ok (.aload_n 0, 1) := by decide +kernel
theorem dX10_judge_25 : decode cX10_judge 25 = .ok (.getfield 68, 3) := by decide +kernel
theorem dX10_judge_28 : decode cX10_judge 28 = .ok (.iload_n 1, 1) := by decide +kernel
theorem dX10_judge_29 : decode cX10_judge 29 = .ok (.iaload, 1) := by decide +kernel
theorem dX10_judge_30 : decode cX10_judge 30 = .ok (.if_icmp .eq 5, 3) := by decide +kernel
theorem dX10_judge_33 : decode cX10_judge 33 = .ok (.iload_n 1, 1) := by decide +kernel
theorem dX10_judge_34 : decode cX10_judge 34 = .ok (.ireturn, 1) := by decide +kernel
theorem dX10_judge_35 : decode cX10_judge 35 = .ok (.iinc 1 1, 3) := by decide +kernel
theorem dX10_judge_38 : decode cX10_judge 38 = .ok (.goto (-36), 3) := by decide +kernel
theorem dX10_judge_41 : decode cX10_judge 41 = .ok (.iconst (-1), 1) := by decide +kernel
theorem dX10_judge_42 : decode cX10_judge 42 = .ok (.ireturn, 1) := by decide +kernel
theorem dX10_tear_0 : decode cX10_tear 0 = .ok (.aload_n 0, 1) := by decide +kernel
theorem dX10_tear_1 : decode cX10_tear 1 = .ok (.getfield 162, 3) := by decide +kernel
theorem dX10_tear_4 : decode cX10_tear 4 = .ok (.aload_n 0, 1) := by decide +kernel
theorem dX10_tear_5 : decode cX10_tear 5 = .ok (.getfield 165, 3) := by decide +kernel
theorem dX10_tear_8 : decode cX10_tear 8 = .ok (.iadd, 1) := by decide +kernel
theorem dX10_tear_9 : decode cX10_tear 9 = .ok (.istore_n 1, 1) := by decide +kernel
theorem dX10_tear_10 : decode cX10_tear 10 = .ok (.aload_n 0, 1) := by decide +kernel
theorem dX10_tear_11 : decode cX10_tear 11 = .ok (.iconst 0, 1) := by decide +kernel
theorem dX10_tear_12 : decode cX10_tear 12 = .ok (.putfield 162, 3) := by decide +kernel
theorem dX10_tear_15 : decode cX10_tear 15 = .ok (.aload_n 0, 1) := by decide +kernel
theorem dX10_tear_16 : decode cX10_tear 16 = .ok (.iconst 0, 1) := by decide +kernel
theorem dX10_tear_17 : decode cX10_tear 17 = .ok (.putfield 165, 3) := by decide +kernel
theorem dX10_tear_20 : decode cX10_tear 20 = .ok (.iload_n 1, 1) := by decide +kernel
theorem dX10_tear_21 : decode cX10_tear 21 = .ok (.ireturn, 1) := by decide +kernel
theorem dX10_seed_0 : decode cX10_seed 0 = .ok (.iload_n 1, 1) := by decide +kernel
theorem dX10_seed_1 : decode cX10_seed 1 = .ok (.ifCond .ge 6, 3) := by decide +kernel
theorem dX10_seed_4 : decode cX10_seed 4 = .ok (.ldc 86, 2) := by decide +kernel
theorem dX10_seed_6 : decode cX10_seed 6 = .ok (.ireturn, 1) := by decide +kernel
theorem dX10_seed_7 : decode cX10_seed 7 = .ok (.aload_n 0, 1) := by decide +kernel
theorem dX10_seed_8 : decode cX10_seed 8 = .ok (.getfield 243, 3) := by decide +kernel
theorem dX10_seed_11 : decode cX10_seed 11 = .ok (.l2i, 1) := by decide +kernel
theorem dX10_seed_12 : decode cX10_seed 12 = .ok (.istore_n 2, 1) := by decide +kernel
theorem dX10_seed_13 : decode cX10_seed 13 = .ok (.aload_n 0, 1) := by decide +kernel
theorem dX10_seed_14 : decode cX10_seed 14 = .ok (.iload_n 1, 1) := by decide +kernel
theorem dX10_seed_15 : decode cX10_seed 15 = .ok (.i2l, 1) := by decide +kernel
theorem dX10_seed_16 : decode cX10_seed 16 = .ok (.putfield 243, 3) := by decide +kernel
theorem dX10_seed_19 : decode cX10_seed 19 = .ok (.iload_n 2, 1) := by decide +kernel
theorem dX10_seed_20 : decode cX10_seed 20 = .ok (.ireturn, 1) := by decide +kernel
theorem dX10_keep_0 : decode cX10_keep 0 = .ok (.iload_n 1, 1) := by decide +kernel
theorem dX10_keep_1 : decode cX10_keep 1 = .ok (.iconst 0, 1) := by decide +kernel
theorem dX10_keep_2 : decode cX10_keep 2 = .ok (.iconst 1, 1) := by decide +kernel
theorem dX10_keep_3 : decode cX10_keep 3 = .ok (.invokestatic 82, 3) := by decide +kernel
theorem dX10_keep_6 : decode cX10_keep 6 = .ok (.ifCond .ne 6, 3) := by decide +kernel
theorem dX10_keep_9 : decode cX10_keep 9 = .ok (.ldc 193, 2) := by decide +kernel
theorem dX10_keep_11 : decode cX10_keep 11 = .ok (.ireturn, 1) := by decide +kernel
theorem dX10_keep_12 : decode cX10_keep 12 = .ok (.aload_n 0, 1) := by decide +kernel
theorem dX10_keep_13 : decode cX10_keep 13 = .ok (.getfield 71, 3) := by decide +kernel
theorem dX10_keep_16 : decode cX10_keep 16 = .ok (.iload_n 1, 1) := by decide +kernel
theorem dX10_keep_17 : decode cX10_keep 17 = .ok (.iconst 1, 1) := by decide +kernel
theorem dX10_keep_18 : decode cX10_keep 18 = .ok (.bastore, 1) := by decide +kernel
theorem dX10_keep_19 : decode cX10_keep 19 = .ok (.aload_n 0, 1) := by decide +kernel
theorem dX10_keep_20 : decode cX10_keep 20 = .ok (.getfield 78, 3) := by decide +kernel
theorem dX10_keep_23 : decode cX10_keep 23 = .ok (.iload_n 1, 1) := by decide +kernel
theorem dX10_keep_24 : decode cX10_keep 24 = .ok (.aload_n 0, 1) := by decide +kernel
theorem dX10_keep_25 : decode cX10_keep 25 = .ok (.getfield 243, 3) := by decide +kernel
theorem dX10_keep_28 : decode cX10_keep 28 = .ok (.lastore, 1) := by decide +kernel
theorem dX10_keep_29 : decode cX10_keep 29 = .ok (.aload_n 0, 1) := by decide +kernel
theorem dX10_keep_30 : decode cX10_keep 30 = .ok (.iconst 0, 1) := by decide +kernel
theorem dX10_keep_31 : decode cX10_keep 31 = .ok (.putfield 159, 3) := by decide +kernel
theorem dX10_keep_34 : decode cX10_keep 34 = .ok (.iconst 0, 1) := by decide +kernel
theorem dX10_keep_35 : decode cX10_keep 35 = .ok (.istore_n 2, 1) := by decide +kernel
theorem dX10_keep_36 : decode cX10_keep 36 = .ok (.iload_n 2, 1) := by decide +kernel
theorem dX10_keep_37 : decode cX10_keep 37 = .ok (.bipush 25, 2) := by decide +kernel
theorem dX10_keep_39 : decode cX10_keep 39 = .ok (.if_icmp .ge 26, 3) := by decide +kernel
theorem dX10_keep_42 : decode cX10_keep 42 = .ok (.aload_n 0, 1) := by decide +kernel
theorem dX10_keep_43 : decode cX10_keep 43 = .ok (.getfield 75, 3) := by decide +kernel
theorem dX10_keep_46 : decode cX10_keep 46 = .ok (.bipush 25, 2) := by decide +kernel
theorem dX10_keep_48 : decode cX10_keep 48 = .ok (.iload_n 1, 1) := by decide +kernel
theorem dX10_keep_49 : decode cX10_keep 49 = .ok (.imul, 1) := by decide +kernel
theorem dX10_keep_50 : decode cX10_keep 50 = .ok (.iload_n 2, 1) := by decide +kernel
theorem dX10_keep_51 : decode cX10_keep 51 = .ok (.iadd, 1) := by decide +kernel
theorem dX10_keep_52 : decode cX10_keep 52 = .ok (.aload_n 0, 1) := by decide +kernel
theorem dX10_keep_53 : decode cX10_keep 53 = .ok (.getfield 47, 3) := by decide +kernel
theorem dX10_keep_56 : decode cX10_keep 56 = .ok (.iload_n 2, 1) := by decide +kernel
theorem dX10_keep_57 : decode cX10_keep 57 = .ok (.iaload, 1) := by decide +kernel
theorem dX10_keep_58 : decode cX10_keep 58 = .ok (.iastore, 1) := by decide +kernel
theorem dX10_keep_59 : decode cX10_keep 59 = .ok (.iinc 2 1, 3) := by decide +kernel
theorem dX10_keep_62 : decode cX10_keep 62 = .ok (.goto (-26), 3) := by decide +kernel
theorem dX10_keep_65 : decode cX10_keep 65 = .ok (.iconst 1, 1) := by decide +kernel
theorem dX10_keep_66 : decode cX10_keep 66 = .ok (.ireturn, 1) := by decide +kernel
theorem dX10_goBack_0 : decode cX10_goBack 0 = .ok (.iload_n 1, 1) := by decide +kernel
theorem dX10_goBack_1 : decode cX10_goBack 1 = .ok (.iconst 0, 1) := by decide +kernel
theorem dX10_goBack_2 : decode cX10_goBack 2 = .ok (.iconst 1, 1) := by decide +kernel
theorem dX10_goBack_3 : decode cX10_goBack 3 = .ok (.invokestatic 82, 3) := by decide +kernel
theorem dX10_goBack_6 : decode cX10_goBack 6 = .ok (.ifCond .ne 6, 3) := by decide +kernel
theorem dX10_goBack_9 : decode cX10_goBack 9 = .ok (.ldc 193, 2) := by decide +kernel
theorem dX10_goBack_11 : decode cX10_goBack 11 = .ok (.ireturn, 1) := by decide +kernel
theorem dX10_goBack_12 : decode cX10_goBack 12 = .ok (.aload_n 0, 1) := by decide +kernel
theorem dX10_goBack_13 : decode cX10_goBack 13 = .ok (.getfield 71, 3) := by decide +kernel
theorem dX10_goBack_16 : decode cX10_goBack 16 = .ok (.iload_n 1, 1) := by decide +kernel
theorem dX10_goBack_17 : decode cX10_goBack 17 = .ok (.baload, 1) := by decide +kernel
theorem dX10_goBack_18 : decode cX10_goBack 18 = .ok (.ifCond .ne 6, 3) := by decide +kernel
theorem dX10_goBack_21 : decode cX10_goBack 21 = .ok (.ldc 215, 2) := by decide +kernel
theorem dX10_goBack_23 : decode cX10_goBack 23 = .ok (.ireturn, 1) := by decide +kernel
theorem dX10_goBack_24 : decode cX10_goBack 24 = .ok (.aload_n 0, 1) := by decide +kernel
theorem dX10_goBack_25 : decode cX10_goBack 25 = .ok (.aload_n 0, 1) := by decide +kernel
theorem dX10_goBack_26 : decode cX10_goBack 26 = .ok (.getfield 78, 3) := by decide +kernel
theorem dX10_goBack_29 : decode cX10_goBack 29 = .ok (.iload_n 1, 1) := by decide +kernel
theorem dX10_goBack_30 : decode cX10_goBack 30 = .ok (.laload, 1) := by decide +kernel
theorem dX10_goBack_31 : decode cX10_goBack 31 = .ok (.putfield 243, 3) := by decide +kernel
theorem dX10_goBack_34 : decode cX10_goBack 34 = .ok (.aload_n 0, 1) := by decide +kernel
theorem dX10_goBack_35 : decode cX10_goBack 35 = .ok (.iconst 0, 1) := by decide +kernel
theorem dX10_goBack_36 : decode cX10_goBack 36 = .ok (.putfield 159, 3) := by decide +kernel
theorem dX10_goBack_39 : decode cX10_goBack 39 = .ok (.iconst 0, 1) := by decide +kernel
theorem dX10_goBack_40 : decode cX10_goBack 40 = .ok (.istore_n 2, 1) := by decide +kernel
theorem dX10_goBack_41 : decode cX10_goBack 41 = .ok (.iload_n 2, 1) := by decide +kernel
theorem dX10_goBack_42 : decode cX10_goBack 42 = .ok (.bipush 25, 2) := by decide +kernel
theorem dX10_goBack_44 : decode cX10_goBack 44 = .ok (.if_icmp .ge 26, 3) := by decide +kernel
theorem dX10_goBack_47 : decode cX10_goBack 47 = .ok (.aload_n 0, 1) := by decide +kernel
theorem dX10_goBack_48 : decode cX10_goBack 48 = .ok (.getfield 47, 3) := by decide +kernel
theorem dX10_goBack_51 : decode cX10_goBack 51 = .ok (.iload_n 2, 1) := by decide +kernel
theorem dX10_goBack_52 : decode cX10_goBack 52 = .ok (.aload_n 0, 1) := by decide +kernel
theorem dX10_goBack_53 : decode cX10_goBack 53 = .ok (.getfield 75, 3) := by decide +kernel
theorem dX10_goBack_56 : decode cX10_goBack 56 = .ok (.bipush 25, 2) := by decide +kernel
theorem dX10_goBack_58 : decode cX10_goBack 58 = .ok (.iload_n 1, 1) := by decide +kernel
theorem dX10_goBack_59 : decode cX10_goBack 59 = .ok (.imul, 1) := by decide +kernel
theorem dX10_goBack_60 : decode cX10_goBack 60 = .ok (.iload_n 2, 1) := by decide +kernel
theorem dX10_goBack_61 : decode cX10_goBack 61 = .ok (.iadd, 1) := by decide +kernel
theorem dX10_goBack_62 : decode cX10_goBack 62 = .ok (.iaload, 1) := by decide +kernel
theorem dX10_goBack_63 : decode cX10_goBack 63 = .ok (.iastore, 1) := by decide +kernel
theorem dX10_goBack_64 : decode cX10_goBack 64 = .ok (.iinc 2 1, 3) := by decide +kernel
theorem dX10_goBack_67 : decode cX10_goBack 67 = .ok (.goto (-26), 3) := by decide +kernel
theorem dX10_goBack_70 : decode cX10_goBack 70 = .ok (.iconst 1, 1) := by decide +kernel
theorem dX10_goBack_71 : decode cX10_goBack 71 = .ok (.ireturn, 1) := by decide +kernel
