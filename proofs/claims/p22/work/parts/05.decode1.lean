theorem dX5_fill_6 : decode cX5_fill 6 = .ok (.istore 4, 2) := by decide +kernel
theorem dX5_fill_8 : decode cX5_fill 8 = .ok (.iload 4, 2) := by decide +kernel
theorem dX5_fill_10 : decode cX5_fill 10 = .ok (.aload_n 1, 1) := by decide +kernel
theorem dX5_fill_11 : decode cX5_fill 11 = .ok (.getfield 34, 3) := by decide +kernel
theorem dX5_fill_14 : decode cX5_fill 14 = .ok (.if_icmp .ge 93, 3) := by decide +kernel
theorem dX5_fill_17 : decode cX5_fill 17 = .ok (.aload_n 2, 1) := by decide +kernel
theorem dX5_fill_18 : decode cX5_fill 18 = .ok (.getfield 39, 3) := by decide +kernel
theorem dX5_fill_21 : decode cX5_fill 21 = .ok (.iload 4, 2) := by decide +kernel
theorem dX5_fill_23 : decode cX5_fill 23 = .ok (.invokestatic 44, 3) := by decide +kernel
theorem dX5_fill_26 : decode cX5_fill 26 = .ok (.ifCond .eq 75, 3) := by decide +kernel
theorem dX5_fill_29 : decode cX5_fill 29 = .ok (.aload_n 3, 1) := by decide +kernel
theorem dX5_fill_30 : decode cX5_fill 30 = .ok (.aload_n 1, 1) := by decide +kernel
theorem dX5_fill_31 : decode cX5_fill 31 = .ok (.iload 4, 2) := by decide +kernel
theorem dX5_fill_33 : decode cX5_fill 33 = .ok (.aload_n 2, 1) := by decide +kernel
theorem dX5_fill_34 : decode cX5_fill 34 = .ok (.getfield 48, 3) := by decide +kernel
theorem dX5_fill_37 : decode cX5_fill 37 = .ok (.invokevirtual 51, 3) := by decide +kernel
theorem dX5_fill_40 : decode cX5_fill 40 = .ok (.aload_n 0, 1) := by decide +kernel
theorem dX5_fill_41 : decode cX5_fill 41 = .ok (.getfield 15, 3) := by decide +kernel
theorem dX5_fill_44 : decode cX5_fill 44 = .ok (.iload 4, 2) := by decide +kernel
theorem dX5_fill_46 : decode cX5_fill 46 = .ok (.aload_n 3, 1) := by decide +kernel
theorem dX5_fill_47 : decode cX5_fill 47 = .ok (.getfield 57, 3) := by decide +kernel
theorem dX5_fill_50 : decode cX5_fill 50 = .ok (.iastore, 1) := by decide +kernel
theorem dX5_fill_51 : decode cX5_fill 51 = .ok (.aload_n 0, 1) := by decide +kernel
theorem dX5_fill_52 : decode cX5_fill 52 = .ok (.getfield 18, 3) := by decide +kernel
theorem dX5_fill_55 : decode cX5_fill 55 = .ok (.iload 4, 2) := by decide +kernel
theorem dX5_fill_57 : decode cX5_fill 57 = .ok (.aload_n 1, 1) := by decide +kernel
theorem dX5_fill_58 : decode cX5_fill 58 = .ok (.aload_n 3, 1) := by decide +kernel
theorem dX5_fill_59 : decode cX5_fill 59 = .ok (.getfield 57, 3) := by decide +kernel
theorem dX5_fill_62 : decode cX5_fill 62 = .ok (.invokevirtual 59, 3) := by decide +kernel
theorem dX5_fill_65 : decode cX5_fill 65 = .ok (.iastore, 1) := by decide +kernel
theorem dX5_fill_66 : decode cX5_fill 66 = .ok (.aload_n 0, 1) := by decide +kernel
theorem dX5_fill_67 : decode cX5_fill 67 = .ok (.getfield 21, 3) := by decide +kernel
theorem dX5_fill_70 : decode cX5_fill 70 = .ok (.iload 4, 2) := by decide +kernel
theorem dX5_fill_72 : decode cX5_fill 72 = .ok (.aload_n 2, 1) := by decide +kernel
theorem dX5_fill_73 : decode cX5_fill 73 = .ok (.aload_n 1, 1) := by decide +kernel
theorem dX5_fill_74 : decode cX5_fill 74 = .ok (.iload 4, 2) := by decide +kernel
theorem dX5_fill_76 : decode cX5_fill 76 = .ok (.invokevirtual 63, 3) := by decide +kernel
theorem dX5_fill_79 : decode cX5_fill 79 = .ok (.iastore, 1) := by decide +kernel
theorem dX5_fill_80 : decode cX5_fill 80 = .ok (.aload_n 0, 1) := by decide +kernel
theorem dX5_fill_81 : decode cX5_fill 81 = .ok (.getfield 9, 3) := by decide +kernel
theorem dX5_fill_84 : decode cX5_fill 84 = .ok (.aload_n 0, 1) := by decide +kernel
theorem dX5_fill_85 : decode cX5_fill 85 = .ok (.getfield 24, 3) := by decide +kernel
theorem dX5_fill_88 : decode cX5_fill 88 = .ok (.iload 4, 2) := by decide +kernel
theorem dX5_fill_90 : decode cX5_fill 90 = .ok (.iastore, 1) := by decide +kernel
theorem dX5_fill_91 : decode cX5_fill 91 = .ok (.aload_n 0, 1) := by decide +kernel
theorem dX5_fill_92 : decode cX5_fill 92 = .ok (.dup, 1) := by decide +kernel
theorem dX5_fill_93 : decode cX5_fill 93 = .ok (.getfield 24, 3) := by decide +kernel
theorem dX5_fill_96 : decode cX5_fill 96 = .ok (.iconst 1, 1) := by decide +kernel
theorem dX5_fill_97 : decode cX5_fill 97 = .ok (.iadd, 1) := by decide +kernel
theorem dX5_fill_98 : decode cX5_fill 98 = .ok (.putfield 24, 3) := by decide +kernel
theorem dX5_fill_101 : decode cX5_fill 101 = .ok (.iinc 4 1, 3) := by decide +kernel
theorem dX5_fill_104 : decode cX5_fill 104 = .ok (.goto (-96), 3) := by decide +kernel
theorem dX5_fill_107 : decode cX5_fill 107 = .ok (.return_, 1) := by decide +kernel
theorem dX5_tryOrders_0 : decode cX5_tryOrders 0 = .ok (.aload_n 0, 1) := by decide +kernel
theorem dX5_tryOrders_1 : decode cX5_tryOrders 1 = .ok (.iconst (-1), 1) := by decide +kernel
theorem dX5_tryOrders_2 : decode cX5_tryOrders 2 = .ok (.putfield 28, 3) := by decide +kernel
theorem dX5_tryOrders_5 : decode cX5_tryOrders 5 = .ok (.aload_n 0, 1) := by decide +kernel
theorem dX5_tryOrders_6 : decode cX5_tryOrders 6 = .ok (.iconst 0, 1) := by decide +kernel
theorem dX5_tryOrders_7 : decode cX5_tryOrders 7 = .ok (.putfield 31, 3) := by decide +kernel
theorem dX5_tryOrders_10 : decode cX5_tryOrders 10 = .ok (.iconst 1, 1) := by decide +kernel
theorem dX5_tryOrders_11 : decode cX5_tryOrders 11 = .ok (.istore_n 1, 1) := by decide +kernel
theorem dX5_tryOrders_12 : decode cX5_tryOrders 12 = .ok (.iconst 0, 1) := by decide +kernel
theorem dX5_tryOrders_13 : decode cX5_tryOrders 13 = .ok (.istore_n 2, 1) := by decide +kernel
theorem dX5_tryOrders_14 : decode cX5_tryOrders 14 = .ok (.iload_n 2, 1) := by decide +kernel
theorem dX5_tryOrders_15 : decode cX5_tryOrders 15 = .ok (.sipush 720, 3) := by decide +kernel
theorem dX5_tryOrders_18 : decode cX5_tryOrders 18 = .ok (.if_icmp .ge 44, 3) := by decide +kernel
theorem dX5_tryOrders_21 : decode cX5_tryOrders 21 = .ok (.iload_n 1, 1) := by decide +kernel
theorem dX5_tryOrders_22 : decode cX5_tryOrders 22 = .ok (.ifCond .eq 40, 3) := by decide +kernel
theorem dX5_tryOrders_25 : decode cX5_tryOrders 25 = .ok (.aload_n 0, 1) := by decide +kernel
theorem dX5_tryOrders_26 : decode cX5_tryOrders 26 = .ok (.invokevirtual 67, 3) := by decide +kernel
theorem dX5_tryOrders_29 : decode cX5_tryOrders 29 = .ok (.istore_n 3, 1) := by decide +kernel
theorem dX5_tryOrders_30 : decode cX5_tryOrders 30 = .ok (.iload_n 3, 1) := by decide +kernel
theorem dX5_tryOrders_31 : decode cX5_tryOrders 31 = .ok (.aload_n 0, 1) := by decide +kernel
theorem dX5_tryOrders_32 : decode cX5_tryOrders 32 = .ok (.getfield 28, 3) := by decide +kernel
theorem dX5_tryOrders_35 : decode cX5_tryOrders 35 = .ok (.if_icmp .le 16, 3) := by decide +kernel
theorem dX5_tryOrders_38 : decode cX5_tryOrders 38 = .ok (.aload_n 0, 1) := by decide +kernel
theorem dX5_tryOrders_39 : decode cX5_tryOrders 39 = .ok (.iload_n 3, 1) := by decide +kernel
theorem dX5_tryOrders_40 : decode cX5_tryOrders 40 = .ok (.putfield 28, 3) := by decide +kernel
theorem dX5_tryOrders_43 : decode cX5_tryOrders 43 = .ok (.aload_n 0, 1) := by decide +kernel
theorem dX5_tryOrders_44 : decode cX5_tryOrders 44 = .ok (.aload_n 0, 1) := by decide +kernel
theorem dX5_tryOrders_45 : decode cX5_tryOrders 45 = .ok (.invokevirtual 71, 3) := by decide +kernel
theorem dX5_tryOrders_48 : decode cX5_tryOrders 48 = .ok (.putfield 31, 3) := by decide +kernel
theorem dX5_tryOrders_51 : decode cX5_tryOrders 51 = .ok (.aload_n 0, 1) := by decide +kernel
theorem dX5_tryOrders_52 : decode cX5_tryOrders 52 = .ok (.invokevirtual 74, 3) := by decide +kernel
theorem dX5_tryOrders_55 : decode cX5_tryOrders 55 = .ok (.istore_n 1, 1) := by decide +kernel
theorem dX5_tryOrders_56 : decode cX5_tryOrders 56 = .ok (.iinc 2 1, 3) := by decide +kernel
theorem dX5_tryOrders_59 : decode cX5_tryOrders 59 = .ok (.goto (-45), 3) := by decide +kernel
theorem dX5_tryOrders_62 : decode cX5_tryOrders 62 = .ok (.return_, 1) := by decide +kernel
theorem dX5_payOfOrder_0 : decode cX5_payOfOrder 0 = .ok (.iconst 0, 1) := by decide +kernel
theorem dX5_payOfOrder_1 : decode cX5_payOfOrder 1 = .ok (.istore_n 1, 1) := by decide +kernel
theorem dX5_payOfOrder_2 : decode cX5_payOfOrder 2 = .ok (.iconst 0, 1) := by decide +kernel
theorem dX5_payOfOrder_3 : decode cX5_payOfOrder 3 = .ok (.istore_n 2, 1) := by decide +kernel
theorem dX5_payOfOrder_4 : decode cX5_payOfOrder 4 = .ok (.iconst 0, 1) := by decide +kernel
theorem dX5_payOfOrder_5 : decode cX5_payOfOrder 5 = .ok (.istore_n 3, 1) := by decide +kernel
theorem dX5_payOfOrder_6 : decode cX5_payOfOrder 6 = .ok (.iload_n 3, 1) := by decide +kernel
theorem dX5_payOfOrder_7 : decode cX5_payOfOrder 7 = .ok (.aload_n 0, 1) := by decide +kernel
theorem dX5_payOfOrder_8 : decode cX5_payOfOrder 8 = .ok (.getfield 24, 3) := by decide +kernel
theorem dX5_payOfOrder_11 : decode cX5_payOfOrder 11 = .ok (.if_icmp .ge 48, 3) := by decide +kernel
theorem dX5_payOfOrder_14 : decode cX5_payOfOrder 14 = .ok (.aload_n 0, 1) := by decide +kernel
theorem dX5_payOfOrder_15 : decode cX5_payOfOrder 15 = .ok (.getfield 9, 3) := by decide +kernel
theorem dX5_payOfOrder_18 : decode cX5_payOfOrder 18 = .ok (.iload_n 3, 1) := by decide +kernel
theorem dX5_payOfOrder_19 : decode cX5_payOfOrder 19 = .ok (.iaload, 1) := by decide +kernel
theorem dX5_payOfOrder_20 : decode cX5_payOfOrder 20 = .ok (.istore 4, 2) := by decide +kernel
theorem dX5_payOfOrder_22 : decode cX5_payOfOrder 22 = .ok (.iload_n 1, 1) := by decide +kernel
theorem dX5_payOfOrder_23 : decode cX5_payOfOrder 23 = .ok (.aload_n 0, 1) := by decide +kernel
theorem dX5_payOfOrder_24 : decode cX5_payOfOrder 24 = .ok (.getfield 21, 3) := by decide +kernel
theorem dX5_payOfOrder_27 : decode cX5_payOfOrder 27 = .ok (.iload 4, 2) := by decide +kernel
theorem dX5_payOfOrder_29 : decode cX5_payOfOrder 29 = .ok (.iaload, 1) := by decide +kernel
theorem dX5_payOfOrder_30 : decode cX5_payOfOrder 30 = .ok (.if_icmp .gt 23, 3) := by decide +kernel
theorem dX5_payOfOrder_33 : decode cX5_payOfOrder 33 = .ok (.iload_n 1, 1) := by decide +kernel
theorem dX5_payOfOrder_34 : decode cX5_payOfOrder 34 = .ok (.aload_n 0, 1) := by decide +kernel
theorem dX5_payOfOrder_35 : decode cX5_payOfOrder 35 = .ok (.getfield 15, 3) := by decide +kernel
theorem dX5_payOfOrder_38 : decode cX5_payOfOrder 38 = .ok (.iload 4, 2) := by decide +kernel
theorem dX5_payOfOrder_40 : decode cX5_payOfOrder 40 = .ok (.iaload, 1) := by decide +kernel
theorem dX5_payOfOrder_41 : decode cX5_payOfOrder 41 = .ok (.iadd, 1) := by decide +kernel
theorem dX5_payOfOrder_42 : decode cX5_payOfOrder 42 = .ok (.istore_n 1, 1) := by decide +kernel
theorem dX5_payOfOrder_43 : decode cX5_payOfOrder 43 = .ok (.iload_n 2, 1) := by decide +kernel
theorem dX5_payOfOrder_44 : decode cX5_payOfOrder 44 = .ok (.aload_n 0, 1) := by decide +kernel
theorem dX5_payOfOrder_45 : decode cX5_payOfOrder 45 = .ok (.getfield 18, 3) := by decide +kernel
theorem dX5_payOfOrder_48 : decode cX5_payOfOrder 48 = .ok (.iload 4, 2) := by decide +kernel
theorem dX5_payOfOrder_50 : decode cX5_payOfOrder 50 = .ok (.iaload, 1) := by decide +kernel
theorem dX5_payOfOrder_51 : decode cX5_payOfOrder 51 = .ok (.iadd, 1) := by decide +kernel
theorem dX5_payOfOrder_52 : decode cX5_payOfOrder 52 = .ok (.istore_n 2, 1) := by decide +kernel
theorem dX5_payOfOrder_53 : decode cX5_payOfOrder 53 = .ok (.iinc 3 1, 3) := by decide +kernel
theorem dX5_payOfOrder_56 : decode cX5_payOfOrder 56 = .ok (.goto (-50), 3) := by decide +kernel
theorem dX5_payOfOrder_59 : decode cX5_payOfOrder 59 = .ok (.iload_n 2, 1) := by decide +kernel
theorem dX5_payOfOrder_60 : decode cX5_payOfOrder 60 = .ok (.ireturn, 1) := by decide +kernel
theorem dX5_figuresOfOrder_0 : decode cX5_figuresOfOrder 0 = .ok (.iconst 0, 1) := by decide +kernel
theorem dX5_figuresOfOrder_1 : decode cX5_figuresOfOrder 1 = .ok (.istore_n 1, 1) := by decide +kernel
theorem dX5_figuresOfOrder_2 : decode cX5_figuresOfOrder 2 = .ok (.iconst 0, 1) := by decide +kernel
theorem dX5_figuresOfOrder_3 : decode cX5_figuresOfOrder 3 = .ok (.istore_n 2, 1) := by decide +kernel
theorem dX5_figuresOfOrder_4 : decode cX5_figuresOfOrder 4 = .ok (.iload_n 2, 1) := by decide +kernel
theorem dX5_figuresOfOrder_5 : decode cX5_figuresOfOrder 5 = .ok (.aload_n 0, 1) := by decide +kernel
theorem dX5_figuresOfOrder_6 : decode cX5_figuresOfOrder 6 = .ok (.getfield 24, 3) := by decide +kernel
theorem dX5_figuresOfOrder_9 : decode cX5_figuresOfOrder 9 = .ok (.if_icmp .ge 23, 3) := by decide +kernel
theorem dX5_figuresOfOrder_12 : decode cX5_figuresOfOrder 12 = .ok (.iload_n 1, 1) := by decide +kernel
theorem dX5_figuresOfOrder_13 : decode cX5_figuresOfOrder 13 = .ok (.bipush 10, 2) := by decide +kernel
theorem dX5_figuresOfOrder_15 : decode cX5_figuresOfOrder 15 = .ok (.imul, 1) := by decide +kernel
theorem dX5_figuresOfOrder_16 : decode cX5_figuresOfOrder 16 = .ok (.aload_n 0, 1) := by decide +kernel
theorem dX5_figuresOfOrder_17 : decode cX5_figuresOfOrder 17 = .ok (.getfield 9, 3) := by decide +kernel
theorem dX5_figuresOfOrder_20 : decode cX5_figuresOfOrder 20 = .ok (.iload_n 2, 1) := by decide +kernel
theorem dX5_figuresOfOrder_21 : decode cX5_figuresOfOrder 21 = .ok (.iaload, 1) := by decide +kernel
theorem dX5_figuresOfOrder_22 : decode cX5_figuresOfOrder 22 = .ok (.iadd, 1) := by decide +kernel
theorem dX5_figuresOfOrder_23 : decode cX5_figuresOfOrder 23 = .ok (.iconst 1, 1) := by decide +kernel
theorem dX5_figuresOfOrder_24 : decode cX5_figuresOfOrder 24 = .ok (.iadd, 1) := by decide +kernel
theorem dX5_figuresOfOrder_25 : decode cX5_figuresOfOrder 25 = .ok (.istore_n 1, 1) := by decide +kernel
theorem dX5_figuresOfOrder_26 : decode cX5_figuresOfOrder 26 = .ok (.iinc 2 1, 3) := by decide +kernel
theorem dX5_figuresOfOrder_29 : decode cX5_figuresOfOrder 29 = .ok (.goto (-25), 3) := by decide +kernel
theorem dX5_figuresOfOrder_32 : decode cX5_figuresOfOrder 32 = .ok (.iload_n 1, 1) := by decide +kernel
theorem dX5_figuresOfOrder_33 : decode cX5_figuresOfOrder 33 = .ok (.ireturn, 1) := by decide +kernel
theorem dX5_nextOrder_0 : decode cX5_nextOrder 0 = .ok (.aload_n 0, 1) := by decide +kernel
theorem dX5_nextOrder_1 : decode cX5_nextOrder 1 = .ok (.getfield 24, 3) := by decide +kernel
theorem dX5_nextOrder_4 : decode cX5_nextOrder 4 = .ok (.iconst 2, 1) := by decide +kernel
theorem dX5_nextOrder_5 : decode cX5_nextOrder 5 = .ok (.isub, 1) := by decide +kernel
theorem dX5_nextOrder_6 : decode cX5_nextOrder 6 = .ok (.istore_n 1, 1) := by decide +kernel
theorem dX5_nextOrder_7 : decode cX5_nextOrder 7 = .ok (.iload_n 1, 1) := by decide +kernel
theorem dX5_nextOrder_8 : decode cX5_nextOrder 8 = .ok (.ifCond .lt 26, 3) := by decide +kernel
theorem dX5_nextOrder_11 : decode cX5_nextOrder 11 = .ok (.aload_n 0, 1) := by decide +kernel
theorem dX5_nextOrder_12 : decode cX5_nextOrder 12 = .ok (.getfield 9, 3) := by decide +kernel
theorem dX5_nextOrder_15 : decode cX5_nextOrder 15 = .ok (.iload_n 1, 1) := by decide +kernel
theorem dX5_nextOrder_16 : decode cX5_nextOrder 16 = .ok (.iaload, 1) := by decide +kernel
theorem dX5_nextOrder_17 : decode cX5_nextOrder 17 = .ok (.aload_n 0, 1) := by decide +kernel
theorem dX5_nextOrder_18 : decode cX5_nextOrder 18 = .ok (.getfield 9, 3) := by decide +kernel
theorem dX5_nextOrder_21 : decode cX5_nextOrder 21 = .ok (.iload_n 1, 1) := by decide +kernel
theorem dX5_nextOrder_22 : decode cX5_nextOrder 22 = .ok (.iconst 1, 1) := by decide +kernel
theorem dX5_nextOrder_23 : decode cX5_nextOrder 23 = .ok (.iadd, 1) := by decide +kernel
theorem dX5_nextOrder_24 : decode cX5_nextOrder 24 = .ok (.iaload, 1) := by decide +kernel
theorem dX5_nextOrder_25 : decode cX5_nextOrder 25 = .ok (.if_icmp .le 9, 3) := by decide +kernel
theorem dX5_nextOrder_28 : decode cX5_nextOrder 28 = .ok (.iinc 1 (-1), 3) := by decide +kernel
theorem dX5_nextOrder_31 : decode cX5_nextOrder 31 = .ok (.goto (-24), 3) := by decide +kernel
theorem dX5_nextOrder_34 : decode cX5_nextOrder 34 = .ok (.iload_n 1, 1) := by decide +kernel
theorem dX5_nextOrder_35 : decode cX5_nextOrder 35 = .ok (.ifCond .ge 5, 3) := by decide +kernel
theorem dX5_nextOrder_38 : decode cX5_nextOrder 38 = .ok (.iconst 0, 1) := by decide +kernel
theorem dX5_nextOrder_39 : decode cX5_nextOrder 39 = .ok (.ireturn, 1) := by decide +kernel
theorem dX5_nextOrder_40 : decode cX5_nextOrder 40 = .ok (.aload_n 0, 1) := by decide +kernel
theorem dX5_nextOrder_41 : decode cX5_nextOrder 41 = .ok (.getfield 24, 3) := by decide +kernel
theorem dX5_nextOrder_44 : decode cX5_nextOrder 44 = .ok (.iconst 1, 1) := by decide +kernel
theorem dX5_nextOrder_45 : decode cX5_nextOrder 45 = .ok (.isub, 1) := by decide +kernel
theorem dX5_nextOrder_46 : decode cX5_nextOrder 46 = .ok (.istore_n 2, 1) := by decide +kernel
theorem dX5_nextOrder_47 : decode cX5_nextOrder 47 = .ok (.iload_n 2, 1) := by decide +kernel
theorem dX5_nextOrder_48 : decode cX5_nextOrder 48 = .ok (.iload_n 1, 1) := by decide +kernel
theorem dX5_nextOrder_49 : decode cX5_nextOrder 49 = .ok (.if_icmp .le 24, 3) := by decide +kernel
theorem dX5_nextOrder_52 : decode cX5_nextOrder 52 = .ok (.aload_n 0, 1) := by decide +kernel
theorem dX5_nextOrder_53 : decode cX5_nextOrder 53 = .ok (.getfield 9, 3) := by decide +kernel
theorem dX5_nextOrder_56 : decode cX5_nextOrder 56 = .ok (.iload_n 2, 1) := by decide +kernel
theorem dX5_nextOrder_57 : decode cX5_nextOrder 57 = .ok (.iaload, 1) := by decide +kernel
theorem dX5_nextOrder_58 : decode cX5_nextOrder 58 = .ok (.aload_n 0, 1) := by decide +kernel
theorem dX5_nextOrder_59 : decode cX5_nextOrder 59 = .ok (.getfield 9, 3) := by decide +kernel
theorem dX5_nextOrder_62 : decode cX5_nextOrder 62 = .ok (.iload_n 1, 1) := by decide +kernel
theorem dX5_nextOrder_63 : decode cX5_nextOrder 63 = .ok (.iaload, 1) := by decide +kernel
theorem dX5_nextOrder_64 : decode cX5_nextOrder 64 = .ok (.if_icmp .ge 9, 3) := by decide +kernel
theorem dX5_nextOrder_67 : decode cX5_nextOrder 67 = .ok (.iinc 2 (-1), 3) := by decide +kernel
theorem dX5_nextOrder_70 : decode cX5_nextOrder 70 = .ok (.goto (-23), 3) := by decide +kernel
theorem dX5_nextOrder_73 : decode cX5_nextOrder 73 = .ok (.aload_n 0, 1) := by decide +kernel
theorem dX5_nextOrder_74 : decode cX5_nextOrder 74 = .ok (.iload_n 1, 1) := by decide +kernel
theorem dX5_nextOrder_75 : decode cX5_nextOrder 75 = .ok (.iload_n 2, 1) := by decide +kernel
theorem dX5_nextOrder_76 : decode cX5_nextOrder 76 = .ok (.invokevirtual 78, 3) := by decide +kernel
theorem dX5_nextOrder_79 : decode cX5_nextOrder 79 = .ok (.iload_n 1, 1) := by decide +kernel
theorem dX5_nextOrder_80 : decode cX5_nextOrder 80 = .ok (.iconst 1, 1) := by decide +kernel
theorem dX5_nextOrder_81 : decode cX5_nextOrder 81 = .ok (.iadd, 1) := by decide +kernel
theorem dX5_nextOrder_82 : decode cX5_nextOrder 82 = .ok (.istore_n 3, 1) := by decide +kernel
theorem dX5_nextOrder_83 : decode cX5_nextOrder 83 = .ok (.aload_n 0, 1) := by decide +kernel
theorem dX5_nextOrder_84 : decode cX5_nextOrder 84 = .ok (.getfield 24, 3) := by decide +kernel
theorem dX5_nextOrder_87 : decode cX5_nextOrder 87 = .ok (.iconst 1, 1) := by decide +kernel
theorem dX5_nextOrder_88 : decode cX5_nextOrder 88 = .ok (.isub, 1) := by decide +kernel
theorem dX5_nextOrder_89 : decode cX5_nextOrder 89 = .ok (.istore 4, 2) := by decide +kernel
theorem dX5_nextOrder_91 : decode cX5_nextOrder 91 = .ok (.iload_n 3, 1) := by decide +kernel
theorem dX5_nextOrder_92 : decode cX5_nextOrder 92 = .ok (.iload 4, 2) := by decide +kernel
theorem dX5_nextOrder_94 : decode cX5_nextOrder 94 = .ok (.if_icmp .ge 19, 3) := by decide +kernel
theorem dX5_nextOrder_97 : decode cX5_nextOrder 97 = .ok (.aload_n 0, 1) := by decide +kernel
theorem dX5_nextOrder_98 : decode cX5_nextOrder 98 = .ok (.iload_n 3, 1) := by decide +kernel
theorem dX5_nextOrder_99 : decode cX5_nextOrder 99 = .ok (.iload 4, 2) := by decide +kernel
theorem dX5_nextOrder_101 : decode cX5_nextOrder 101 = .ok (.invokevirtual 78, 3) := by decide +kernel
theorem dX5_nextOrder_104 : decode cX5_nextOrder 104 = .ok (.iinc 3 1, 3) := by decide +kernel
theorem dX5_nextOrder_107 : decode cX5_nextOrder 107 = .ok (.iinc 4 (-1), 3) := by decide +kernel
theorem dX5_nextOrder_110 : decode cX5_nextOrder 110 = .ok (.goto (-19), 3) := by decide +kernel
theorem dX5_nextOrder_113 : decode cX5_nextOrder 113 = .ok (.iconst 1, 1) := by decide +kernel
theorem dX5_nextOrder_114 : decode cX5_nextOrder 114 = .ok (.ireturn, 1) := by decide +kernel
theorem dX5_swap_0 : decode cX5_swap 0 = .ok (.aload_n 0, 1) := by decide +kernel
theorem dX5_swap_1 : decode cX5_swap 1 = .ok (.getfield 9, 3) := by decide +kernel
theorem dX5_swap_4 : decode cX5_swap 4 = .ok (.iload_n 1, 1) := by decide +kernel
theorem dX5_swap_5 : decode cX5_swap 5 = .ok (.iaload, 1) := by decide +kernel
theorem dX5_swap_6 : decode cX5_swap 6 = .ok (.istore_n 3, 1) := by decide +kernel
theorem dX5_swap_7 : decode cX5_swap 7 = .ok (.aload_n 0, 1) := by decide +kernel
theorem dX5_swap_8 : decode cX5_swap 8 = .ok (.getfield 9, 3) := by decide +kernel
theorem dX5_swap_11 : decode cX5_swap 11 = .ok (.iload_n 1, 1) := by decide +kernel
theorem dX5_swap_12 : decode cX5_swap 12 = .ok (.aload_n 0, 1) := by decide +kernel
theorem dX5_swap_13 : decode cX5_swap 13 = .ok (.getfield 9, 3) := by decide +kernel
theorem dX5_swap_16 : decode cX5_swap 16 = .ok (.iload_n 2, 1) := by decide +kernel
theorem dX5_swap_17 : decode cX5_swap 17 = .ok (.iaload, 1) := by decide +kernel
theorem dX5_swap_18 : decode cX5_swap 18 = .ok (.iastore, 1) := by decide +kernel
theorem dX5_swap_19 : decode cX5_swap 19 = .ok (.aload_n 0, 1) := by decide +kernel
theorem dX5_swap_20 : decode cX5_swap 20 = .ok (.getfield 9, 3) := by decide +kernel
theorem dX5_swap_23 : decode cX5_swap 23 = .ok (.iload_n 2, 1) := by decide +kernel
theorem dX5_swap_24 : decode cX5_swap 24 = .ok (.iload_n 3, 1) := by decide +kernel
theorem dX5_swap_25 : decode cX5_swap 25 = .ok (.iastore, 1) := by decide +kernel
theorem dX5_swap_26 : decode cX5_swap 26 = .ok (.return_, 1) := by decide +kernel
theorem dX6_init_0 : decode cX6_init 0 = .ok (.aload_n 0, 1) := by decide +kernel
theorem dX6_init_1 : decode cX6_init 1 = .ok (.invokespecial 3, 3) := by decide +kernel
theorem dX6_init_4 : decode cX6_init 4 = .ok (.aload_n 0, 1) := by decide +kernel
theorem dX6_init_5 : decode cX6_init 5 = .ok (.bipush 30, 2) := by decide +kernel
theorem dX6_init_7 : decode cX6_init 7 = .ok (.anewarray 9, 3) := by decide +kernel
theorem dX6_init_10 : decode cX6_init 10 = .ok (.putfield 11, 3) := by decide +kernel
theorem dX6_init_13 : decode cX6_init 13 = .ok (.aload_n 0, 1) := by decide +kernel
theorem dX6_init_14 : decode cX6_init 14 = .ok (.iconst 0, 1) := by decide +kernel
theorem dX6_init_15 : decode cX6_init 15 = .ok (.putfield 17, 3) := by decide +kernel
theorem dX6_init_18 : decode cX6_init 18 = .ok (.aload_n 0, 1) := by decide +kernel
theorem dX6_init_19 : decode cX6_init 19 = .ok (.iconst 0, 1) := by decide +kernel
theorem dX6_init_20 : decode cX6_init 20 = .ok (.putfield 21, 3) := by decide +kernel
theorem dX6_init_23 : decode cX6_init 23 = .ok (.iconst 0, 1) := by decide +kernel
theorem dX6_init_24 : decode cX6_init 24 = .ok (.istore_n 1, 1) := by decide +kernel
theorem dX6_init_25 : decode cX6_init 25 = .ok (.iload_n 1, 1) := by decide +kernel
theorem dX6_init_26 : decode cX6_init 26 = .ok (.aload_n 0, 1) := by decide +kernel
theorem dX6_init_27 : decode cX6_init 27 = .ok (.getfield 11, 3) := by decide +kernel
theorem dX6_init_30 : decode cX6_init 30 = .ok (.arraylength, 1) := by decide +kernel
theorem dX6_init_31 : decode cX6_init 31 = .ok (.if_icmp .ge 22, 3) := by decide +kernel
theorem dX6_init_34 : decode cX6_init 34 = .ok (.aload_n 0, 1) := by decide +kernel
theorem dX6_init_35 : decode cX6_init 35 = .ok (.getfield 11, 3) := by decide +kernel
theorem dX6_init_38 : decode cX6_init 38 = .ok (.iload_n 1, 1) := by decide +kernel
theorem dX6_init_39 : decode cX6_init 39 = .ok (.new 9, 3) := by decide +kernel
theorem dX6_init_42 : decode cX6_init 42 = .ok (.dup, 1) := by decide +kernel
theorem dX6_init_43 : decode cX6_init 43 = .ok (.invokespecial 24, 3) := by decide +kernel
theorem dX6_init_46 : decode cX6_init 46 = .ok (.aastore, 1) := by decide +kernel
theorem dX6_init_47 : decode cX6_init 47 = .ok (.iinc 1 1, 3) := by decide +kernel
theorem dX6_init_50 : decode cX6_init 50 = .ok (.goto (-25), 3) := by decide +kernel
theorem dX6_init_53 : decode cX6_init 53 = .ok (.return_, 1) := by decide +kernel
theorem dX6_remember_0 : decode cX6_remember 0 = .ok (.aload_n 0, 1) := by decide +kernel
theorem dX6_remember_1 : decode cX6_remember 1 = .ok (.getfield 11, 3) := by decide +kernel
theorem dX6_remember_4 : decode cX6_remember 4 = .ok (.aload_n 0, 1) := by decide +kernel
theorem dX6_remember_5 : decode cX6_remember 5 = .ok (.getfield 21, 3) := by decide +kernel
theorem dX6_remember_8 : decode cX6_remember 8 = .ok (.aaload, 1) := by decide +kernel
theorem dX6_remember_9 : decode cX6_remember 9 = .ok (.aload_n 1, 1) := by decide +kernel
theorem dX6_remember_10 : decode cX6_remember 10 = .ok (.invokevirtual 25, 3) := by decide +kernel
theorem dX6_remember_13 : decode cX6_remember 13 = .ok (.aload_n 0, 1) := by decide +kernel
theorem dX6_remember_14 : decode cX6_remember 14 = .ok (.aload_n 0, 1) := by decide +kernel
theorem dX6_remember_15 : decode cX6_remember 15 = .ok (.getfield 21, 3) := by decide +kernel
theorem dX6_remember_18 : decode cX6_remember 18 = .ok (.iconst 1, 1) := by decide +kernel
theorem dX6_remember_19 : decode cX6_remember 19 = .ok (.iadd, 1) := by decide +kernel
theorem dX6_remember_20 : decode cX6_remember 20 = .ok (.bipush 30, 2) := by decide +kernel
theorem dX6_remember_22 : decode cX6_remember 22 = .ok (.irem, 1) := by decide +kernel
theorem dX6_remember_23 : decode cX6_remember 23 = .ok (.putfield 21, 3) := by decide +kernel
theorem dX6_remember_26 : decode cX6_remember 26 = .ok (.aload_n 0, 1) := by decide +kernel
theorem dX6_remember_27 : decode cX6_remember 27 = .ok (.aload_n 0, 1) := by decide +kernel
theorem dX6_remember_28 : decode cX6_remember 28 = .ok (.getfield 17, 3) := by decide +kernel
theorem dX6_remember_31 : decode cX6_remember 31 = .ok (.iconst 1, 1) := by decide +kernel
theorem dX6_remember_32 : decode cX6_remember 32 = .ok (.iadd, 1) := by decide +kernel
theorem dX6_remember_33 : decode cX6_remember 33 = .ok (.bipush 30, 2) := by decide +kernel
theorem dX6_remember_35 : decode cX6_remember 35 = .ok (.invokestatic 29, 3) := by decide +kernel
theorem dX6_remember_38 : decode cX6_remember 38 = .ok (.putfield 17, 3) := by decide +kernel
theorem dX6_remember_41 : decode cX6_remember 41 = .ok (.return_, 1) := by decide +kernel
theorem dX6_takeBack_0 : decode cX6_takeBack 0 = .ok (.iload_n 1, 1) := by decide +kernel
theorem dX6_takeBack_1 : decode cX6_takeBack 1 = .ok (.iconst 1, 1) := by decide +kernel
theorem dX6_takeBack_2 : decode cX6_takeBack 2 = .ok (.if_icmp .lt 11, 3) := by decide +kernel
theorem dX6_takeBack_5 : decode cX6_takeBack 5 = .ok (.iload_n 1, 1) := by decide +kernel
theorem dX6_takeBack_6 : decode cX6_takeBack 6 = .ok (.aload_n 0, 1) := by decide +kernel
theorem dX6_takeBack_7 : decode cX6_takeBack 7 = .ok (.getfield 17, 3) := by decide +kernel
theorem dX6_takeBack_10 : decode cX6_takeBack 10 = .ok (.if_icmp .le 4, 3) := by decide +kernel
theorem dX6_takeBack_13 : decode cX6_takeBack 13 = .ok (.return_, 1) := by decide +kernel
theorem dX6_takeBack_14 : decode cX6_takeBack 14 = .ok (.aload_n 0, 1) := by decide +kernel
theorem dX6_takeBack_15 : decode cX6_takeBack 15 = .ok (.aload_n 0, 1) := by decide +kernel
theorem dX6_takeBack_16 : decode cX6_takeBack 16 = .ok (.getfield 21, 3) := by decide +kernel
theorem dX6_takeBack_19 : decode cX6_takeBack 19 = .ok (.bipush 30, 2) := by decide +kernel
theorem dX6_takeBack_21 : decode cX6_takeBack 21 = .ok (.iadd, 1) := by decide +kernel
theorem dX6_takeBack_22 : decode cX6_takeBack 22 = .ok (.iload_n 1, 1) := by decide +kernel
theorem dX6_takeBack_23 : decode cX6_takeBack 23 = .ok (.isub, 1) := by decide +kernel
theorem dX6_takeBack_24 : decode cX6_takeBack 24 = .ok (.bipush 30, 2) := by decide +kernel
theorem dX6_takeBack_26 : decode cX6_takeBack 26 = .ok (.irem, 1) := by decide +kernel
theorem dX6_takeBack_27 : decode cX6_takeBack 27 = .ok (.putfield 21, 3) := by decide +kernel
theorem dX6_takeBack_30 : decode cX6_takeBack 30 = .ok (.aload_n 0, 1) := by decide +kernel
theorem dX6_takeBack_31 : decode cX6_takeBack 31 = .ok (.dup, 1) := by decide +kernel
theorem dX6_takeBack_32 : decode cX6_takeBack 32 = .ok (.getfield 17, 3) := by decide +kernel
theorem dX6_takeBack_35 : decode cX6_takeBack 35 = .ok (.iload_n 1, 1) := by decide +kernel
theorem dX6_takeBack_36 : decode cX6_takeBack 36 = .ok (.isub, 1) := by decide +kernel
theorem dX6_takeBack_37 : decode cX6_takeBack 37 = .ok (.putfield 17, 3) := by decide +kernel
theorem dX6_takeBack_40 : decode cX6_takeBack 40 = .ok (.aload_n 2, 1) := by decide +kernel
theorem dX6_takeBack_41 : decode cX6_takeBack 41 = .ok (.aload_n 0, 1) := by decide +kernel
theorem dX6_takeBack_42 : decode cX6_takeBack 42 = .ok (.getfield 11, 3) := by decide +kernel
theorem dX6_takeBack_45 : decode cX6_takeBack 45 = .ok (.aload_n 0, 1) := by decide +kernel
theorem dX6_takeBack_46 : decode cX6_takeBack 46 = .ok (.getfield 21, 3) := by decide +kernel
theorem dX6_takeBack_49 : decode cX6_takeBack 49 = .ok (.aaload, 1) := by decide +kernel
theorem dX6_takeBack_50 : decode cX6_takeBack 50 = .ok (.invokevirtual 25, 3) := by decide +kernel
theorem dX6_takeBack_53 : decode cX6_takeBack 53 = .ok (.return_, 1) := by decide +kernel
theorem dX6_forget_0 : decode cX6_forget 0 = .ok (.aload_n 0, 1) := by decide +kernel
theorem dX6_forget_1 : decode cX6_forget 1 = .ok (.iconst 0, 1) := by decide +kernel
theorem dX6_forget_2 : decode cX6_forget 2 = .ok (.putfield 17, 3) := by decide +kernel
theorem dX6_forget_5 : decode cX6_forget 5 = .ok (.return_, 1) := by decide +kernel
theorem dX7_init_0 : decode cX7_init 0 = .ok (.aload_n 0, 1) := by decide +kernel
theorem dX7_init_1 : decode cX7_init 1 = .ok (.invokespecial 3, 3) := by decide +kernel
theorem dX7_init_4 : decode cX7_init 4 = .ok (.aload_n 0, 1) := by decide +kernel
theorem dX7_init_5 : decode cX7_init 5 = .ok (.sipush 240, 3) := by decide +kernel
theorem dX7_init_8 : decode cX7_init 8 = .ok (.newarray .int, 2) := by decide +kernel
theorem dX7_init_10 : decode cX7_init 10 = .ok (.putfield 9, 3) := by decide +kernel
theorem dX7_init_13 : decode cX7_init 13 = .ok (.aload_n 0, 1) := by decide +kernel
theorem dX7_init_14 : decode cX7_init 14 = .ok (.iconst 0, 1) := by decide +kernel
theorem dX7_init_15 : decode cX7_init 15 = .ok (.putfield 15, 3) := by decide +kernel
theorem dX7_init_18 : decode cX7_init 18 = .ok (.aload_n 0, 1) := by decide +kernel
theorem dX7_init_19 : decode cX7_init 19 = .ok (.iconst 0, 1) := by decide +kernel
theorem dX7_init_20 : decode cX7_init 20 = .ok (.putfield 19, 3) := by decide +kernel
theorem dX7_init_23 : decode cX7_init 23 = .ok (.aload_n 0, 1) := by decide +kernel
theorem dX7_init_24 : decode cX7_init 24 = .ok (.iconst 0, 1) := by decide +kernel
theorem dX7_init_25 : decode cX7_init 25 = .ok (.putfield 22, 3) := by decide +kernel
theorem dX7_init_28 : decode cX7_init 28 = .ok (.aload_n 0, 1) := by decide +kernel
theorem dX7_init_29 : decode cX7_init 29 = .ok (.iconst (-1), 1) := by decide +kernel
theorem dX7_init_30 : decode cX7_init 30 = .ok (.putfield 25, 3) := by decide +kernel
theorem dX7_init_33 : decode cX7_init 33 = .ok (.return_, 1) := by decide +kernel
theorem dX7_add_0 : decode cX7_add 0 = .ok (.aload_n 0, 1) := by decide +kernel
theorem dX7_add_1 : decode cX7_add 1 = .ok (.getfield 15, 3) := by decide +kernel
theorem dX7_add_4 : decode cX7_add 4 = .ok (.aload_n 0, 1) := by decide +kernel
theorem dX7_add_5 : decode cX7_add 5 = .ok (.getfield 9, 3) := by decide +kernel
theorem dX7_add_8 : decode cX7_add 8 = .ok (.arraylength, 1) := by decide +kernel
theorem dX7_add_9 : decode cX7_add 9 = .ok (.if_icmp .lt 5, 3) := by decide +kernel
theorem dX7_add_12 : decode cX7_add 12 = .ok (.iconst 0, 1) := by decide +kernel
theorem dX7_add_13 : decode cX7_add 13 = .ok (.ireturn, 1) := by decide +kernel
theorem dX7_add_14 : decode cX7_add 14 = .ok (.aload_n 0, 1) := by decide +kernel
theorem dX7_add_15 : decode cX7_add 15 = .ok (.getfield 9, 3) := by decide +kernel
theorem dX7_add_18 : decode cX7_add 18 = .ok (.aload_n 0, 1) := by decide +kernel
theorem dX7_add_19 : decode cX7_add 19 = .ok (.getfield 15, 3) := by decide +kernel
theorem dX7_add_22 : decode cX7_add 22 = .ok (.iload_n 1, 1) := by decide +kernel
theorem dX7_add_23 : decode cX7_add 23 = .ok (.iastore, 1) := by decide +kernel
theorem dX7_add_24 : decode cX7_add 24 = .ok (.aload_n 0, 1) := by decide +kernel
theorem dX7_add_25 : decode cX7_add 25 = .ok (.dup, 1) := by decide +kernel
theorem dX7_add_26 : decode cX7_add 26 = .ok (.getfield 15, 3) := by decide +kernel
theorem dX7_add_29 : decode cX7_add 29 = .ok (.iconst 1, 1) := by decide +kernel
theorem dX7_add_30 : decode cX7_add 30 = .ok (.iadd, 1) := by decide +kernel
theorem dX7_add_31 : decode cX7_add 31 = .ok (.putfield 15, 3) := by decide +kernel
theorem dX7_add_34 : decode cX7_add 34 = .ok (.iconst 1, 1) := by decide +kernel
theorem dX7_add_35 : decode cX7_add 35 = .ok (.ireturn, 1) := by decide +kernel
theorem dX7_empty_0 : decode cX7_empty 0 = .ok (.aload_n 0, 1) := by decide +kernel
theorem dX7_empty_1 : decode cX7_empty 1 = .ok (.iconst 0, 1) := by decide +kernel
theorem dX7_empty_2 : decode cX7_empty 2 = .ok (.putfield 15, 3) := by decide +kernel
theorem dX7_empty_5 : decode cX7_empty 5 = .ok (.return_, 1) := by decide +kernel
theorem dX7_readInto_0 : decode cX7_readInto 0 = .ok (.aload_n 0, 1) := by decide +kernel
theorem dX7_readInto_1 : decode cX7_readInto 1 = .ok (.iconst 0, 1) := by decide +kernel
theorem dX7_readInto_2 : decode cX7_readInto 2 = .ok (.putfield 19, 3) := by decide +kernel
theorem dX7_readInto_5 : decode cX7_readInto 5 = .ok (.aload_n 0, 1) := by decide +kernel
theorem dX7_readInto_6 : decode cX7_readInto 6 = .ok (.iconst 0, 1) := by decide +kernel
theorem dX7_readInto_7 : decode cX7_readInto 7 = .ok (.putfield 22, 3) := by decide +kernel
theorem dX7_readInto_10 : decode cX7_readInto 10 = .ok (.aload_n 0, 1) := by decide +kernel
theorem dX7_readInto_11 : decode cX7_readInto 11 = .ok (.iconst (-1), 1) := by decide +kernel
theorem dX7_readInto_12 : decode cX7_readInto 12 = .ok (.putfield 25, 3) := by decide +kernel
theorem dX7_readInto_15 : decode cX7_readInto 15 = .ok (.aload_n 1, 1) := by decide +kernel
theorem dX7_readInto_16 : decode cX7_readInto 16 = .ok (.invokevirtual 28, 3) := by decide +kernel
theorem dX7_readInto_19 : decode cX7_readInto 19 = .ok (.aload_n 0, 1) := by decide +kernel
theorem dX7_readInto_20 : decode cX7_readInto 20 = .ok (.invokevirtual 33, 3) := by decide +kernel
theorem dX7_readInto_23 : decode cX7_readInto 23 = .ok (.iconst 0, 1) := by decide +kernel
theorem dX7_readInto_24 : decode cX7_readInto 24 = .ok (.istore_n 2, 1) := by decide +kernel
theorem dX7_readInto_25 : decode cX7_readInto 25 = .ok (.iload_n 2, 1) := by decide +kernel
theorem dX7_readInto_26 : decode cX7_readInto 26 = .ok (.sipush 240, 3) := by decide +kernel
theorem dX7_readInto_29 : decode cX7_readInto 29 = .ok (.if_icmp .ge 36, 3) := by decide +kernel
theorem dX7_readInto_32 : decode cX7_readInto 32 = .ok (.aload_n 0, 1) := by decide +kernel
theorem dX7_readInto_33 : decode cX7_readInto 33 = .ok (.getfield 19, 3) := by decide +kernel
theorem dX7_readInto_36 : decode cX7_readInto 36 = .ok (.aload_n 0, 1) := by decide +kernel
theorem dX7_readInto_37 : decode cX7_readInto 37 = .ok (.getfield 15, 3) := by decide +kernel
theorem dX7_readInto_40 : decode cX7_readInto 40 = .ok (.if_icmp .ge 25, 3) := by decide +kernel
theorem dX7_readInto_43 : decode cX7_readInto 43 = .ok (.aload_n 0, 1) := by decide +kernel
theorem dX7_readInto_44 : decode cX7_readInto 44 = .ok (.getfield 22, 3) := by decide +kernel
theorem dX7_readInto_47 : decode cX7_readInto 47 = .ok (.ifCond .ne 18, 3) := by decide +kernel
theorem dX7_readInto_50 : decode cX7_readInto 50 = .ok (.aload_n 0, 1) := by decide +kernel
theorem dX7_readInto_51 : decode cX7_readInto 51 = .ok (.aload_n 1, 1) := by decide +kernel
theorem dX7_readInto_52 : decode cX7_readInto 52 = .ok (.invokevirtual 36, 3) := by decide +kernel
theorem dX7_readInto_55 : decode cX7_readInto 55 = .ok (.aload_n 0, 1) := by decide +kernel
theorem dX7_readInto_56 : decode cX7_readInto 56 = .ok (.invokevirtual 33, 3) := by decide +kernel
theorem dX7_readInto_59 : decode cX7_readInto 59 = .ok (.iinc 2 1, 3) := by decide +kernel
theorem dX7_readInto_62 : decode cX7_readInto 62 = .ok (.goto (-37), 3) := by decide +kernel
theorem dX7_readInto_65 : decode cX7_readInto 65 = .ok (.aload_n 0, 1) := by decide +kernel
theorem dX7_readInto_66 : decode cX7_readInto 66 = .ok (.getfield 22, 3) := by decide +kernel
theorem dX7_readInto_69 : decode cX7_readInto 69 = .ok (.ifCond .ne 7, 3) := by decide +kernel
theorem dX7_readInto_72 : decode cX7_readInto 72 = .ok (.aload_n 1, 1) := by decide +kernel
theorem dX7_readInto_73 : decode cX7_readInto 73 = .ok (.invokevirtual 40, 3) := by decide +kernel
theorem dX7_readInto_76 : decode cX7_readInto 76 = .ok (.return_, 1) := by decide +kernel
theorem dX7_nextLetter_0 : decode cX7_nextLetter 0 = .ok (.aload_n 0, 1) := by decide +kernel
theorem dX7_nextLetter_1 : decode cX7_nextLetter 1 = .ok (.getfield 19, 3) := by decide +kernel
theorem dX7_nextLetter_4 : decode cX7_nextLetter 4 = .ok (.ifCond .lt 38, 3) := by decide +kernel
theorem dX7_nextLetter_7 : decode cX7_nextLetter 7 = .ok (.aload_n 0, 1) := by decide +kernel
theorem dX7_nextLetter_8 : decode cX7_nextLetter 8 = .ok (.getfield 19, 3) := by decide +kernel
theorem dX7_nextLetter_11 : decode cX7_nextLetter 11 = .ok (.aload_n 0, 1) := by decide +kernel
theorem dX7_nextLetter_12 : decode cX7_nextLetter 12 = .ok (.getfield 15, 3) := by decide +kernel
theorem dX7_nextLetter_15 : decode cX7_nextLetter 15 = .ok (.if_icmp .ge 27, 3) := by decide +kernel
theorem dX7_nextLetter_18 : decode cX7_nextLetter 18 = .ok (.aload_n 0, 1) := by decide +kernel
theorem dX7_nextLetter_19 : decode cX7_nextLetter 19 = .ok (.getfield 19, 3) := by decide +kernel
theorem dX7_nextLetter_22 : decode cX7_nextLetter 22 = .ok (.aload_n 0, 1) := by decide +kernel
theorem dX7_nextLetter_23 : decode cX7_nextLetter 23 = .ok (.getfield 9, 3) := by decide +kernel
theorem dX7_nextLetter_26 : decode cX7_nextLetter 26 = .ok (.arraylength, 1) := by decide +kernel
theorem dX7_nextLetter_27 : decode cX7_nextLetter 27 = .ok (.if_icmp .ge 15, 3) := by decide +kernel
theorem dX7_nextLetter_30 : decode cX7_nextLetter 30 = .ok (.aload_n 0, 1) := by decide +kernel
theorem dX7_nextLetter_31 : decode cX7_nextLetter 31 = .ok (.getfield 9, 3) := by decide +kernel
theorem dX7_nextLetter_34 : decode cX7_nextLetter 34 = .ok (.aload_n 0, 1) := by decide +kernel
theorem dX7_nextLetter_35 : decode cX7_nextLetter 35 = .ok (.getfield 19, 3) := by decide +kernel
theorem dX7_nextLetter_38 : decode cX7_nextLetter 38 = .ok (.iaload, 1) := by decide +kernel
theorem dX7_nextLetter_39 : decode cX7_nextLetter 39 = .ok (.goto 4, 3) := by decide +kernel
theorem dX7_nextLetter_42 : decode cX7_nextLetter 42 = .ok (.iconst (-1), 1) := by decide +kernel
theorem dX7_nextLetter_43 : decode cX7_nextLetter 43 = .ok (.ireturn, 1) := by decide +kernel
theorem dX7_skipBlanks_0 : decode cX7_skipBlanks 0 = .ok (.aload_n 0, 1) := by decide +kernel
theorem dX7_skipBlanks_1 : decode cX7_skipBlanks 1 = .ok (.getfield 19, 3) := by decide +kernel
theorem dX7_skipBlanks_4 : decode cX7_skipBlanks 4 = .ok (.aload_n 0, 1) := by decide +kernel
theorem dX7_skipBlanks_5 : decode cX7_skipBlanks 5 = .ok (.getfield 15, 3) := by decide +kernel
theorem dX7_skipBlanks_8 : decode cX7_skipBlanks 8 = .ok (.if_icmp .ge 25, 3) := by decide +kernel
theorem dX7_skipBlanks_11 : decode cX7_skipBlanks 11 = .ok (.aload_n 0, 1) := by decide +kernel
theorem dX7_skipBlanks_12 : decode cX7_skipBlanks 12 = .ok (.invokevirtual 43, 3) := by decide +kernel
theorem dX7_skipBlanks_15 : decode cX7_skipBlanks 15 = .ok (.bipush 32, 2) := by decide +kernel
theorem dX7_skipBlanks_17 : decode cX7_skipBlanks 17 = .ok (.if_icmp .ne 16, 3) := by decide +kernel
theorem dX7_skipBlanks_20 : decode cX7_skipBlanks 20 = .ok (.aload_n 0, 1) := by decide +kernel
theorem dX7_skipBlanks_21 : decode cX7_skipBlanks 21 = .ok (.dup, 1) := by decide +kernel
theorem dX7_skipBlanks_22 : decode cX7_skipBlanks 22 = .ok (.getfield 19, 3) := by decide +kernel
theorem dX7_skipBlanks_25 : decode cX7_skipBlanks 25 = .ok (.iconst 1, 1) := by decide +kernel
theorem dX7_skipBlanks_26 : decode cX7_skipBlanks 26 = .ok (.iadd, 1) := by decide +kernel
theorem dX7_skipBlanks_27 : decode cX7_skipBlanks 27 = .ok (.putfield 19, 3) := by decide +kernel
theorem dX7_skipBlanks_30 : decode cX7_skipBlanks 30 = .ok (.goto (-30), 3) := by decide +kernel
theorem dX7_skipBlanks_33 : decode cX7_skipBlanks 33 = .ok (.return_, 1) := by decide +kernel
theorem dX7_note_0 : decode cX7_note 0 = .ok (.aload_n 0, 1) := by decide +kernel
theorem dX7_note_1 : decode cX7_note 1 = .ok (.getfield 22, 3) := by decide +kernel
theorem dX7_note_4 : decode cX7_note 4 = .ok (.ifCond .ne 13, 3) := by decide +kernel
theorem dX7_note_7 : decode cX7_note 7 = .ok (.aload_n 0, 1) := by decide +kernel
theorem dX7_note_8 : decode cX7_note 8 = .ok (.iload_n 1, 1) := by decide +kernel
theorem dX7_note_9 : decode cX7_note 9 = .ok (.putfield 22, 3) := by decide +kernel
theorem dX7_note_12 : decode cX7_note 12 = .ok (.aload_n 0, 1) := by decide +kernel
theorem dX7_note_13 : decode cX7_note 13 = .ok (.iload_n 2, 1) := by decide +kernel
theorem dX7_note_14 : decode cX7_note 14 = .ok (.putfield 25, 3) := by decide +kernel
theorem dX7_note_17 : decode cX7_note 17 = .ok (.return_, 1) := by decide +kernel
theorem dX7_readClause_0 : decode cX7_readClause 0 = .ok (.aload_n 0, 1) := by decide +kernel
theorem dX7_readClause_1 : decode cX7_readClause 1 = .ok (.invokevirtual 43, 3) := by decide +kernel
theorem dX7_readClause_4 : decode cX7_readClause 4 = .ok (.istore_n 2, 1) := by decide +kernel
theorem dX7_readClause_5 : decode cX7_readClause 5 = .ok (.aload_n 1, 1) := by decide +kernel
theorem dX7_readClause_6 : decode cX7_readClause 6 = .ok (.iload_n 2, 1) := by decide +kernel
theorem dX7_readClause_7 : decode cX7_readClause 7 = .ok (.invokestatic 47, 3) := by decide +kernel
theorem dX7_readClause_10 : decode cX7_readClause 10 = .ok (.istore_n 3, 1) := by decide +kernel
theorem dX7_readClause_11 : decode cX7_readClause 11 = .ok (.iload_n 3, 1) := by decide +kernel
theorem dX7_readClause_12 : decode cX7_readClause 12 = .ok (.ifCond .eq 13, 3) := by decide +kernel
theorem dX7_readClause_15 : decode cX7_readClause 15 = .ok (.aload_n 0, 1) := by decide +kernel
theorem dX7_readClause_16 : decode cX7_readClause 16 = .ok (.iload_n 3, 1) := by decide +kernel
theorem dX7_readClause_17 : decode cX7_readClause 17 = .ok (.aload_n 0, 1) := by decide +kernel
theorem dX7_readClause_18 : decode cX7_readClause 18 = .ok (.getfield 19, 3) := by decide +kernel
theorem dX7_readClause_21 : decode cX7_readClause 21 = .ok (.invokevirtual 51, 3) := by decide +kernel
theorem dX7_readClause_24 : decode cX7_readClause 24 = .ok (.return_, 1) := by decide +kernel
theorem dX7_readClause_25 : decode cX7_readClause 25 = .ok (.aload_n 0, 1) := by decide +kernel
theorem dX7_readClause_26 : decode cX7_readClause 26 = .ok (.dup, 1) := by decide +kernel
theorem dX7_readClause_27 : decode cX7_readClause 27 = .ok (.getfield 19, 3) := by decide +kernel
theorem dX7_readClause_30 : decode cX7_readClause 30 = .ok (.iconst 1, 1) := by decide +kernel
theorem dX7_readClause_31 : decode cX7_readClause 31 = .ok (.iadd, 1) := by decide +kernel
theorem dX7_readClause_32 : decode cX7_readClause 32 = .ok (.putfield 19, 3) := by decide +kernel
theorem dX7_readClause_35 : decode cX7_readClause 35 = .ok (.iload_n 2, 1) := by decide +kernel
theorem dX7_readClause_36 : decode cX7_readClause 36 = .ok (.bipush 107, 2) := by decide +kernel
theorem dX7_readClause_38 : decode cX7_readClause 38 = .ok (.if_icmp .ne 11, 3) := by decide +kernel
theorem dX7_readClause_41 : decode cX7_readClause 41 = .ok (.aload_n 0, 1) := by decide +kernel
theorem dX7_readClause_42 : decode cX7_readClause 42 = .ok (.aload_n 1, 1) := by decide +kernel
theorem dX7_readClause_43 : decode cX7_readClause 43 = .ok (.invokevirtual 55, 3) := by decide +kernel
theorem dX7_readClause_46 : decode cX7_readClause 46 = .ok (.goto 22, 3) := by decide +kernel
theorem dX7_readClause_49 : decode cX7_readClause 49 = .ok (.iload_n 2, 1) := by decide +kernel
theorem dX7_readClause_50 : decode cX7_readClause 50 = .ok (.bipush 109, 2) := by decide +kernel
theorem dX7_readClause_52 : decode cX7_readClause 52 = .ok (.if_icmp .ne 11, 3) := by decide +kernel
theorem dX7_readClause_55 : decode cX7_readClause 55 = .ok (.aload_n 0, 1) := by decide +kernel
theorem dX7_readClause_56 : decode cX7_readClause 56 = .ok (.aload_n 1, 1) := by decide +kernel
theorem dX7_readClause_57 : decode cX7_readClause 57 = .ok (.invokevirtual 58, 3) := by decide +kernel
theorem dX7_readClause_60 : decode cX7_readClause 60 = .ok (.goto 8, 3) := by decide +kernel
theorem dX7_readClause_63 : decode cX7_readClause 63 = .ok (.aload_n 0, 1) := by decide +kernel
theorem dX7_readClause_64 : decode cX7_readClause 64 = .ok (.aload_n 1, 1) := by decide +kernel
theorem dX7_readClause_65 : decode cX7_readClause 65 = .ok (.invokevirtual 61, 3) := by decide +kernel
theorem dX7_readClause_68 : decode cX7_readClause 68 = .ok (.return_, 1) := by decide +kernel
theorem dX7_faultOfWord_0 : decode cX7_faultOfWord 0 = .ok (.iload_n 1, 1) := by decide +kernel
theorem dX7_faultOfWord_1 : decode cX7_faultOfWord 1 = .ok (.bipush 107, 2) := by decide +kernel
theorem dX7_faultOfWord_3 : decode cX7_faultOfWord 3 = .ok (.if_icmp .ne 16, 3) := by decide +kernel
theorem dX7_faultOfWord_6 : decode cX7_faultOfWord 6 = .ok (.aload_n 0, 1) := by decide +kernel
theorem dX7_faultOfWord_7 : decode cX7_faultOfWord 7 = .ok (.invokevirtual 64, 3) := by decide +kernel
theorem dX7_faultOfWord_10 : decode cX7_faultOfWord 10 = .ok (.ifCond .eq 7, 3) := by decide +kernel
theorem dX7_faultOfWord_13 : decode cX7_faultOfWord 13 = .ok (.iconst 3, 1) := by decide +kernel
theorem dX7_faultOfWord_14 : decode cX7_faultOfWord 14 = .ok (.goto 4, 3) := by decide +kernel
theorem dX7_faultOfWord_17 : decode cX7_faultOfWord 17 = .ok (.iconst 0, 1) := by decide +kernel
theorem dX7_faultOfWord_18 : decode cX7_faultOfWord 18 = .ok (.ireturn, 1) := by decide +kernel
theorem dX7_faultOfWord_19 : decode cX7_faultOfWord 19 = .ok (.aload_n 0, 1) := by decide +kernel
theorem dX7_faultOfWord_20 : decode cX7_faultOfWord 20 = .ok (.invokevirtual 64, 3) := by decide +kernel
theorem dX7_faultOfWord_23 : decode cX7_faultOfWord 23 = .ok (.ifCond .ne 5, 3) := by decide +kernel
theorem dX7_faultOfWord_26 : decode cX7_faultOfWord 26 = .ok (.iconst 1, 1) := by decide +kernel
theorem dX7_faultOfWord_27 : decode cX7_faultOfWord 27 = .ok (.ireturn, 1) := by decide +kernel
theorem dX7_faultOfWord_28 : decode cX7_faultOfWord 28 = .ok (.iload_n 1, 1) := by decide +kernel
theorem dX7_faultOfWord_29 : decode cX7_faultOfWord 29 = .ok (.bipush 109, 2) := by decide +kernel
theorem dX7_faultOfWord_31 : decode cX7_faultOfWord 31 = .ok (.if_icmp .ne 18, 3) := by decide +kernel
theorem dX7_faultOfWord_34 : decode cX7_faultOfWord 34 = .ok (.aload_n 0, 1) := by decide +kernel
theorem dX7_faultOfWord_35 : decode cX7_faultOfWord 35 = .ok (.getfield 68, 3) := by decide +kernel
theorem dX7_faultOfWord_38 : decode cX7_faultOfWord 38 = .ok (.bipush 8, 2) := by decide +kernel
theorem dX7_faultOfWord_40 : decode cX7_faultOfWord 40 = .ok (.if_icmp .lt 7, 3) := by decide +kernel
theorem dX7_faultOfWord_43 : decode cX7_faultOfWord 43 = .ok (.iconst 3, 1) := by decide +kernel
theorem dX7_faultOfWord_44 : decode cX7_faultOfWord 44 = .ok (.goto 4, 3) := by decide +kernel
theorem dX7_faultOfWord_47 : decode cX7_faultOfWord 47 = .ok (.iconst 0, 1) := by decide +kernel
theorem dX7_faultOfWord_48 : decode cX7_faultOfWord 48 = .ok (.ireturn, 1) := by decide +kernel
theorem dX7_faultOfWord_49 : decode cX7_faultOfWord 49 = .ok (.iload_n 1, 1) := by decide +kernel
theorem dX7_faultOfWord_50 : decode cX7_faultOfWord 50 = .ok (.bipush 116, 2) := by decide +kernel
theorem dX7_faultOfWord_52 : decode cX7_faultOfWord 52 = .ok (.if_icmp .ne 18, 3) := by decide +kernel
theorem dX7_faultOfWord_55 : decode cX7_faultOfWord 55 = .ok (.aload_n 0, 1) := by decide +kernel
theorem dX7_faultOfWord_56 : decode cX7_faultOfWord 56 = .ok (.getfield 71, 3) := by decide +kernel
theorem dX7_faultOfWord_59 : decode cX7_faultOfWord 59 = .ok (.bipush 6, 2) := by decide +kernel
theorem dX7_faultOfWord_61 : decode cX7_faultOfWord 61 = .ok (.if_icmp .lt 7, 3) := by decide +kernel
theorem dX7_faultOfWord_64 : decode cX7_faultOfWord 64 = .ok (.iconst 3, 1) := by decide +kernel
theorem dX7_faultOfWord_65 : decode cX7_faultOfWord 65 = .ok (.goto 4, 3) := by decide +kernel
theorem dX7_faultOfWord_68 : decode cX7_faultOfWord 68 = .ok (.iconst 0, 1) := by decide +kernel
theorem dX7_faultOfWord_69 : decode cX7_faultOfWord 69 = .ok (.ireturn, 1) := by decide +kernel
theorem dX7_faultOfWord_70 : decode cX7_faultOfWord 70 = .ok (.iconst 1, 1) := by decide +kernel
theorem dX7_faultOfWord_71 : decode cX7_faultOfWord 71 = .ok (.ireturn, 1) := by decide +kernel
theorem dX7_readRate_0 : decode cX7_readRate 0 = .ok (.aload_n 0, 1) := by decide +kernel
theorem dX7_readRate_1 : decode cX7_readRate 1 = .ok (.iconst 1, 1) := by decide +kernel
theorem dX7_readRate_2 : decode cX7_readRate 2 = .ok (.bipush 60, 2) := by decide +kernel
theorem dX7_readRate_4 : decode cX7_readRate 4 = .ok (.invokevirtual 74, 3) := by decide +kernel
theorem dX7_readRate_7 : decode cX7_readRate 7 = .ok (.istore_n 2, 1) := by decide +kernel
theorem dX7_readRate_8 : decode cX7_readRate 8 = .ok (.aload_n 0, 1) := by decide +kernel
theorem dX7_readRate_9 : decode cX7_readRate 9 = .ok (.iconst 1, 1) := by decide +kernel
theorem dX7_readRate_10 : decode cX7_readRate 10 = .ok (.bipush 9, 2) := by decide +kernel
theorem dX7_readRate_12 : decode cX7_readRate 12 = .ok (.invokevirtual 74, 3) := by decide +kernel
theorem dX7_readRate_15 : decode cX7_readRate 15 = .ok (.istore_n 3, 1) := by decide +kernel
theorem dX7_readRate_16 : decode cX7_readRate 16 = .ok (.aload_n 0, 1) := by decide +kernel
theorem dX7_readRate_17 : decode cX7_readRate 17 = .ok (.invokevirtual 78, 3) := by decide +kernel
theorem dX7_readRate_20 : decode cX7_readRate 20 = .ok (.ifCond .eq 13, 3) := by decide +kernel
theorem dX7_readRate_23 : decode cX7_readRate 23 = .ok (.aload_n 1, 1) := by decide +kernel
theorem dX7_readRate_24 : decode cX7_readRate 24 = .ok (.iload_n 2, 1) := by decide +kernel
theorem dX7_readRate_25 : decode cX7_readRate 25 = .ok (.putfield 81, 3) := by decide +kernel
theorem dX7_readRate_28 : decode cX7_readRate 28 = .ok (.aload_n 1, 1) := by decide +kernel
theorem dX7_readRate_29 : decode cX7_readRate 29 = .ok (.iload_n 3, 1) := by decide +kernel
theorem dX7_readRate_30 : decode cX7_readRate 30 = .ok (.putfield 84, 3) := by decide +kernel
theorem dX7_readRate_33 : decode cX7_readRate 33 = .ok (.return_, 1) := by decide +kernel
theorem dX7_readMatter_0 : decode cX7_readMatter 0 = .ok (.aload_n 0, 1) := by decide +kernel
theorem dX7_readMatter_1 : decode cX7_readMatter 1 = .ok (.iconst 1, 1) := by decide +kernel
theorem dX7_readMatter_2 : decode cX7_readMatter 2 = .ok (.bipush 60, 2) := by decide +kernel
theorem dX7_readMatter_4 : decode cX7_readMatter 4 = .ok (.invokevirtual 74, 3) := by decide +kernel
theorem dX7_readMatter_7 : decode cX7_readMatter 7 = .ok (.istore_n 2, 1) := by decide +kernel
theorem dX7_readMatter_8 : decode cX7_readMatter 8 = .ok (.aload_n 0, 1) := by decide +kernel
theorem dX7_readMatter_9 : decode cX7_readMatter 9 = .ok (.iconst 0, 1) := by decide +kernel
theorem dX7_readMatter_10 : decode cX7_readMatter 10 = .ok (.sipush 255, 3) := by decide +kernel
theorem dX7_readMatter_13 : decode cX7_readMatter 13 = .ok (.invokevirtual 74, 3) := by decide +kernel
theorem dX7_readMatter_16 : decode cX7_readMatter 16 = .ok (.istore_n 3, 1) := by decide +kernel
theorem dX7_readMatter_17 : decode cX7_readMatter 17 = .ok (.aload_n 0, 1) := by decide +kernel
theorem dX7_readMatter_18 : decode cX7_readMatter 18 = .ok (.invokevirtual 78, 3) := by decide +kernel
theorem dX7_readMatter_21 : decode cX7_readMatter 21 = .ok (.ifCond .eq 9, 3) := by decide +kernel
theorem dX7_readMatter_24 : decode cX7_readMatter 24 = .ok (.aload_n 1, 1) := by decide +kernel
theorem dX7_readMatter_25 : decode cX7_readMatter 25 = .ok (.iload_n 2, 1) := by decide +kernel
theorem dX7_readMatter_26 : decode cX7_readMatter 26 = .ok (.iload_n 3, 1) := by decide +kernel
theorem dX7_readMatter_27 : decode cX7_readMatter 27 = .ok (.invokevirtual 87, 3) := by decide +kernel
theorem dX7_readMatter_30 : decode cX7_readMatter 30 = .ok (.return_, 1) := by decide +kernel
theorem dX7_readTraveller_0 : decode cX7_readTraveller 0 = .ok (.aload_n 0, 1) := by decide +kernel
theorem dX7_readTraveller_1 : decode cX7_readTraveller 1 = .ok (.iconst 0, 1) := by decide +kernel
theorem dX7_readTraveller_2 : decode cX7_readTraveller 2 = .ok (.iconst 4, 1) := by decide +kernel
theorem dX7_readTraveller_3 : decode cX7_readTraveller 3 = .ok (.invokevirtual 74, 3) := by decide +kernel
theorem dX7_readTraveller_6 : decode cX7_readTraveller 6 = .ok (.istore_n 2, 1) := by decide +kernel
theorem dX7_readTraveller_7 : decode cX7_readTraveller 7 = .ok (.aload_n 0, 1) := by decide +kernel
theorem dX7_readTraveller_8 : decode cX7_readTraveller 8 = .ok (.iconst 0, 1) := by decide +kernel
theorem dX7_readTraveller_9 : decode cX7_readTraveller 9 = .ok (.bipush 9, 2) := by decide +kernel
theorem dX7_readTraveller_11 : decode cX7_readTraveller 11 = .ok (.invokevirtual 74, 3) := by decide +kernel
theorem dX7_readTraveller_14 : decode cX7_readTraveller 14 = .ok (.istore_n 3, 1) := by decide +kernel
theorem dX7_readTraveller_15 : decode cX7_readTraveller 15 = .ok (.aload_n 0, 1) := by decide +kernel
theorem dX7_readTraveller_16 : decode cX7_readTraveller 16 = .ok (.iconst 0, 1) := by decide +kernel
theorem dX7_readTraveller_17 : decode cX7_readTraveller 17 = .ok (.sipush 255, 3) := by decide +kernel
theorem dX7_readTraveller_20 : decode cX7_readTraveller 20 = .ok (.invokevirtual 74, 3) := by decide +kernel
theorem dX7_readTraveller_23 : decode cX7_readTraveller 23 = .ok (.istore 4, 2) := by decide +kernel
theorem dX7_readTraveller_25 : decode cX7_readTraveller 25 = .ok (.aload_n 0, 1) := by decide +kernel
theorem dX7_readTraveller_26 : decode cX7_readTraveller 26 = .ok (.invokevirtual 78, 3) := by decide +kernel
theorem dX7_readTraveller_29 : decode cX7_readTraveller 29 = .ok (.ifCond .eq 11, 3) := by decide +kernel
theorem dX7_readTraveller_32 : decode cX7_readTraveller 32 = .ok (.aload_n 1, 1) := by decide +kernel
theorem dX7_readTraveller_33 : decode cX7_readTraveller 33 = .ok (.iload_n 2, 1) := by decide +kernel
theorem dX7_readTraveller_34 : decode cX7_readTraveller 34 = .ok (.iload_n 3, 1) := by decide +kernel
theorem dX7_readTraveller_35 : decode cX7_readTraveller 35 = .ok (.iload 4, 2) := by decide +kernel
theorem dX7_readTraveller_37 : decode cX7_readTraveller 37 = .ok (.invokevirtual 90, 3) := by decide +kernel
theorem dX7_readTraveller_40 : decode cX7_readTraveller 40 = .ok (.return_, 1) := by decide +kernel
theorem dX7_readNumber_0 : decode cX7_readNumber 0 = .ok (.aload_n 0, 1) := by decide +kernel
theorem dX7_readNumber_1 : decode cX7_readNumber 1 = .ok (.invokevirtual 33, 3) := by decide +kernel
theorem dX7_readNumber_4 : decode cX7_readNumber 4 = .ok (.aload_n 0, 1) := by decide +kernel
theorem dX7_readNumber_5 : decode cX7_readNumber 5 = .ok (.getfield 19, 3) := by decide +kernel
theorem dX7_readNumber_8 : decode cX7_readNumber 8 = .ok (.istore_n 3, 1) := by decide +kernel
theorem dX7_readNumber_9 : decode cX7_readNumber 9 = .ok (.iconst 0, 1) := by decide +kernel
theorem dX7_readNumber_10 : decode cX7_readNumber 10 = .ok (.istore 4, 2) := by decide +kernel
theorem dX7_readNumber_12 : decode cX7_readNumber 12 = .ok (.aload_n 0, 1) := by decide +kernel
theorem dX7_readNumber_13 : decode cX7_readNumber 13 = .ok (.getfield 19, 3) := by decide +kernel
theorem dX7_readNumber_16 : decode cX7_readNumber 16 = .ok (.aload_n 0, 1) := by decide +kernel
theorem dX7_readNumber_17 : decode cX7_readNumber 17 = .ok (.getfield 15, 3) := by decide +kernel
theorem dX7_readNumber_20 : decode cX7_readNumber 20 = .ok (.if_icmp .ge 51, 3) := by decide +kernel
theorem dX7_readNumber_23 : decode cX7_readNumber 23 = .ok (.aload_n 0, 1) := by decide +kernel
theorem dX7_readNumber_24 : decode cX7_readNumber 24 = .ok (.invokevirtual 43, 3) := by decide +kernel
theorem dX7_readNumber_27 : decode cX7_readNumber 27 = .ok (.invokestatic 94, 3) := by decide +kernel
theorem dX7_readNumber_30 : decode cX7_readNumber 30 = .ok (.ifCond .eq 41, 3) := by decide +kernel
theorem dX7_readNumber_33 : decode cX7_readNumber 33 = .ok (.aload_n 0, 1) := by decide +kernel
theorem dX7_readNumber_34 : decode cX7_readNumber 34 = .ok (.getfield 19, 3) := by decide +kernel
theorem dX7_readNumber_37 : decode cX7_readNumber 37 = .ok (.iload_n 3, 1) := by decide +kernel
theorem dX7_readNumber_38 : decode cX7_readNumber 38 = .ok (.isub, 1) := by decide +kernel
theorem dX7_readNumber_39 : decode cX7_readNumber 39 = .ok (.iconst 3, 1) := by decide +kernel
theorem dX7_readNumber_40 : decode cX7_readNumber 40 = .ok (.if_icmp .ge 18, 3) := by decide +kernel
theorem dX7_readNumber_43 : decode cX7_readNumber 43 = .ok (.iload 4, 2) := by decide +kernel
theorem dX7_readNumber_45 : decode cX7_readNumber 45 = .ok (.bipush 10, 2) := by decide +kernel
theorem dX7_readNumber_47 : decode cX7_readNumber 47 = .ok (.imul, 1) := by decide +kernel
theorem dX7_readNumber_48 : decode cX7_readNumber 48 = .ok (.aload_n 0, 1) := by decide +kernel
theorem dX7_readNumber_49 : decode cX7_readNumber 49 = .ok (.invokevirtual 43, 3) := by decide +kernel
theorem dX7_readNumber_52 : decode cX7_readNumber 52 = .ok (.bipush 48, 2) := by decide +kernel
theorem dX7_readNumber_54 : decode cX7_readNumber 54 = .ok (.isub, 1) := by decide +kernel
theorem dX7_readNumber_55 : decode cX7_readNumber 55 = .ok (.iadd, 1) := by decide +kernel
theorem dX7_readNumber_56 : decode cX7_readNumber 56 = .ok (.istore 4, 2) := by decide +kernel
theorem dX7_readNumber_58 : decode cX7_readNumber 58 = .ok (.aload_n 0, 1) := by decide +kernel
theorem dX7_readNumber_59 : decode cX7_readNumber 59 = .ok (.dup, 1) := by decide +kernel
theorem dX7_readNumber_60 : decode cX7_readNumber 60 = .ok (.getfield 19, 3) := by decide +kernel
theorem dX7_readNumber_63 : decode cX7_readNumber 63 = .ok (.iconst 1, 1) := by decide +kernel
theorem dX7_readNumber_64 : decode cX7_readNumber 64 = .ok (.iadd, 1) := by decide +kernel
theorem dX7_readNumber_65 : decode cX7_readNumber 65 = .ok (.putfield 19, 3) := by decide +kernel
theorem dX7_readNumber_68 : decode cX7_readNumber 68 = .ok (.goto (-56), 3) := by decide +kernel
theorem dX7_readNumber_71 : decode cX7_readNumber 71 = .ok (.aload_n 0, 1) := by decide +kernel
theorem dX7_readNumber_72 : decode cX7_readNumber 72 = .ok (.getfield 19, 3) := by decide +kernel
theorem dX7_readNumber_75 : decode cX7_readNumber 75 = .ok (.iload_n 3, 1) := by decide +kernel
theorem dX7_readNumber_76 : decode cX7_readNumber 76 = .ok (.if_icmp .ne 12, 3) := by decide +kernel
theorem dX7_readNumber_79 : decode cX7_readNumber 79 = .ok (.aload_n 0, 1) := by decide +kernel
theorem dX7_readNumber_80 : decode cX7_readNumber 80 = .ok (.iconst 1, 1) := by decide +kernel
theorem dX7_readNumber_81 : decode cX7_readNumber 81 = .ok (.iload_n 3, 1) := by decide +kernel
theorem dX7_readNumber_82 : decode cX7_readNumber 82 = .ok (.invokevirtual 51, 3) := by decide +kernel
theorem dX7_readNumber_85 : decode cX7_readNumber 85 = .ok (.goto 31, 3) := by decide +kernel
theorem dX7_readNumber_88 : decode cX7_readNumber 88 = .ok (.aload_n 0, 1) := by decide +kernel
theorem dX7_readNumber_89 : decode cX7_readNumber 89 = .ok (.getfield 19, 3) := by decide +kernel
theorem dX7_readNumber_92 : decode cX7_readNumber 92 = .ok (.iload_n 3, 1) := by decide +kernel
theorem dX7_readNumber_93 : decode cX7_readNumber 93 = .ok (.isub, 1) := by decide +kernel
theorem dX7_readNumber_94 : decode cX7_readNumber 94 = .ok (.iconst 3, 1) := by decide +kernel
theorem dX7_readNumber_95 : decode cX7_readNumber 95 = .ok (.if_icmp .gt 15, 3) := by decide +kernel
theorem dX7_readNumber_98 : decode cX7_readNumber 98 = .ok (.iload 4, 2) := by decide +kernel
theorem dX7_readNumber_100 : decode cX7_readNumber 100 = .ok (.iload_n 1, 1) := by decide +kernel
theorem dX7_readNumber_101 : decode cX7_readNumber 101 = .ok (.if_icmp .lt 9, 3) := by decide +kernel
theorem dX7_readNumber_104 : decode cX7_readNumber 104 = .ok (.iload 4, 2) := by decide +kernel
theorem dX7_readNumber_106 : decode cX7_readNumber 106 = .ok (.iload_n 2, 1) := by decide +kernel
theorem dX7_readNumber_107 : decode cX7_readNumber 107 = .ok (.if_icmp .le 9, 3) := by decide +kernel
theorem dX7_readNumber_110 : decode cX7_readNumber 110 = .ok (.aload_n 0, 1) := by decide +kernel
theorem dX7_readNumber_111 : decode cX7_readNumber 111 = .ok (.iconst 2, 1) := by decide +kernel
theorem dX7_readNumber_112 : decode cX7_readNumber 112 = .ok (.iload_n 3, 1) := by decide +kernel
theorem dX7_readNumber_113 : decode cX7_readNumber 113 = .ok (.invokevirtual 51, 3) := by decide +kernel
theorem dX7_readNumber_116 : decode cX7_readNumber 116 = .ok (.iload 4, 2) := by decide +kernel
theorem dX7_readNumber_118 : decode cX7_readNumber 118 = .ok (.ireturn, 1) := by decide +kernel
theorem dX7_isFigure_0 : decode cX7_isFigure 0 = .ok (.iload_n 0, 1) := by decide +kernel
theorem dX7_isFigure_1 : decode cX7_isFigure 1 = .ok (.bipush 48, 2) := by decide +kernel
theorem dX7_isFigure_3 : decode cX7_isFigure 3 = .ok (.if_icmp .lt 13, 3) := by decide +kernel
theorem dX7_isFigure_6 : decode cX7_isFigure 6 = .ok (.iload_n 0, 1) := by decide +kernel
theorem dX7_isFigure_7 : decode cX7_isFigure 7 = .ok (.bipush 57, 2) := by decide +kernel
theorem dX7_isFigure_9 : decode cX7_isFigure 9 = .ok (.if_icmp .gt 7, 3) := by decide +kernel
theorem dX7_isFigure_12 : decode cX7_isFigure 12 = .ok (.iconst 1, 1) := by decide +kernel
theorem dX7_isFigure_13 : decode cX7_isFigure 13 = .ok (.goto 4, 3) := by decide +kernel
theorem dX7_isFigure_16 : decode cX7_isFigure 16 = .ok (.iconst 0, 1) := by decide +kernel
theorem dX7_isFigure_17 : decode cX7_isFigure 17 = .ok (.ireturn, 1) := by decide +kernel
theorem dX7_readEnd_0 : decode cX7_readEnd 0 = .ok (.aload_n 0, 1) := by decide +kernel
theorem dX7_readEnd_1 : decode cX7_readEnd 1 = .ok (.invokevirtual 33, 3) := by decide +kernel
theorem dX7_readEnd_4 : decode cX7_readEnd 4 = .ok (.aload_n 0, 1) := by decide +kernel
theorem dX7_readEnd_5 : decode cX7_readEnd 5 = .ok (.invokevirtual 43, 3) := by decide +kernel
theorem dX7_readEnd_8 : decode cX7_readEnd 8 = .ok (.bipush 59, 2) := by decide +kernel
theorem dX7_readEnd_10 : decode cX7_readEnd 10 = .ok (.if_icmp .eq 12, 3) := by decide +kernel
theorem dX7_readEnd_13 : decode cX7_readEnd 13 = .ok (.aload_n 0, 1) := by decide +kernel
theorem dX7_readEnd_14 : decode cX7_readEnd 14 = .ok (.iconst 1, 1) := by decide +kernel
theorem dX7_readEnd_15 : decode cX7_readEnd 15 = .ok (.aload_n 0, 1) := by decide +kernel
theorem dX7_readEnd_16 : decode cX7_readEnd 16 = .ok (.getfield 19, 3) := by decide +kernel
theorem dX7_readEnd_19 : decode cX7_readEnd 19 = .ok (.invokevirtual 51, 3) := by decide +kernel
theorem dX7_readEnd_22 : decode cX7_readEnd 22 = .ok (.aload_n 0, 1) := by decide +kernel
theorem dX7_readEnd_23 : decode cX7_readEnd 23 = .ok (.dup, 1) := by decide +kernel
theorem dX7_readEnd_24 : decode cX7_readEnd 24 = .ok (.getfield 19, 3) := by decide +kernel
theorem dX7_readEnd_27 : decode cX7_readEnd 27 = .ok (.iconst 1, 1) := by decide +kernel
theorem dX7_readEnd_28 : decode cX7_readEnd 28 = .ok (.iadd, 1) := by decide +kernel
theorem dX7_readEnd_29 : decode cX7_readEnd 29 = .ok (.putfield 19, 3) := by decide +kernel
theorem dX7_readEnd_32 : decode cX7_readEnd 32 = .ok (.aload_n 0, 1) := by decide +kernel
theorem dX7_readEnd_33 : decode cX7_readEnd 33 = .ok (.getfield 22, 3) := by decide +kernel
theorem dX7_readEnd_36 : decode cX7_readEnd 36 = .ok (.ifCond .ne 7, 3) := by decide +kernel
theorem dX7_readEnd_39 : decode cX7_readEnd 39 = .ok (.iconst 1, 1) := by decide +kernel
theorem dX7_readEnd_40 : decode cX7_readEnd 40 = .ok (.goto 4, 3) := by decide +kernel
theorem dX7_readEnd_43 : decode cX7_readEnd 43 = .ok (.iconst 0, 1) := by decide +kernel
theorem dX7_readEnd_44 : decode cX7_readEnd 44 = .ok (.ireturn, 1) := by decide +kernel
theorem dX8_init_0 : decode cX8_init 0 = .ok (.aload_n 0, 1) := by decide +kernel
theorem dX8_init_1 : decode cX8_init 1 = .ok (.invokespecial 3, 3) := by decide +kernel
theorem dX8_init_4 : decode cX8_init 4 = .ok (.aload_n 0, 1) := by decide +kernel
theorem dX8_init_5 : decode cX8_init 5 = .ok (.sipush 256, 3) := by decide +kernel
theorem dX8_init_8 : decode cX8_init 8 = .ok (.newarray .int, 2) := by decide +kernel
theorem dX8_init_10 : decode cX8_init 10 = .ok (.putfield 9, 3) := by decide +kernel
theorem dX8_init_13 : decode cX8_init 13 = .ok (.aload_n 0, 1) := by decide +kernel
theorem dX8_init_14 : decode cX8_init 14 = .ok (.iconst 0, 1) := by decide +kernel
theorem dX8_init_15 : decode cX8_init 15 = .ok (.putfield 15, 3) := by decide +kernel
theorem dX8_init_18 : decode cX8_init 18 = .ok (.aload_n 0, 1) := by decide +kernel
theorem dX8_init_19 : decode cX8_init 19 = .ok (.iconst (-1), 1) := by decide +kernel
theorem dX8_init_20 : decode cX8_init 20 = .ok (.putfield 19, 3) := by decide +kernel
theorem dX8_init_23 : decode cX8_init 23 = .ok (.aload_n 0, 1) := by decide +kernel
theorem dX8_init_24 : decode cX8_init 24 = .ok (.iconst 0, 1) := by decide +kernel
theorem dX8_init_25 : decode cX8_init 25 = .ok (.putfield 22, 3) := by decide +kernel
theorem dX8_init_28 : decode cX8_init 28 = .ok (.return_, 1) := by decide +kernel
theorem dX8_tryWith_0 : decode cX8_tryWith 0 = .ok (.aload_n 0, 1) := by decide +kernel
theorem dX8_tryWith_1 : decode cX8_tryWith 1 = .ok (.iconst 0, 1) := by decide +kernel
theorem dX8_tryWith_2 : decode cX8_tryWith 2 = .ok (.putfield 15, 3) := by decide +kernel
theorem dX8_tryWith_5 : decode cX8_tryWith 5 = .ok (.aload_n 0, 1) := by decide +kernel
theorem dX8_tryWith_6 : decode cX8_tryWith 6 = .ok (.iconst (-1), 1) := by decide +kernel
theorem dX8_tryWith_7 : decode cX8_tryWith 7 = .ok (.putfield 19, 3) := by decide +kernel
theorem dX8_tryWith_10 : decode cX8_tryWith 10 = .ok (.aload_n 0, 1) := by decide +kernel
theorem dX8_tryWith_11 : decode cX8_tryWith 11 = .ok (.iconst 0, 1) := by decide +kernel
theorem dX8_tryWith_12 : decode cX8_tryWith 12 = .ok (.putfield 22, 3) := by decide +kernel
theorem dX8_tryWith_15 : decode cX8_tryWith 15 = .ok (.aload_n 1, 1) := by decide +kernel
theorem dX8_tryWith_16 : decode cX8_tryWith 16 = .ok (.getfield 25, 3) := by decide +kernel
theorem dX8_tryWith_19 : decode cX8_tryWith 19 = .ok (.invokestatic 30, 3) := by decide +kernel
theorem dX8_tryWith_22 : decode cX8_tryWith 22 = .ok (.istore 4, 2) := by decide +kernel
theorem dX8_tryWith_24 : decode cX8_tryWith 24 = .ok (.iconst 1, 1) := by decide +kernel
theorem dX8_tryWith_25 : decode cX8_tryWith 25 = .ok (.istore 5, 2) := by decide +kernel
theorem dX8_tryWith_27 : decode cX8_tryWith 27 = .ok (.iload 5, 2) := by decide +kernel
theorem dX8_tryWith_29 : decode cX8_tryWith 29 = .ok (.iload 4, 2) := by decide +kernel
theorem dX8_tryWith_31 : decode cX8_tryWith 31 = .ok (.if_icmp .gt 61, 3) := by decide +kernel
theorem dX8_tryWith_34 : decode cX8_tryWith 34 = .ok (.iload 5, 2) := by decide +kernel
theorem dX8_tryWith_36 : decode cX8_tryWith 36 = .ok (.iload_n 3, 1) := by decide +kernel
theorem dX8_tryWith_37 : decode cX8_tryWith 37 = .ok (.iconst (-1), 1) := by decide +kernel
theorem dX8_tryWith_38 : decode cX8_tryWith 38 = .ok (.ixor, 1) := by decide +kernel
theorem dX8_tryWith_39 : decode cX8_tryWith 39 = .ok (.iand, 1) := by decide +kernel
theorem dX8_tryWith_40 : decode cX8_tryWith 40 = .ok (.ifCond .ne 46, 3) := by decide +kernel
theorem dX8_tryWith_43 : decode cX8_tryWith 43 = .ok (.aload_n 0, 1) := by decide +kernel
theorem dX8_tryWith_44 : decode cX8_tryWith 44 = .ok (.getfield 9, 3) := by decide +kernel
theorem dX8_tryWith_47 : decode cX8_tryWith 47 = .ok (.iload 5, 2) := by decide +kernel
theorem dX8_tryWith_49 : decode cX8_tryWith 49 = .ok (.aload_n 0, 1) := by decide +kernel
theorem dX8_tryWith_50 : decode cX8_tryWith 50 = .ok (.getfield 9, 3) := by decide +kernel
theorem dX8_tryWith_53 : decode cX8_tryWith 53 = .ok (.iload 5, 2) := by decide +kernel
theorem dX8_tryWith_55 : decode cX8_tryWith 55 = .ok (.iload 5, 2) := by decide +kernel
theorem dX8_tryWith_57 : decode cX8_tryWith 57 = .ok (.iconst 1, 1) := by decide +kernel
theorem dX8_tryWith_58 : decode cX8_tryWith 58 = .ok (.isub, 1) := by decide +kernel
theorem dX8_tryWith_59 : decode cX8_tryWith 59 = .ok (.iand, 1) := by decide +kernel
theorem dX8_tryWith_60 : decode cX8_tryWith 60 = .ok (.iaload, 1) := by decide +kernel
theorem dX8_tryWith_61 : decode cX8_tryWith 61 = .ok (.aload_n 1, 1) := by decide +kernel
theorem dX8_tryWith_62 : decode cX8_tryWith 62 = .ok (.iload_n 2, 1) := by decide +kernel
theorem dX8_tryWith_63 : decode cX8_tryWith 63 = .ok (.iload 5, 2) := by decide +kernel
theorem dX8_tryWith_65 : decode cX8_tryWith 65 = .ok (.invokestatic 34, 3) := by decide +kernel
theorem dX8_tryWith_68 : decode cX8_tryWith 68 = .ok (.invokevirtual 37, 3) := by decide +kernel
theorem dX8_tryWith_71 : decode cX8_tryWith 71 = .ok (.iadd, 1) := by decide +kernel
theorem dX8_tryWith_72 : decode cX8_tryWith 72 = .ok (.iastore, 1) := by decide +kernel
theorem dX8_tryWith_73 : decode cX8_tryWith 73 = .ok (.aload_n 0, 1) := by decide +kernel
theorem dX8_tryWith_74 : decode cX8_tryWith 74 = .ok (.iload 5, 2) := by decide +kernel
theorem dX8_tryWith_76 : decode cX8_tryWith 76 = .ok (.aload_n 1, 1) := by decide +kernel
theorem dX8_tryWith_77 : decode cX8_tryWith 77 = .ok (.getfield 41, 3) := by decide +kernel
theorem dX8_tryWith_80 : decode cX8_tryWith 80 = .ok (.iload 5, 2) := by decide +kernel
theorem dX8_tryWith_82 : decode cX8_tryWith 82 = .ok (.iaload, 1) := by decide +kernel
theorem dX8_tryWith_83 : decode cX8_tryWith 83 = .ok (.invokevirtual 44, 3) := by decide +kernel
theorem dX8_tryWith_86 : decode cX8_tryWith 86 = .ok (.iinc 5 1, 3) := by decide +kernel
theorem dX8_tryWith_89 : decode cX8_tryWith 89 = .ok (.goto (-62), 3) := by decide +kernel
theorem dX8_tryWith_92 : decode cX8_tryWith 92 = .ok (.return_, 1) := by decide +kernel
theorem dX8_weigh_0 : decode cX8_weigh 0 = .ok (.iload_n 2, 1) := by decide +kernel
theorem dX8_weigh_1 : decode cX8_weigh 1 = .ok (.ifCond .eq 25, 3) := by decide +kernel
theorem dX8_weigh_4 : decode cX8_weigh 4 = .ok (.aload_n 0, 1) := by decide +kernel
theorem dX8_weigh_5 : decode cX8_weigh 5 = .ok (.getfield 9, 3) := by decide +kernel
theorem dX8_weigh_8 : decode cX8_weigh 8 = .ok (.iload_n 1, 1) := by decide +kernel
theorem dX8_weigh_9 : decode cX8_weigh 9 = .ok (.iaload, 1) := by decide +kernel
theorem dX8_weigh_10 : decode cX8_weigh 10 = .ok (.ifCond .eq 16, 3) := by decide +kernel
theorem dX8_weigh_13 : decode cX8_weigh 13 = .ok (.aload_n 0, 1) := by decide +kernel
theorem dX8_weigh_14 : decode cX8_weigh 14 = .ok (.getfield 9, 3) := by decide +kernel
theorem dX8_weigh_17 : decode cX8_weigh 17 = .ok (.iload_n 1, 1) := by decide +kernel
theorem dX8_weigh_18 : decode cX8_weigh 18 = .ok (.iaload, 1) := by decide +kernel
theorem dX8_weigh_19 : decode cX8_weigh 19 = .ok (.aload_n 0, 1) := by decide +kernel
theorem dX8_weigh_20 : decode cX8_weigh 20 = .ok (.getfield 15, 3) := by decide +kernel
theorem dX8_weigh_23 : decode cX8_weigh 23 = .ok (.if_icmp .ge 4, 3) := by decide +kernel
theorem dX8_weigh_26 : decode cX8_weigh 26 = .ok (.return_, 1) := by decide +kernel
theorem dX8_weigh_27 : decode cX8_weigh 27 = .ok (.iload_n 1, 1) := by decide +kernel
theorem dX8_weigh_28 : decode cX8_weigh 28 = .ok (.invokestatic 48, 3) := by decide +kernel
theorem dX8_weigh_31 : decode cX8_weigh 31 = .ok (.istore_n 3, 1) := by decide +kernel
theorem dX8_weigh_32 : decode cX8_weigh 32 = .ok (.iload_n 2, 1) := by decide +kernel
theorem dX8_weigh_33 : decode cX8_weigh 33 = .ok (.invokestatic 34, 3) := by decide +kernel
theorem dX8_weigh_36 : decode cX8_weigh 36 = .ok (.istore 4, 2) := by decide +kernel
theorem dX8_weigh_38 : decode cX8_weigh 38 = .ok (.aload_n 0, 1) := by decide +kernel
theorem dX8_weigh_39 : decode cX8_weigh 39 = .ok (.getfield 9, 3) := by decide +kernel
theorem dX8_weigh_42 : decode cX8_weigh 42 = .ok (.iload_n 1, 1) := by decide +kernel
theorem dX8_weigh_43 : decode cX8_weigh 43 = .ok (.iaload, 1) := by decide +kernel
theorem dX8_weigh_44 : decode cX8_weigh 44 = .ok (.aload_n 0, 1) := by decide +kernel
theorem dX8_weigh_45 : decode cX8_weigh 45 = .ok (.getfield 15, 3) := by decide +kernel
theorem dX8_weigh_48 : decode cX8_weigh 48 = .ok (.if_icmp .gt 28, 3) := by decide +kernel
theorem dX8_weigh_51 : decode cX8_weigh 51 = .ok (.iload_n 3, 1) := by decide +kernel
theorem dX8_weigh_52 : decode cX8_weigh 52 = .ok (.aload_n 0, 1) := by decide +kernel
theorem dX8_weigh_53 : decode cX8_weigh 53 = .ok (.getfield 22, 3) := by decide +kernel
theorem dX8_weigh_56 : decode cX8_weigh 56 = .ok (.if_icmp .lt 20, 3) := by decide +kernel
theorem dX8_weigh_59 : decode cX8_weigh 59 = .ok (.iload_n 3, 1) := by decide +kernel
theorem dX8_weigh_60 : decode cX8_weigh 60 = .ok (.aload_n 0, 1) := by decide +kernel
theorem dX8_weigh_61 : decode cX8_weigh 61 = .ok (.getfield 22, 3) := by decide +kernel
theorem dX8_weigh_64 : decode cX8_weigh 64 = .ok (.if_icmp .ne 33, 3) := by decide +kernel
theorem dX8_weigh_67 : decode cX8_weigh 67 = .ok (.iload 4, 2) := by decide +kernel
theorem dX8_weigh_69 : decode cX8_weigh 69 = .ok (.aload_n 0, 1) := by decide +kernel
theorem dX8_weigh_70 : decode cX8_weigh 70 = .ok (.getfield 19, 3) := by decide +kernel
theorem dX8_weigh_73 : decode cX8_weigh 73 = .ok (.if_icmp .ge 24, 3) := by decide +kernel
theorem dX8_weigh_76 : decode cX8_weigh 76 = .ok (.aload_n 0, 1) := by decide +kernel
theorem dX8_weigh_77 : decode cX8_weigh 77 = .ok (.aload_n 0, 1) := by decide +kernel
theorem dX8_weigh_78 : decode cX8_weigh 78 = .ok (.getfield 9, 3) := by decide +kernel
theorem dX8_weigh_81 : decode cX8_weigh 81 = .ok (.iload_n 1, 1) := by decide +kernel
theorem dX8_weigh_82 : decode cX8_weigh 82 = .ok (.iaload, 1) := by decide +kernel
theorem dX8_weigh_83 : decode cX8_weigh 83 = .ok (.putfield 15, 3) := by decide +kernel
theorem dX8_weigh_86 : decode cX8_weigh 86 = .ok (.aload_n 0, 1) := by decide +kernel
theorem dX8_weigh_87 : decode cX8_weigh 87 = .ok (.iload 4, 2) := by decide +kernel
theorem dX8_weigh_89 : decode cX8_weigh 89 = .ok (.putfield 19, 3) := by decide +kernel
theorem dX8_weigh_92 : decode cX8_weigh 92 = .ok (.aload_n 0, 1) := by decide +kernel
theorem dX8_weigh_93 : decode cX8_weigh 93 = .ok (.iload_n 3, 1) := by decide +kernel
theorem dX8_weigh_94 : decode cX8_weigh 94 = .ok (.putfield 22, 3) := by decide +kernel
theorem dX8_weigh_97 : decode cX8_weigh 97 = .ok (.return_, 1) := by decide +kernel
theorem dX8_worthOfAll_0 : decode cX8_worthOfAll 0 = .ok (.iconst 0, 1) := by decide +kernel
theorem dX8_worthOfAll_1 : decode cX8_worthOfAll 1 = .ok (.istore_n 3, 1) := by decide +kernel
theorem dX8_worthOfAll_2 : decode cX8_worthOfAll 2 = .ok (.iconst 0, 1) := by decide +kernel
theorem dX8_worthOfAll_3 : decode cX8_worthOfAll 3 = .ok (.istore 4, 2) := by decide +kernel
theorem dX8_worthOfAll_5 : decode cX8_worthOfAll 5 = .ok (.iload 4, 2) := by decide +kernel
theorem dX8_worthOfAll_7 : decode cX8_worthOfAll 7 = .ok (.aload_n 1, 1) := by decide +kernel
theorem dX8_worthOfAll_8 : decode cX8_worthOfAll 8 = .ok (.getfield 53, 3) := by decide +kernel
theorem dX8_worthOfAll_11 : decode cX8_worthOfAll 11 = .ok (.if_icmp .ge 28, 3) := by decide +kernel
theorem dX8_worthOfAll_14 : decode cX8_worthOfAll 14 = .ok (.aload_n 0, 1) := by decide +kernel
theorem dX8_worthOfAll_15 : decode cX8_worthOfAll 15 = .ok (.aload_n 1, 1) := by decide +kernel
theorem dX8_worthOfAll_16 : decode cX8_worthOfAll 16 = .ok (.iload 4, 2) := by decide +kernel
theorem dX8_worthOfAll_18 : decode cX8_worthOfAll 18 = .ok (.iload_n 2, 1) := by decide +kernel
theorem dX8_worthOfAll_19 : decode cX8_worthOfAll 19 = .ok (.invokevirtual 56, 3) := by decide +kernel
theorem dX8_worthOfAll_22 : decode cX8_worthOfAll 22 = .ok (.iload_n 3, 1) := by decide +kernel
theorem dX8_worthOfAll_23 : decode cX8_worthOfAll 23 = .ok (.aload_n 1, 1) := by decide +kernel
theorem dX8_worthOfAll_24 : decode cX8_worthOfAll 24 = .ok (.aload_n 0, 1) := by decide +kernel
theorem dX8_worthOfAll_25 : decode cX8_worthOfAll 25 = .ok (.getfield 15, 3) := by decide +kernel
theorem dX8_worthOfAll_28 : decode cX8_worthOfAll 28 = .ok (.invokevirtual 60, 3) := by decide +kernel
theorem dX8_worthOfAll_31 : decode cX8_worthOfAll 31 = .ok (.iadd, 1) := by decide +kernel
theorem dX8_worthOfAll_32 : decode cX8_worthOfAll 32 = .ok (.istore_n 3, 1) := by decide +kernel
theorem dX8_worthOfAll_33 : decode cX8_worthOfAll 33 = .ok (.iinc 4 1, 3) := by decide +kernel
theorem dX8_worthOfAll_36 : decode cX8_worthOfAll 36 = .ok (.goto (-31), 3) := by decide +kernel
theorem dX8_worthOfAll_39 : decode cX8_worthOfAll 39 = .ok (.iload_n 3, 1) := by decide +kernel
theorem dX8_worthOfAll_40 : decode cX8_worthOfAll 40 = .ok (.ireturn, 1) := by decide +kernel
theorem dX8_bestToLearn_0 : decode cX8_bestToLearn 0 = .ok (.iconst (-1), 1) := by decide +kernel
theorem dX8_bestToLearn_1 : decode cX8_bestToLearn 1 = .ok (.istore_n 3, 1) := by decide +kernel
theorem dX8_bestToLearn_2 : decode cX8_bestToLearn 2 = .ok (.iconst (-1), 1) := by decide +kernel
theorem dX8_bestToLearn_3 : decode cX8_bestToLearn 3 = .ok (.istore 4, 2) := by decide +kernel
theorem dX8_bestToLearn_5 : decode cX8_bestToLearn 5 = .ok (.iconst 0, 1) := by decide +kernel
theorem dX8_bestToLearn_6 : decode cX8_bestToLearn 6 = .ok (.istore 5, 2) := by decide +kernel
theorem dX8_bestToLearn_8 : decode cX8_bestToLearn 8 = .ok (.iload 5, 2) := by decide +kernel
theorem dX8_bestToLearn_10 : decode cX8_bestToLearn 10 = .ok (.aload_n 1, 1) := by decide +kernel
theorem dX8_bestToLearn_11 : decode cX8_bestToLearn 11 = .ok (.getfield 25, 3) := by decide +kernel
theorem dX8_bestToLearn_14 : decode cX8_bestToLearn 14 = .ok (.if_icmp .ge 49, 3) := by decide +kernel
theorem dX8_bestToLearn_17 : decode cX8_bestToLearn 17 = .ok (.iload_n 2, 1) := by decide +kernel
theorem dX8_bestToLearn_18 : decode cX8_bestToLearn 18 = .ok (.iload 5, 2) := by decide +kernel
theorem dX8_bestToLearn_20 : decode cX8_bestToLearn 20 = .ok (.invokestatic 63, 3) := by decide +kernel
theorem dX8_bestToLearn_23 : decode cX8_bestToLearn 23 = .ok (.ifCond .eq 7, 3) := by decide +kernel
theorem dX8_bestToLearn_26 : decode cX8_bestToLearn 26 = .ok (.iconst (-1), 1) := by decide +kernel
theorem dX8_bestToLearn_27 : decode cX8_bestToLearn 27 = .ok (.goto 14, 3) := by decide +kernel
theorem dX8_bestToLearn_30 : decode cX8_bestToLearn 30 = .ok (.aload_n 0, 1) := by decide +kernel
theorem dX8_bestToLearn_31 : decode cX8_bestToLearn 31 = .ok (.aload_n 1, 1) := by decide +kernel
theorem dX8_bestToLearn_32 : decode cX8_bestToLearn 32 = .ok (.iload_n 2, 1) := by decide +kernel
theorem dX8_bestToLearn_33 : decode cX8_bestToLearn 33 = .ok (.iconst 1, 1) := by decide +kernel
theorem dX8_bestToLearn_34 : decode cX8_bestToLearn 34 = .ok (.iload 5, 2) := by decide +kernel
theorem dX8_bestToLearn_36 : decode cX8_bestToLearn 36 = .ok (.ishl, 1) := by decide +kernel
theorem dX8_bestToLearn_37 : decode cX8_bestToLearn 37 = .ok (.ior, 1) := by decide +kernel
theorem dX8_bestToLearn_38 : decode cX8_bestToLearn 38 = .ok (.invokevirtual 67, 3) := by decide +kernel
theorem dX8_bestToLearn_41 : decode cX8_bestToLearn 41 = .ok (.istore 6, 2) := by decide +kernel
theorem dX8_bestToLearn_43 : decode cX8_bestToLearn 43 = .ok (.iload 6, 2) := by decide +kernel
theorem dX8_bestToLearn_45 : decode cX8_bestToLearn 45 = .ok (.iload 4, 2) := by decide +kernel
theorem dX8_bestToLearn_47 : decode cX8_bestToLearn 47 = .ok (.if_icmp .le 10, 3) := by decide +kernel
theorem dX8_bestToLearn_50 : decode cX8_bestToLearn 50 = .ok (.iload 6, 2) := by decide +kernel
theorem dX8_bestToLearn_52 : decode cX8_bestToLearn 52 = .ok (.istore 4, 2) := by decide +kernel
theorem dX8_bestToLearn_54 : decode cX8_bestToLearn 54 = .ok (.iload 5, 2) := by decide +kernel
theorem dX8_bestToLearn_56 : decode cX8_bestToLearn 56 = .ok (.istore_n 3, 1) := by decide +kernel
theorem dX8_bestToLearn_57 : decode cX8_bestToLearn 57 = .ok (.iinc 5 1, 3) := by decide +kernel
theorem dX8_bestToLearn_60 : decode cX8_bestToLearn 60 = .ok (.goto (-52), 3) := by decide +kernel
theorem dX8_bestToLearn_63 : decode cX8_bestToLearn 63 = .ok (.iload_n 3, 1) := by decide +kernel
theorem dX8_bestToLearn_64 : decode cX8_bestToLearn 64 = .ok (.ireturn, 1) := by decide +kernel
theorem dX9_init_0 : decode cX9_init 0 = .ok (.aload_n 0, 1) := by decide +kernel
theorem dX9_init_1 : decode cX9_init 1 = .ok (.invokespecial 1, 3) := by decide +kernel
theorem dX9_init_4 : decode cX9_init 4 = .ok (.aload_n 0, 1) := by decide +kernel
theorem dX9_init_5 : decode cX9_init 5 = .ok (.new 7, 3) := by decide +kernel
theorem dX9_init_8 : decode cX9_init 8 = .ok (.dup, 1) := by decide +kernel
theorem dX9_init_9 : decode cX9_init 9 = .ok (.invokespecial 9, 3) := by decide +kernel
theorem dX9_init_12 : decode cX9_init 12 = .ok (.putfield 10, 3) := by decide +kernel
theorem dX9_init_15 : decode cX9_init 15 = .ok (.aload_n 0, 1) := by decide +kernel
theorem dX9_init_16 : decode cX9_init 16 = .ok (.new 16, 3) := by decide +kernel
theorem dX9_init_19 : decode cX9_init 19 = .ok (.dup, 1) := by decide +kernel
theorem dX9_init_20 : decode cX9_init 20 = .ok (.invokespecial 18, 3) := by decide +kernel
theorem dX9_init_23 : decode cX9_init 23 = .ok (.putfield 19, 3) := by decide +kernel
theorem dX9_init_26 : decode cX9_init 26 = .ok (.aload_n 0, 1) := by decide +kernel
theorem dX9_init_27 : decode cX9_init 27 = .ok (.new 23, 3) := by decide +kernel
theorem dX9_init_30 : decode cX9_init 30 = .ok (.dup, 1) := by decide +kernel
theorem dX9_init_31 : decode cX9_init 31 = .ok (.invokespecial 25, 3) := by decide +kernel
theorem dX9_init_34 : decode cX9_init 34 = .ok (.putfield 26, 3) := by decide +kernel
theorem dX9_init_37 : decode cX9_init 37 = .ok (.aload_n 0, 1) := by decide +kernel
theorem dX9_init_38 : decode cX9_init 38 = .ok (.iconst 2, 1) := by decide +kernel
theorem dX9_init_39 : decode cX9_init 39 = .ok (.anewarray 30, 3) := by decide +kernel
theorem dX9_init_42 : decode cX9_init 42 = .ok (.putfield 32, 3) := by decide +kernel
theorem dX9_init_45 : decode cX9_init 45 = .ok (.aload_n 0, 1) := by decide +kernel
theorem dX9_init_46 : decode cX9_init 46 = .ok (.new 36, 3) := by decide +kernel
theorem dX9_init_49 : decode cX9_init 49 = .ok (.dup, 1) := by decide +kernel
theorem dX9_init_50 : decode cX9_init 50 = .ok (.invokespecial 38, 3) := by decide +kernel
theorem dX9_init_53 : decode cX9_init 53 = .ok (.putfield 39, 3) := by decide +kernel
theorem dX9_init_56 : decode cX9_init 56 = .ok (.aload_n 0, 1) := by decide +kernel
theorem dX9_init_57 : decode cX9_init 57 = .ok (.new 43, 3) := by decide +kernel
theorem dX9_init_60 : decode cX9_init 60 = .ok (.dup, 1) := by decide +kernel
theorem dX9_init_61 : decode cX9_init 61 = .ok (.invokespecial 45, 3) := by decide +kernel
theorem dX9_init_64 : decode cX9_init 64 = .ok (.putfield 46, 3) := by decide +kernel
theorem dX9_init_67 : decode cX9_init 67 = .ok (.aload_n 0, 1) := by decide +kernel
theorem dX9_init_68 : decode cX9_init 68 = .ok (.new 50, 3) := by decide +kernel
theorem dX9_init_71 : decode cX9_init 71 = .ok (.dup, 1) := by decide +kernel
theorem dX9_init_72 : decode cX9_init 72 = .ok (.bipush 6, 2) := by decide +kernel
theorem dX9_init_74 : decode cX9_init 74 = .ok (.invokespecial 52, 3) := by decide +kernel
theorem dX9_init_77 : decode cX9_init 77 = .ok (.putfield 55, 3) := by decide +kernel
theorem dX9_init_80 : decode cX9_init 80 = .ok (.aload_n 0, 1) := by decide +kernel
theorem dX9_init_81 : decode cX9_init 81 = .ok (.new 50, 3) := by decide +kernel
theorem dX9_init_84 : decode cX9_init 84 = .ok (.dup, 1) := by decide +kernel
theorem dX9_init_85 : decode cX9_init 85 = .ok (.bipush 20, 2) := by decide +kernel
theorem dX9_init_87 : decode cX9_init 87 = .ok (.invokespecial 52, 3) := by decide +kernel
theorem dX9_init_90 : decode cX9_init 90 = .ok (.putfield 59, 3) := by decide +kernel
theorem dX9_init_93 : decode cX9_init 93 = .ok (.aload_n 0, 1) := by decide +kernel
theorem dX9_init_94 : decode cX9_init 94 = .ok (.new 62, 3) := by decide +kernel
theorem dX9_init_97 : decode cX9_init 97 = .ok (.dup, 1) := by decide +kernel
theorem dX9_init_98 : decode cX9_init 98 = .ok (.invokespecial 64, 3) := by decide +kernel
theorem dX9_init_101 : decode cX9_init 101 = .ok (.putfield 65, 3) := by decide +kernel
theorem dX9_init_104 : decode cX9_init 104 = .ok (.aload_n 0, 1) := by decide +kernel
theorem dX9_init_105 : decode cX9_init 105 = .ok (.new 62, 3) := by decide +kernel
theorem dX9_init_108 : decode cX9_init 108 = .ok (.dup, 1) := by decide +kernel
theorem dX9_init_109 : decode cX9_init 109 = .ok (.invokespecial 64, 3) := by decide +kernel
theorem dX9_init_112 : decode cX9_init 112 = .ok (.putfield 69, 3) := by decide +kernel
theorem dX9_init_115 : decode cX9_init 115 = .ok (.aload_n 0, 1) := by decide +kernel
theorem dX9_init_116 : decode cX9_init 116 = .ok (.iconst 0, 1) := by decide +kernel
theorem dX9_init_117 : decode cX9_init 117 = .ok (.putfield 72, 3) := by decide +kernel
theorem dX9_init_120 : decode cX9_init 120 = .ok (.aload_n 0, 1) := by decide +kernel
theorem dX9_init_121 : decode cX9_init 121 = .ok (.iconst (-1), 1) := by decide +kernel
theorem dX9_init_122 : decode cX9_init 122 = .ok (.putfield 76, 3) := by decide +kernel
theorem dX9_init_125 : decode cX9_init 125 = .ok (.iconst 0, 1) := by decide +kernel
theorem dX9_init_126 : decode cX9_init 126 = .ok (.istore_n 1, 1) := by decide +kernel
theorem dX9_init_127 : decode cX9_init 127 = .ok (.iload_n 1, 1) := by decide +kernel
theorem dX9_init_128 : decode cX9_init 128 = .ok (.aload_n 0, 1) := by decide +kernel
theorem dX9_init_129 : decode cX9_init 129 = .ok (.getfield 32, 3) := by decide +kernel
theorem dX9_init_132 : decode cX9_init 132 = .ok (.arraylength, 1) := by decide +kernel
theorem dX9_init_133 : decode cX9_init 133 = .ok (.if_icmp .ge 22, 3) := by decide +kernel
theorem dX9_init_136 : decode cX9_init 136 = .ok (.aload_n 0, 1) := by decide +kernel
theorem dX9_init_137 : decode cX9_init 137 = .ok (.getfield 32, 3) := by decide +kernel
theorem dX9_init_140 : decode cX9_init 140 = .ok (.iload_n 1, 1) := by decide +kernel
theorem dX9_init_141 : decode cX9_init 141 = .ok (.new 30, 3) := by decide +kernel
theorem dX9_init_144 : decode cX9_init 144 = .ok (.dup, 1) := by decide +kernel
theorem dX9_init_145 : decode cX9_init 145 = .ok (.invokespecial 79, 3) := by decide +kernel
theorem dX9_init_148 : decode cX9_init 148 = .ok (.aastore, 1) := by decide +kernel
theorem dX9_init_149 : decode cX9_init 149 = .ok (.iinc 1 1, 3) := by decide +kernel
theorem dX9_init_152 : decode cX9_init 152 = .ok (.goto (-25), 3) := by decide +kernel
theorem dX9_init_155 : decode cX9_init 155 = .ok (.return_, 1) := by decide +kernel
theorem dX9_feed_0 : decode cX9_feed 0 = .ok (.iload_n 1, 1) := by decide +kernel
theorem dX9_feed_1 : decode cX9_feed 1 = .ok (.ifCond .lt 10, 3) := by decide +kernel
theorem dX9_feed_4 : decode cX9_feed 4 = .ok (.iload_n 1, 1) := by decide +kernel
theorem dX9_feed_5 : decode cX9_feed 5 = .ok (.sipush 255, 3) := by decide +kernel
theorem dX9_feed_8 : decode cX9_feed 8 = .ok (.if_icmp .le 6, 3) := by decide +kernel
theorem dX9_feed_11 : decode cX9_feed 11 = .ok (.ldc 80, 2) := by decide +kernel
theorem dX9_feed_13 : decode cX9_feed 13 = .ok (.ireturn, 1) := by decide +kernel
theorem dX9_feed_14 : decode cX9_feed 14 = .ok (.aload_n 0, 1) := by decide +kernel
theorem dX9_feed_15 : decode cX9_feed 15 = .ok (.getfield 10, 3) := by decide +kernel
theorem dX9_feed_18 : decode cX9_feed 18 = .ok (.iload_n 1, 1) := by decide +kernel
theorem dX9_feed_19 : decode cX9_feed 19 = .ok (.invokevirtual 81, 3) := by decide +kernel
theorem dX9_feed_22 : decode cX9_feed 22 = .ok (.ifCond .eq 13, 3) := by decide +kernel
theorem dX9_feed_25 : decode cX9_feed 25 = .ok (.aload_n 0, 1) := by decide +kernel
theorem dX9_feed_26 : decode cX9_feed 26 = .ok (.getfield 10, 3) := by decide +kernel
theorem dX9_feed_29 : decode cX9_feed 29 = .ok (.getfield 85, 3) := by decide +kernel
theorem dX9_feed_32 : decode cX9_feed 32 = .ok (.goto 5, 3) := by decide +kernel
theorem dX9_feed_35 : decode cX9_feed 35 = .ok (.ldc 88, 2) := by decide +kernel
theorem dX9_feed_37 : decode cX9_feed 37 = .ok (.ireturn, 1) := by decide +kernel
theorem dX9_bridge_0 : decode cX9_bridge 0 = .ok (.aload_n 0, 1) := by decide +kernel
theorem dX9_bridge_1 : decode cX9_bridge 1 = .ok (.getfield 10, 3) := by decide +kernel
theorem dX9_bridge_4 : decode cX9_bridge 4 = .ok (.aload_n 0, 1) := by decide +kernel
theorem dX9_bridge_5 : decode cX9_bridge 5 = .ok (.getfield 69, 3) := by decide +kernel
theorem dX9_bridge_8 : decode cX9_bridge 8 = .ok (.invokevirtual 89, 3) := by decide +kernel
theorem dX9_bridge_11 : decode cX9_bridge 11 = .ok (.aload_n 0, 1) := by decide +kernel
theorem dX9_bridge_12 : decode cX9_bridge 12 = .ok (.getfield 10, 3) := by decide +kernel
theorem dX9_bridge_15 : decode cX9_bridge 15 = .ok (.invokevirtual 93, 3) := by decide +kernel
theorem dX9_bridge_18 : decode cX9_bridge 18 = .ok (.aload_n 0, 1) := by decide +kernel
theorem dX9_bridge_19 : decode cX9_bridge 19 = .ok (.aload_n 0, 1) := by decide +kernel
theorem dX9_bridge_20 : decode cX9_bridge 20 = .ok (.getfield 10, 3) := by decide +kernel
theorem dX9_bridge_23 : decode cX9_bridge 23 = .ok (.getfield 96, 3) := by decide +kernel
theorem dX9_bridge_26 : decode cX9_bridge 26 = .ok (.putfield 76, 3) := by decide +kernel
theorem dX9_bridge_29 : decode cX9_bridge 29 = .ok (.aload_n 0, 1) := by decide +kernel
theorem dX9_bridge_30 : decode cX9_bridge 30 = .ok (.getfield 10, 3) := by decide +kernel
theorem dX9_bridge_33 : decode cX9_bridge 33 = .ok (.getfield 97, 3) := by decide +kernel
theorem dX9_bridge_36 : decode cX9_bridge 36 = .ok (.ifCond .eq 14, 3) := by decide +kernel
theorem dX9_bridge_39 : decode cX9_bridge 39 = .ok (.bipush (-10), 2) := by decide +kernel
theorem dX9_bridge_41 : decode cX9_bridge 41 = .ok (.aload_n 0, 1) := by decide +kernel
theorem dX9_bridge_42 : decode cX9_bridge 42 = .ok (.getfield 10, 3) := by decide +kernel
theorem dX9_bridge_45 : decode cX9_bridge 45 = .ok (.getfield 97, 3) := by decide +kernel
theorem dX9_bridge_48 : decode cX9_bridge 48 = .ok (.isub, 1) := by decide +kernel
theorem dX9_bridge_49 : decode cX9_bridge 49 = .ok (.ireturn, 1) := by decide +kernel
theorem dX9_bridge_50 : decode cX9_bridge 50 = .ok (.aload_n 0, 1) := by decide +kernel
theorem dX9_bridge_51 : decode cX9_bridge 51 = .ok (.getfield 65, 3) := by decide +kernel
theorem dX9_bridge_54 : decode cX9_bridge 54 = .ok (.astore_n 1, 1) := by decide +kernel
theorem dX9_bridge_55 : decode cX9_bridge 55 = .ok (.aload_n 0, 1) := by decide +kernel
theorem dX9_bridge_56 : decode cX9_bridge 56 = .ok (.aload_n 0, 1) := by decide +kernel
theorem dX9_bridge_57 : decode cX9_bridge 57 = .ok (.getfield 69, 3) := by decide +kernel
theorem dX9_bridge_60 : decode cX9_bridge 60 = .ok (.putfield 65, 3) := by decide +kernel
theorem dX9_bridge_63 : decode cX9_bridge 63 = .ok (.aload_n 0, 1) := by decide +kernel
theorem dX9_bridge_64 : decode cX9_bridge 64 = .ok (.aload_n 1, 1) := by decide +kernel
theorem dX9_bridge_65 : decode cX9_bridge 65 = .ok (.putfield 69, 3) := by decide +kernel
theorem dX9_bridge_68 : decode cX9_bridge 68 = .ok (.aload_n 0, 1) := by decide +kernel
theorem dX9_bridge_69 : decode cX9_bridge 69 = .ok (.invokevirtual 100, 3) := by decide +kernel
theorem dX9_bridge_72 : decode cX9_bridge 72 = .ok (.aload_n 0, 1) := by decide +kernel
theorem dX9_bridge_73 : decode cX9_bridge 73 = .ok (.getfield 65, 3) := by decide +kernel
theorem dX9_bridge_76 : decode cX9_bridge 76 = .ok (.getfield 103, 3) := by decide +kernel
theorem dX9_bridge_79 : decode cX9_bridge 79 = .ok (.ireturn, 1) := by decide +kernel
theorem dX9_beginBridge_0 : decode cX9_beginBridge 0 = .ok (.aload_n 0, 1) := by decide +kernel
theorem dX9_beginBridge_1 : decode cX9_beginBridge 1 = .ok (.getfield 19, 3) := by decide +kernel
theorem dX9_beginBridge_4 : decode cX9_beginBridge 4 = .ok (.aload_n 0, 1) := by decide +kernel
theorem dX9_beginBridge_5 : decode cX9_beginBridge 5 = .ok (.getfield 65, 3) := by decide +kernel
theorem dX9_beginBridge_8 : decode cX9_beginBridge 8 = .ok (.invokevirtual 106, 3) := by decide +kernel
theorem dX9_beginBridge_11 : decode cX9_beginBridge 11 = .ok (.aload_n 0, 1) := by decide +kernel
theorem dX9_beginBridge_12 : decode cX9_beginBridge 12 = .ok (.getfield 26, 3) := by decide +kernel
theorem dX9_beginBridge_15 : decode cX9_beginBridge 15 = .ok (.invokevirtual 109, 3) := by decide +kernel
theorem dX9_beginBridge_18 : decode cX9_beginBridge 18 = .ok (.aload_n 0, 1) := by decide +kernel
theorem dX9_beginBridge_19 : decode cX9_beginBridge 19 = .ok (.getfield 55, 3) := by decide +kernel
theorem dX9_beginBridge_22 : decode cX9_beginBridge 22 = .ok (.invokevirtual 112, 3) := by decide +kernel
theorem dX9_beginBridge_25 : decode cX9_beginBridge 25 = .ok (.aload_n 0, 1) := by decide +kernel
theorem dX9_beginBridge_26 : decode cX9_beginBridge 26 = .ok (.getfield 59, 3) := by decide +kernel
theorem dX9_beginBridge_29 : decode cX9_beginBridge 29 = .ok (.invokevirtual 112, 3) := by decide +kernel
theorem dX9_beginBridge_32 : decode cX9_beginBridge 32 = .ok (.iconst 0, 1) := by decide +kernel
theorem dX9_beginBridge_33 : decode cX9_beginBridge 33 = .ok (.istore_n 1, 1) := by decide +kernel
theorem dX9_beginBridge_34 : decode cX9_beginBridge 34 = .ok (.iload_n 1, 1) := by decide +kernel
theorem dX9_beginBridge_35 : decode cX9_beginBridge 35 = .ok (.aload_n 0, 1) := by decide +kernel
theorem dX9_beginBridge_36 : decode cX9_beginBridge 36 = .ok (.getfield 32, 3) := by decide +kernel
theorem dX9_beginBridge_39 : decode cX9_beginBridge 39 = .ok (.arraylength, 1) := by decide +kernel
theorem dX9_beginBridge_40 : decode cX9_beginBridge 40 = .ok (.if_icmp .ge 19, 3) := by decide +kernel
theorem dX9_beginBridge_43 : decode cX9_beginBridge 43 = .ok (.aload_n 0, 1) := by decide +kernel
theorem dX9_beginBridge_44 : decode cX9_beginBridge 44 = .ok (.getfield 32, 3) := by decide +kernel
theorem dX9_beginBridge_47 : decode cX9_beginBridge 47 = .ok (.iload_n 1, 1) := by decide +kernel
theorem dX9_beginBridge_48 : decode cX9_beginBridge 48 = .ok (.aaload, 1) := by decide +kernel
theorem dX9_beginBridge_49 : decode cX9_beginBridge 49 = .ok (.iconst 0, 1) := by decide +kernel
theorem dX9_beginBridge_50 : decode cX9_beginBridge 50 = .ok (.putfield 113, 3) := by decide +kernel
theorem dX9_beginBridge_53 : decode cX9_beginBridge 53 = .ok (.iinc 1 1, 3) := by decide +kernel
theorem dX9_beginBridge_56 : decode cX9_beginBridge 56 = .ok (.goto (-22), 3) := by decide +kernel
theorem dX9_beginBridge_59 : decode cX9_beginBridge 59 = .ok (.return_, 1) := by decide +kernel
theorem dX9_fault_0 : decode cX9_fault 0 = .ok (.aload_n 0, 1) := by decide +kernel
theorem dX9_fault_1 : decode cX9_fault 1 = .ok (.getfield 76, 3) := by decide +kernel
theorem dX9_fault_4 : decode cX9_fault 4 = .ok (.ireturn, 1) := by decide +kernel
theorem dX9_told_0 : decode cX9_told 0 = .ok (.iload_n 1, 1) := by decide +kernel
theorem dX9_told_1 : decode cX9_told 1 = .ok (.tableswitch 202 0 20 #[99, 107, 115, 123, 131, 202, 202, 202, 202, 202, 202, 202, 202, 202, 202, 139, 147, 159, 178, 186, 194], 99) := by decide +kernel
theorem dX9_told_100 : decode cX9_told 100 = .ok (.aload_n 0, 1) := by decide +kernel
theorem dX9_told_101 : decode cX9_told 101 = .ok (.getfield 65, 3) := by decide +kernel
theorem dX9_told_104 : decode cX9_told 104 = .ok (.getfield 117, 3) := by decide +kernel
theorem dX9_told_107 : decode cX9_told 107 = .ok (.ireturn, 1) := by decide +kernel
theorem dX9_told_108 : decode cX9_told 108 = .ok (.aload_n 0, 1) := by decide +kernel
theorem dX9_told_109 : decode cX9_told 109 = .ok (.getfield 65, 3) := by decide +kernel
theorem dX9_told_112 : decode cX9_told 112 = .ok (.getfield 120, 3) := by decide +kernel
theorem dX9_told_115 : decode cX9_told 115 = .ok (.ireturn, 1) := by decide +kernel
theorem dX9_told_116 : decode cX9_told 116 = .ok (.aload_n 0, 1) := by decide +kernel
theorem dX9_told_117 : decode cX9_told 117 = .ok (.getfield 65, 3) := by decide +kernel
theorem dX9_told_120 : decode cX9_told 120 = .ok (.getfield 123, 3) := by decide +kernel
theorem dX9_told_123 : decode cX9_told 123 = .ok (.ireturn, 1) := by decide +kernel
theorem dX9_told_124 : decode cX9_told 124 = .ok (.aload_n 0, 1) := by decide +kernel
theorem dX9_told_125 : decode cX9_told 125 = .ok (.getfield 65, 3) := by decide +kernel
theorem dX9_told_128 : decode cX9_told 128 = .ok (.getfield 103, 3) := by decide +kernel
theorem dX9_told_131 : decode cX9_told 131 = .ok (.ireturn, 1) := by decide +kernel
theorem dX9_told_132 : decode cX9_told 132 = .ok (.aload_n 0, 1) := by decide +kernel
theorem dX9_told_133 : decode cX9_told 133 = .ok (.getfield 10, 3) := by decide +kernel
theorem dX9_told_136 : decode cX9_told 136 = .ok (.getfield 85, 3) := by decide +kernel
theorem dX9_told_139 : decode cX9_told 139 = .ok (.ireturn, 1) := by decide +kernel
theorem dX9_told_140 : decode cX9_told 140 = .ok (.aload_n 0, 1) := by decide +kernel
theorem dX9_told_141 : decode cX9_told 141 = .ok (.getfield 65, 3) := by decide +kernel
theorem dX9_told_144 : decode cX9_told 144 = .ok (.invokevirtual 126, 3) := by decide +kernel
theorem dX9_told_147 : decode cX9_told 147 = .ok (.ireturn, 1) := by decide +kernel
theorem dX9_told_148 : decode cX9_told 148 = .ok (.aload_n 0, 1) := by decide +kernel
theorem dX9_told_149 : decode cX9_told 149 = .ok (.getfield 19, 3) := by decide +kernel
theorem dX9_told_152 : decode cX9_told 152 = .ok (.aload_n 0, 1) := by decide +kernel
theorem dX9_told_153 : decode cX9_told 153 = .ok (.getfield 65, 3) := by decide +kernel
theorem dX9_told_156 : decode cX9_told 156 = .ok (.invokevirtual 130, 3) := by decide +kernel
theorem dX9_told_159 : decode cX9_told 159 = .ok (.ireturn, 1) := by decide +kernel
theorem dX9_told_160 : decode cX9_told 160 = .ok (.aload_n 0, 1) := by decide +kernel
theorem dX9_told_161 : decode cX9_told 161 = .ok (.getfield 39, 3) := by decide +kernel
theorem dX9_told_164 : decode cX9_told 164 = .ok (.aload_n 0, 1) := by decide +kernel
theorem dX9_told_165 : decode cX9_told 165 = .ok (.getfield 65, 3) := by decide +kernel
theorem dX9_told_168 : decode cX9_told 168 = .ok (.aload_n 0, 1) := by decide +kernel
theorem dX9_told_169 : decode cX9_told 169 = .ok (.getfield 19, 3) := by decide +kernel
theorem dX9_told_172 : decode cX9_told 172 = .ok (.getfield 134, 3) := by decide +kernel
theorem dX9_told_175 : decode cX9_told 175 = .ok (.invokevirtual 137, 3) := by decide +kernel
theorem dX9_told_178 : decode cX9_told 178 = .ok (.ireturn, 1) := by decide +kernel
theorem dX9_told_179 : decode cX9_told 179 = .ok (.aload_n 0, 1) := by decide +kernel
theorem dX9_told_180 : decode cX9_told 180 = .ok (.getfield 55, 3) := by decide +kernel
theorem dX9_told_183 : decode cX9_told 183 = .ok (.getfield 141, 3) := by decide +kernel
theorem dX9_told_186 : decode cX9_told 186 = .ok (.ireturn, 1) := by decide +kernel
theorem dX9_told_187 : decode cX9_told 187 = .ok (.aload_n 0, 1) := by decide +kernel
theorem dX9_told_188 : decode cX9_told 188 = .ok (.getfield 59, 3) := by decide +kernel
theorem dX9_told_191 : decode cX9_told 191 = .ok (.getfield 141, 3) := by decide +kernel
theorem dX9_told_194 : decode cX9_told 194 = .ok (.ireturn, 1) := by decide +kernel
theorem dX9_told_195 : decode cX9_told 195 = .ok (.aload_n 0, 1) := by decide +kernel
theorem dX9_told_196 : decode cX9_told 196 = .ok (.getfield 26, 3) := by decide +kernel
theorem dX9_told_199 : decode cX9_told 199 = .ok (.getfield 144, 3) := by decide +kernel
theorem dX9_told_202 : decode cX9_told 202 = .ok (.ireturn, 1) := by decide +kernel
theorem dX9_told_203 : decode cX9_told 203 = .ok (.aload_n 0, 1) := by decide +kernel
theorem dX9_told_204 : decode cX9_told 204 = .ok (.iload_n 1, 1) := by decide +kernel
theorem dX9_told_205 : decode cX9_told 205 = .ok (.invokevirtual 145, 3) := by decide +kernel
theorem dX9_told_208 : decode cX9_told 208 = .ok (.ireturn, 1) := by decide +kernel
theorem dX9_toldOfEvening_0 : decode cX9_toldOfEvening 0 = .ok (.iload_n 1, 1) := by decide +kernel
theorem dX9_toldOfEvening_1 : decode cX9_toldOfEvening 1 = .ok (.tableswitch 135 5 14 #[55, 63, 71, 79, 87, 95, 103, 111, 119, 127], 55) := by decide +kernel
theorem dX9_toldOfEvening_56 : decode cX9_toldOfEvening 56 = .ok (.aload_n 0, 1) := by decide +kernel
theorem dX9_toldOfEvening_57 : decode cX9_toldOfEvening 57 = .ok (.getfield 19, 3) := by decide +kernel
theorem dX9_toldOfEvening_60 : decode cX9_toldOfEvening 60 = .ok (.getfield 149, 3) := by decide +kernel
theorem dX9_toldOfEvening_63 : decode cX9_toldOfEvening 63 = .ok (.ireturn, 1) := by decide +kernel
theorem dX9_toldOfEvening_64 : decode cX9_toldOfEvening 64 = .ok (.aload_n 0, 1) := by decide +kernel
theorem dX9_toldOfEvening_65 : decode cX9_toldOfEvening 65 = .ok (.getfield 19, 3) := by decide +kernel
theorem dX9_toldOfEvening_68 : decode cX9_toldOfEvening 68 = .ok (.getfield 152, 3) := by decide +kernel
theorem dX9_toldOfEvening_71 : decode cX9_toldOfEvening 71 = .ok (.ireturn, 1) := by decide +kernel
theorem dX9_toldOfEvening_72 : decode cX9_toldOfEvening 72 = .ok (.aload_n 0, 1) := by decide +kernel
theorem dX9_toldOfEvening_73 : decode cX9_toldOfEvening 73 = .ok (.getfield 19, 3) := by decide +kernel
theorem dX9_toldOfEvening_76 : decode cX9_toldOfEvening 76 = .ok (.getfield 155, 3) := by decide +kernel
theorem dX9_toldOfEvening_79 : decode cX9_toldOfEvening 79 = .ok (.ireturn, 1) := by decide +kernel
theorem dX9_toldOfEvening_80 : decode cX9_toldOfEvening 80 = .ok (.aload_n 0, 1) := by decide +kernel
theorem dX9_toldOfEvening_81 : decode cX9_toldOfEvening 81 = .ok (.getfield 19, 3) := by decide +kernel
theorem dX9_toldOfEvening_84 : decode cX9_toldOfEvening 84 = .ok (.getfield 134, 3) := by decide +kernel
theorem dX9_toldOfEvening_87 : decode cX9_toldOfEvening 87 = .ok (.ireturn, 1) := by decide +kernel
theorem dX9_toldOfEvening_88 : decode cX9_toldOfEvening 88 = .ok (.aload_n 0, 1) := by decide +kernel
theorem dX9_toldOfEvening_89 : decode cX9_toldOfEvening 89 = .ok (.getfield 19, 3) := by decide +kernel
theorem dX9_toldOfEvening_92 : decode cX9_toldOfEvening 92 = .ok (.getfield 158, 3) := by decide +kernel
theorem dX9_toldOfEvening_95 : decode cX9_toldOfEvening 95 = .ok (.ireturn, 1) := by decide +kernel
theorem dX9_toldOfEvening_96 : decode cX9_toldOfEvening 96 = .ok (.aload_n 0, 1) := by decide +kernel
theorem dX9_toldOfEvening_97 : decode cX9_toldOfEvening 97 = .ok (.getfield 19, 3) := by decide +kernel
theorem dX9_toldOfEvening_100 : decode cX9_toldOfEvening 100 = .ok (.getfield 161, 3) := by decide +kernel
theorem dX9_toldOfEvening_103 : decode cX9_toldOfEvening 103 = .ok (.ireturn, 1) := by decide +kernel
theorem dX9_toldOfEvening_104 : decode cX9_toldOfEvening 104 = .ok (.aload_n 0, 1) := by decide +kernel
theorem dX9_toldOfEvening_105 : decode cX9_toldOfEvening 105 = .ok (.getfield 19, 3) := by decide +kernel
theorem dX9_toldOfEvening_108 : decode cX9_toldOfEvening 108 = .ok (.getfield 164, 3) := by decide +kernel
theorem dX9_toldOfEvening_111 : decode cX9_toldOfEvening 111 = .ok (.ireturn, 1) := by decide +kernel
theorem dX9_toldOfEvening_112 : decode cX9_toldOfEvening 112 = .ok (.aload_n 0, 1) := by decide +kernel
theorem dX9_toldOfEvening_113 : decode cX9_toldOfEvening 113 = .ok (.getfield 19, 3) := by decide +kernel
theorem dX9_toldOfEvening_116 : decode cX9_toldOfEvening 116 = .ok (.getfield 167, 3) := by decide +kernel
theorem dX9_toldOfEvening_119 : decode cX9_toldOfEvening 119 = .ok (.ireturn, 1) := by decide +kernel
theorem dX9_toldOfEvening_120 : decode cX9_toldOfEvening 120 = .ok (.aload_n 0, 1) := by decide +kernel
theorem dX9_toldOfEvening_121 : decode cX9_toldOfEvening 121 = .ok (.getfield 19, 3) := by decide +kernel
theorem dX9_toldOfEvening_124 : decode cX9_toldOfEvening 124 = .ok (.getfield 170, 3) := by decide +kernel
theorem dX9_toldOfEvening_127 : decode cX9_toldOfEvening 127 = .ok (.ireturn, 1) := by decide +kernel
theorem dX9_toldOfEvening_128 : decode cX9_toldOfEvening 128 = .ok (.aload_n 0, 1) := by decide +kernel
theorem dX9_toldOfEvening_129 : decode cX9_toldOfEvening 129 = .ok (.getfield 19, 3) := by decide +kernel
theorem dX9_toldOfEvening_132 : decode cX9_toldOfEvening 132 = .ok (.getfield 173, 3) := by decide +kernel
theorem dX9_toldOfEvening_135 : decode cX9_toldOfEvening 135 = .ok (.ireturn, 1) := by decide +kernel
theorem dX9_toldOfEvening_136 : decode cX9_toldOfEvening 136 = .ok (.ldc 80, 2) := by decide +kernel
theorem dX9_toldOfEvening_138 : decode cX9_toldOfEvening 138 = .ok (.ireturn, 1) := by decide +kernel
theorem dX9_matter_0 : decode cX9_matter 0 = .ok (.aload_n 0, 1) := by decide +kernel
theorem dX9_matter_1 : decode cX9_matter 1 = .ok (.getfield 65, 3) := by decide +kernel
theorem dX9_matter_4 : decode cX9_matter 4 = .ok (.iload_n 1, 1) := by decide +kernel
theorem dX9_matter_5 : decode cX9_matter 5 = .ok (.invokevirtual 176, 3) := by decide +kernel
theorem dX9_matter_8 : decode cX9_matter 8 = .ok (.ifCond .ne 6, 3) := by decide +kernel
theorem dX9_matter_11 : decode cX9_matter 11 = .ok (.ldc 179, 2) := by decide +kernel
theorem dX9_matter_13 : decode cX9_matter 13 = .ok (.ireturn, 1) := by decide +kernel
theorem dX9_matter_14 : decode cX9_matter 14 = .ok (.iload_n 2, 1) := by decide +kernel
theorem dX9_matter_15 : decode cX9_matter 15 = .ok (.tableswitch 67 0 3 #[29, 39, 49, 58], 29) := by decide +kernel
theorem dX9_matter_44 : decode cX9_matter 44 = .ok (.aload_n 0, 1) := by decide +kernel
theorem dX9_matter_45 : decode cX9_matter 45 = .ok (.getfield 65, 3) := by decide +kernel
theorem dX9_matter_48 : decode cX9_matter 48 = .ok (.getfield 180, 3) := by decide +kernel
theorem dX9_matter_51 : decode cX9_matter 51 = .ok (.iload_n 1, 1) := by decide +kernel
theorem dX9_matter_52 : decode cX9_matter 52 = .ok (.iaload, 1) := by decide +kernel
theorem dX9_matter_53 : decode cX9_matter 53 = .ok (.ireturn, 1) := by decide +kernel
theorem dX9_matter_54 : decode cX9_matter 54 = .ok (.aload_n 0, 1) := by decide +kernel
theorem dX9_matter_55 : decode cX9_matter 55 = .ok (.getfield 65, 3) := by decide +kernel
theorem dX9_matter_58 : decode cX9_matter 58 = .ok (.getfield 184, 3) := by decide +kernel
theorem dX9_matter_61 : decode cX9_matter 61 = .ok (.iload_n 1, 1) := by decide +kernel
theorem dX9_matter_62 : decode cX9_matter 62 = .ok (.iaload, 1) := by decide +kernel
theorem dX9_matter_63 : decode cX9_matter 63 = .ok (.ireturn, 1) := by decide +kernel
theorem dX9_matter_64 : decode cX9_matter 64 = .ok (.aload_n 0, 1) := by decide +kernel
theorem dX9_matter_65 : decode cX9_matter 65 = .ok (.getfield 65, 3) := by decide +kernel
theorem dX9_matter_68 : decode cX9_matter 68 = .ok (.iload_n 1, 1) := by decide +kernel
theorem dX9_matter_69 : decode cX9_matter 69 = .ok (.invokevirtual 187, 3) := by decide +kernel
theorem dX9_matter_72 : decode cX9_matter 72 = .ok (.ireturn, 1) := by decide +kernel
theorem dX9_matter_73 : decode cX9_matter 73 = .ok (.aload_n 0, 1) := by decide +kernel
theorem dX9_matter_74 : decode cX9_matter 74 = .ok (.getfield 65, 3) := by decide +kernel
theorem dX9_matter_77 : decode cX9_matter 77 = .ok (.iload_n 1, 1) := by decide +kernel
theorem dX9_matter_78 : decode cX9_matter 78 = .ok (.invokevirtual 190, 3) := by decide +kernel
theorem dX9_matter_81 : decode cX9_matter 81 = .ok (.ireturn, 1) := by decide +kernel
theorem dX9_matter_82 : decode cX9_matter 82 = .ok (.ldc 80, 2) := by decide +kernel
theorem dX9_matter_84 : decode cX9_matter 84 = .ok (.ireturn, 1) := by decide +kernel
theorem dX9_traveller_0 : decode cX9_traveller 0 = .ok (.aload_n 0, 1) := by decide +kernel
theorem dX9_traveller_1 : decode cX9_traveller 1 = .ok (.getfield 65, 3) := by decide +kernel
theorem dX9_traveller_4 : decode cX9_traveller 4 = .ok (.iload_n 1, 1) := by decide +kernel
theorem dX9_traveller_5 : decode cX9_traveller 5 = .ok (.invokevirtual 193, 3) := by decide +kernel
theorem dX9_traveller_8 : decode cX9_traveller 8 = .ok (.ifCond .ne 6, 3) := by decide +kernel
theorem dX9_traveller_11 : decode cX9_traveller 11 = .ok (.ldc 179, 2) := by decide +kernel
theorem dX9_traveller_13 : decode cX9_traveller 13 = .ok (.ireturn, 1) := by decide +kernel
theorem dX9_traveller_14 : decode cX9_traveller 14 = .ok (.iload_n 2, 1) := by decide +kernel
theorem dX9_traveller_15 : decode cX9_traveller 15 = .ok (.tableswitch 113 0 6 #[41, 51, 61, 71, 81, 91, 104], 41) := by decide +kernel
theorem dX9_traveller_56 : decode cX9_traveller 56 = .ok (.aload_n 0, 1) := by decide +kernel
theorem dX9_traveller_57 : decode cX9_traveller 57 = .ok (.getfield 65, 3) := by decide +kernel
theorem dX9_traveller_60 : decode cX9_traveller 60 = .ok (.getfield 196, 3) := by decide +kernel
theorem dX9_traveller_63 : decode cX9_traveller 63 = .ok (.iload_n 1, 1) := by decide +kernel
theorem dX9_traveller_64 : decode cX9_traveller 64 = .ok (.iaload, 1) := by decide +kernel
theorem dX9_traveller_65 : decode cX9_traveller 65 = .ok (.ireturn, 1) := by decide +kernel
theorem dX9_traveller_66 : decode cX9_traveller 66 = .ok (.aload_n 0, 1) := by decide +kernel
theorem dX9_traveller_67 : decode cX9_traveller 67 = .ok (.getfield 65, 3) := by decide +kernel
theorem dX9_traveller_70 : decode cX9_traveller 70 = .ok (.getfield 199, 3) := by decide +kernel
theorem dX9_traveller_73 : decode cX9_traveller 73 = .ok (.iload_n 1, 1) := by decide +kernel
theorem dX9_traveller_74 : decode cX9_traveller 74 = .ok (.iaload, 1) := by decide +kernel
theorem dX9_traveller_75 : decode cX9_traveller 75 = .ok (.ireturn, 1) := by decide +kernel
theorem dX9_traveller_76 : decode cX9_traveller 76 = .ok (.aload_n 0, 1) := by decide +kernel
theorem dX9_traveller_77 : decode cX9_traveller 77 = .ok (.getfield 65, 3) := by decide +kernel
theorem dX9_traveller_80 : decode cX9_traveller 80 = .ok (.getfield 202, 3) := by decide +kernel
theorem dX9_traveller_83 : decode cX9_traveller 83 = .ok (.iload_n 1, 1) := by decide +kernel
theorem dX9_traveller_84 : decode cX9_traveller 84 = .ok (.iaload, 1) := by decide +kernel
theorem dX9_traveller_85 : decode cX9_traveller 85 = .ok (.ireturn, 1) := by decide +kernel
theorem dX9_traveller_86 : decode cX9_traveller 86 = .ok (.aload_n 0, 1) := by decide +kernel
theorem dX9_traveller_87 : decode cX9_traveller 87 = .ok (.getfield 19, 3) := by decide +kernel
theorem dX9_traveller_90 : decode cX9_traveller 90 = .ok (.getfield 205, 3) := by decide +kernel
theorem dX9_traveller_93 : decode cX9_traveller 93 = .ok (.iload_n 1, 1) := by decide +kernel
theorem dX9_traveller_94 : decode cX9_traveller 94 = .ok (.iaload, 1) := by decide +kernel
theorem dX9_traveller_95 : decode cX9_traveller 95 = .ok (.ireturn, 1) := by decide +kernel
theorem dX9_traveller_96 : decode cX9_traveller 96 = .ok (.aload_n 0, 1) := by decide +kernel
theorem dX9_traveller_97 : decode cX9_traveller 97 = .ok (.getfield 19, 3) := by decide +kernel
theorem dX9_traveller_100 : decode cX9_traveller 100 = .ok (.getfield 208, 3) := by decide +kernel
theorem dX9_traveller_103 : decode cX9_traveller 103 = .ok (.iload_n 1, 1) := by decide +kernel
theorem dX9_traveller_104 : decode cX9_traveller 104 = .ok (.iaload, 1) := by decide +kernel
theorem dX9_traveller_105 : decode cX9_traveller 105 = .ok (.ireturn, 1) := by decide +kernel
theorem dX9_traveller_106 : decode cX9_traveller 106 = .ok (.aload_n 0, 1) := by decide +kernel
theorem dX9_traveller_107 : decode cX9_traveller 107 = .ok (.getfield 19, 3) := by decide +kernel
theorem dX9_traveller_110 : decode cX9_traveller 110 = .ok (.aload_n 0, 1) := by decide +kernel
theorem dX9_traveller_111 : decode cX9_traveller 111 = .ok (.getfield 65, 3) := by decide +kernel
theorem dX9_traveller_114 : decode cX9_traveller 114 = .ok (.iload_n 1, 1) := by decide +kernel
theorem dX9_traveller_115 : decode cX9_traveller 115 = .ok (.invokevirtual 211, 3) := by decide +kernel
theorem dX9_traveller_118 : decode cX9_traveller 118 = .ok (.ireturn, 1) := by decide +kernel
theorem dX9_traveller_119 : decode cX9_traveller 119 = .ok (.aload_n 0, 1) := by decide +kernel
theorem dX9_traveller_120 : decode cX9_traveller 120 = .ok (.getfield 65, 3) := by decide +kernel
theorem dX9_traveller_123 : decode cX9_traveller 123 = .ok (.iload_n 1, 1) := by decide +kernel
theorem dX9_traveller_124 : decode cX9_traveller 124 = .ok (.invokevirtual 214, 3) := by decide +kernel
theorem dX9_traveller_127 : decode cX9_traveller 127 = .ok (.ireturn, 1) := by decide +kernel
theorem dX9_traveller_128 : decode cX9_traveller 128 = .ok (.ldc 80, 2) := by decide +kernel
theorem dX9_traveller_130 : decode cX9_traveller 130 = .ok (.ireturn, 1) := by decide +kernel
theorem dX9_seat_0 : decode cX9_seat 0 = .ok (.aload_n 0, 1) := by decide +kernel
theorem dX9_seat_1 : decode cX9_seat 1 = .ok (.getfield 65, 3) := by decide +kernel
theorem dX9_seat_4 : decode cX9_seat 4 = .ok (.iload_n 1, 1) := by decide +kernel
theorem dX9_seat_5 : decode cX9_seat 5 = .ok (.invokevirtual 193, 3) := by decide +kernel
theorem dX9_seat_8 : decode cX9_seat 8 = .ok (.ifCond .ne 6, 3) := by decide +kernel
theorem dX9_seat_11 : decode cX9_seat 11 = .ok (.ldc 179, 2) := by decide +kernel
theorem dX9_seat_13 : decode cX9_seat 13 = .ok (.ireturn, 1) := by decide +kernel
theorem dX9_seat_14 : decode cX9_seat 14 = .ok (.aload_n 0, 1) := by decide +kernel
theorem dX9_seat_15 : decode cX9_seat 15 = .ok (.getfield 19, 3) := by decide +kernel
theorem dX9_seat_18 : decode cX9_seat 18 = .ok (.getfield 158, 3) := by decide +kernel
theorem dX9_seat_21 : decode cX9_seat 21 = .ok (.iconst (-1), 1) := by decide +kernel
theorem dX9_seat_22 : decode cX9_seat 22 = .ok (.if_icmp .ne 17, 3) := by decide +kernel
theorem dX9_seat_25 : decode cX9_seat 25 = .ok (.aload_n 0, 1) := by decide +kernel
theorem dX9_seat_26 : decode cX9_seat 26 = .ok (.getfield 19, 3) := by decide +kernel
theorem dX9_seat_29 : decode cX9_seat 29 = .ok (.getfield 167, 3) := by decide +kernel
theorem dX9_seat_32 : decode cX9_seat 32 = .ok (.iload_n 1, 1) := by decide +kernel
theorem dX9_seat_33 : decode cX9_seat 33 = .ok (.invokestatic 217, 3) := by decide +kernel
theorem dX9_seat_36 : decode cX9_seat 36 = .ok (.ifCond .ne 6, 3) := by decide +kernel
theorem dX9_seat_39 : decode cX9_seat 39 = .ok (.ldc 221, 2) := by decide +kernel
theorem dX9_seat_41 : decode cX9_seat 41 = .ok (.ireturn, 1) := by decide +kernel
theorem dX9_seat_42 : decode cX9_seat 42 = .ok (.aload_n 0, 1) := by decide +kernel
theorem dX9_seat_43 : decode cX9_seat 43 = .ok (.getfield 26, 3) := by decide +kernel
theorem dX9_seat_46 : decode cX9_seat 46 = .ok (.aload_n 0, 1) := by decide +kernel
theorem dX9_seat_47 : decode cX9_seat 47 = .ok (.getfield 19, 3) := by decide +kernel
theorem dX9_seat_50 : decode cX9_seat 50 = .ok (.invokevirtual 222, 3) := by decide +kernel
theorem dX9_seat_53 : decode cX9_seat 53 = .ok (.aload_n 0, 1) := by decide +kernel
theorem dX9_seat_54 : decode cX9_seat 54 = .ok (.getfield 19, 3) := by decide +kernel
theorem dX9_seat_57 : decode cX9_seat 57 = .ok (.iload_n 1, 1) := by decide +kernel
theorem dX9_seat_58 : decode cX9_seat 58 = .ok (.invokevirtual 226, 3) := by decide +kernel
theorem dX9_seat_61 : decode cX9_seat 61 = .ok (.aload_n 0, 1) := by decide +kernel
theorem dX9_seat_62 : decode cX9_seat 62 = .ok (.getfield 19, 3) := by decide +kernel
theorem dX9_seat_65 : decode cX9_seat 65 = .ok (.getfield 208, 3) := by decide +kernel
theorem dX9_seat_68 : decode cX9_seat 68 = .ok (.iload_n 1, 1) := by decide +kernel
theorem dX9_seat_69 : decode cX9_seat 69 = .ok (.iaload, 1) := by decide +kernel
theorem dX9_seat_70 : decode cX9_seat 70 = .ok (.ireturn, 1) := by decide +kernel
theorem dX9_tell_0 : decode cX9_tell 0 = .ok (.aload_n 0, 1) := by decide +kernel
theorem dX9_tell_1 : decode cX9_tell 1 = .ok (.getfield 65, 3) := by decide +kernel
theorem dX9_tell_4 : decode cX9_tell 4 = .ok (.iload_n 1, 1) := by decide +kernel
theorem dX9_tell_5 : decode cX9_tell 5 = .ok (.invokevirtual 176, 3) := by decide +kernel
theorem dX9_tell_8 : decode cX9_tell 8 = .ok (.ifCond .ne 6, 3) := by decide +kernel
theorem dX9_tell_11 : decode cX9_tell 11 = .ok (.ldc 179, 2) := by decide +kernel
theorem dX9_tell_13 : decode cX9_tell 13 = .ok (.ireturn, 1) := by decide +kernel
theorem dX9_tell_14 : decode cX9_tell 14 = .ok (.aload_n 0, 1) := by decide +kernel
theorem dX9_tell_15 : decode cX9_tell 15 = .ok (.getfield 19, 3) := by decide +kernel
theorem dX9_tell_18 : decode cX9_tell 18 = .ok (.iload_n 1, 1) := by decide +kernel
theorem dX9_tell_19 : decode cX9_tell 19 = .ok (.invokevirtual 229, 3) := by decide +kernel
theorem dX9_tell_22 : decode cX9_tell 22 = .ok (.ifCond .ne 6, 3) := by decide +kernel
theorem dX9_tell_25 : decode cX9_tell 25 = .ok (.ldc 221, 2) := by decide +kernel
theorem dX9_tell_27 : decode cX9_tell 27 = .ok (.ireturn, 1) := by decide +kernel
theorem dX9_tell_28 : decode cX9_tell 28 = .ok (.aload_n 0, 1) := by decide +kernel
theorem dX9_tell_29 : decode cX9_tell 29 = .ok (.getfield 26, 3) := by decide +kernel
theorem dX9_tell_32 : decode cX9_tell 32 = .ok (.aload_n 0, 1) := by decide +kernel
theorem dX9_tell_33 : decode cX9_tell 33 = .ok (.getfield 19, 3) := by decide +kernel
theorem dX9_tell_36 : decode cX9_tell 36 = .ok (.invokevirtual 222, 3) := by decide +kernel
theorem dX9_tell_39 : decode cX9_tell 39 = .ok (.aload_n 0, 1) := by decide +kernel
theorem dX9_tell_40 : decode cX9_tell 40 = .ok (.getfield 19, 3) := by decide +kernel
theorem dX9_tell_43 : decode cX9_tell 43 = .ok (.aload_n 0, 1) := by decide +kernel
theorem dX9_tell_44 : decode cX9_tell 44 = .ok (.getfield 65, 3) := by decide +kernel
theorem dX9_tell_47 : decode cX9_tell 47 = .ok (.iload_n 1, 1) := by decide +kernel
theorem dX9_tell_48 : decode cX9_tell 48 = .ok (.invokevirtual 232, 3) := by decide +kernel
theorem dX9_tell_51 : decode cX9_tell 51 = .ok (.ireturn, 1) := by decide +kernel
theorem dX9_rise_0 : decode cX9_rise 0 = .ok (.aload_n 0, 1) := by decide +kernel
theorem dX9_rise_1 : decode cX9_rise 1 = .ok (.getfield 19, 3) := by decide +kernel
theorem dX9_rise_4 : decode cX9_rise 4 = .ok (.getfield 158, 3) := by decide +kernel
theorem dX9_rise_7 : decode cX9_rise 7 = .ok (.iconst (-1), 1) := by decide +kernel
theorem dX9_rise_8 : decode cX9_rise 8 = .ok (.if_icmp .ne 6, 3) := by decide +kernel
theorem dX9_rise_11 : decode cX9_rise 11 = .ok (.ldc 221, 2) := by decide +kernel
theorem dX9_rise_13 : decode cX9_rise 13 = .ok (.ireturn, 1) := by decide +kernel
theorem dX9_rise_14 : decode cX9_rise 14 = .ok (.aload_n 0, 1) := by decide +kernel
theorem dX9_rise_15 : decode cX9_rise 15 = .ok (.getfield 26, 3) := by decide +kernel
theorem dX9_rise_18 : decode cX9_rise 18 = .ok (.aload_n 0, 1) := by decide +kernel
theorem dX9_rise_19 : decode cX9_rise 19 = .ok (.getfield 19, 3) := by decide +kernel
theorem dX9_rise_22 : decode cX9_rise 22 = .ok (.invokevirtual 222, 3) := by decide +kernel
theorem dX9_rise_25 : decode cX9_rise 25 = .ok (.aload_n 0, 1) := by decide +kernel
theorem dX9_rise_26 : decode cX9_rise 26 = .ok (.getfield 19, 3) := by decide +kernel
theorem dX9_rise_29 : decode cX9_rise 29 = .ok (.aload_n 0, 1) := by decide +kernel
theorem dX9_rise_30 : decode cX9_rise 30 = .ok (.getfield 65, 3) := by decide +kernel
theorem dX9_rise_33 : decode cX9_rise 33 = .ok (.invokevirtual 235, 3) := by decide +kernel
theorem dX9_rise_36 : decode cX9_rise 36 = .ok (.ireturn, 1) := by decide +kernel
theorem dX9_learn_0 : decode cX9_learn 0 = .ok (.aload_n 0, 1) := by decide +kernel
theorem dX9_learn_1 : decode cX9_learn 1 = .ok (.getfield 65, 3) := by decide +kernel
theorem dX9_learn_4 : decode cX9_learn 4 = .ok (.iload_n 1, 1) := by decide +kernel
theorem dX9_learn_5 : decode cX9_learn 5 = .ok (.invokevirtual 176, 3) := by decide +kernel
theorem dX9_learn_8 : decode cX9_learn 8 = .ok (.ifCond .ne 6, 3) := by decide +kernel
theorem dX9_learn_11 : decode cX9_learn 11 = .ok (.ldc 179, 2) := by decide +kernel
theorem dX9_learn_13 : decode cX9_learn 13 = .ok (.ireturn, 1) := by decide +kernel
theorem dX9_learn_14 : decode cX9_learn 14 = .ok (.aload_n 0, 1) := by decide +kernel
theorem dX9_learn_15 : decode cX9_learn 15 = .ok (.getfield 19, 3) := by decide +kernel
theorem dX9_learn_18 : decode cX9_learn 18 = .ok (.getfield 134, 3) := by decide +kernel
theorem dX9_learn_21 : decode cX9_learn 21 = .ok (.iload_n 1, 1) := by decide +kernel
theorem dX9_learn_22 : decode cX9_learn 22 = .ok (.invokestatic 217, 3) := by decide +kernel
theorem dX9_learn_25 : decode cX9_learn 25 = .ok (.ifCond .eq 6, 3) := by decide +kernel
theorem dX9_learn_28 : decode cX9_learn 28 = .ok (.ldc 221, 2) := by decide +kernel
theorem dX9_learn_30 : decode cX9_learn 30 = .ok (.ireturn, 1) := by decide +kernel
theorem dX9_learn_31 : decode cX9_learn 31 = .ok (.aload_n 0, 1) := by decide +kernel
theorem dX9_learn_32 : decode cX9_learn 32 = .ok (.getfield 26, 3) := by decide +kernel
theorem dX9_learn_35 : decode cX9_learn 35 = .ok (.aload_n 0, 1) := by decide +kernel
theorem dX9_learn_36 : decode cX9_learn 36 = .ok (.getfield 19, 3) := by decide +kernel
theorem dX9_learn_39 : decode cX9_learn 39 = .ok (.invokevirtual 222, 3) := by decide +kernel
theorem dX9_learn_42 : decode cX9_learn 42 = .ok (.aload_n 0, 1) := by decide +kernel
theorem dX9_learn_43 : decode cX9_learn 43 = .ok (.getfield 19, 3) := by decide +kernel
theorem dX9_learn_46 : decode cX9_learn 46 = .ok (.dup, 1) := by decide +kernel
theorem dX9_learn_47 : decode cX9_learn 47 = .ok (.getfield 134, 3) := by decide +kernel
theorem dX9_learn_50 : decode cX9_learn 50 = .ok (.iconst 1, 1) := by decide +kernel
theorem dX9_learn_51 : decode cX9_learn 51 = .ok (.iload_n 1, 1) := by decide +kernel
theorem dX9_learn_52 : decode cX9_learn 52 = .ok (.ishl, 1) := by decide +kernel
theorem dX9_learn_53 : decode cX9_learn 53 = .ok (.ior, 1) := by decide +kernel
theorem dX9_learn_54 : decode cX9_learn 54 = .ok (.putfield 134, 3) := by decide +kernel
theorem dX9_learn_57 : decode cX9_learn 57 = .ok (.aload_n 0, 1) := by decide +kernel
theorem dX9_learn_58 : decode cX9_learn 58 = .ok (.getfield 19, 3) := by decide +kernel
theorem dX9_learn_61 : decode cX9_learn 61 = .ok (.aload_n 0, 1) := by decide +kernel
theorem dX9_learn_62 : decode cX9_learn 62 = .ok (.getfield 65, 3) := by decide +kernel
theorem dX9_learn_65 : decode cX9_learn 65 = .ok (.bipush 60, 2) := by decide +kernel
theorem dX9_learn_67 : decode cX9_learn 67 = .ok (.invokevirtual 238, 3) := by decide +kernel
theorem dX9_learn_70 : decode cX9_learn 70 = .ok (.aload_n 0, 1) := by decide +kernel
theorem dX9_learn_71 : decode cX9_learn 71 = .ok (.getfield 19, 3) := by decide +kernel
theorem dX9_learn_74 : decode cX9_learn 74 = .ok (.getfield 134, 3) := by decide +kernel
theorem dX9_learn_77 : decode cX9_learn 77 = .ok (.invokestatic 242, 3) := by decide +kernel
theorem dX9_learn_80 : decode cX9_learn 80 = .ok (.ireturn, 1) := by decide +kernel
theorem dX9_minute_0 : decode cX9_minute 0 = .ok (.iload_n 1, 1) := by decide +kernel
theorem dX9_minute_1 : decode cX9_minute 1 = .ok (.iconst 1, 1) := by decide +kernel
theorem dX9_minute_2 : decode cX9_minute 2 = .ok (.if_icmp .lt 9, 3) := by decide +kernel
theorem dX9_minute_5 : decode cX9_minute 5 = .ok (.iload_n 1, 1) := by decide +kernel
theorem dX9_minute_6 : decode cX9_minute 6 = .ok (.bipush 60, 2) := by decide +kernel
theorem dX9_minute_8 : decode cX9_minute 8 = .ok (.if_icmp .le 6, 3) := by decide +kernel
theorem dX9_minute_11 : decode cX9_minute 11 = .ok (.ldc 80, 2) := by decide +kernel
theorem dX9_minute_13 : decode cX9_minute 13 = .ok (.ireturn, 1) := by decide +kernel
theorem dX9_minute_14 : decode cX9_minute 14 = .ok (.aload_n 0, 1) := by decide +kernel
theorem dX9_minute_15 : decode cX9_minute 15 = .ok (.getfield 65, 3) := by decide +kernel
theorem dX9_minute_18 : decode cX9_minute 18 = .ok (.invokevirtual 247, 3) := by decide +kernel
theorem dX9_minute_21 : decode cX9_minute 21 = .ok (.ifCond .ne 6, 3) := by decide +kernel
theorem dX9_minute_24 : decode cX9_minute 24 = .ok (.ldc 221, 2) := by decide +kernel
theorem dX9_minute_26 : decode cX9_minute 26 = .ok (.ireturn, 1) := by decide +kernel
theorem dX9_minute_27 : decode cX9_minute 27 = .ok (.aload_n 0, 1) := by decide +kernel
theorem dX9_minute_28 : decode cX9_minute 28 = .ok (.getfield 19, 3) := by decide +kernel
theorem dX9_minute_31 : decode cX9_minute 31 = .ok (.getfield 149, 3) := by decide +kernel
theorem dX9_minute_34 : decode cX9_minute 34 = .ok (.ldc 251, 2) := by decide +kernel
theorem dX9_minute_36 : decode cX9_minute 36 = .ok (.if_icmp .le 6, 3) := by decide +kernel
theorem dX9_minute_39 : decode cX9_minute 39 = .ok (.ldc 88, 2) := by decide +kernel
theorem dX9_minute_41 : decode cX9_minute 41 = .ok (.ireturn, 1) := by decide +kernel
theorem dX9_minute_42 : decode cX9_minute 42 = .ok (.aload_n 0, 1) := by decide +kernel
theorem dX9_minute_43 : decode cX9_minute 43 = .ok (.getfield 26, 3) := by decide +kernel
theorem dX9_minute_46 : decode cX9_minute 46 = .ok (.aload_n 0, 1) := by decide +kernel
theorem dX9_minute_47 : decode cX9_minute 47 = .ok (.getfield 19, 3) := by decide +kernel
theorem dX9_minute_50 : decode cX9_minute 50 = .ok (.invokevirtual 222, 3) := by decide +kernel
theorem dX9_minute_53 : decode cX9_minute 53 = .ok (.aload_n 0, 1) := by decide +kernel
theorem dX9_minute_54 : decode cX9_minute 54 = .ok (.getfield 19, 3) := by decide +kernel
theorem dX9_minute_57 : decode cX9_minute 57 = .ok (.aload_n 0, 1) := by decide +kernel
theorem dX9_minute_58 : decode cX9_minute 58 = .ok (.getfield 65, 3) := by decide +kernel
theorem dX9_minute_61 : decode cX9_minute 61 = .ok (.iload_n 1, 1) := by decide +kernel
theorem dX9_minute_62 : decode cX9_minute 62 = .ok (.invokevirtual 238, 3) := by decide +kernel
theorem dX9_minute_65 : decode cX9_minute 65 = .ok (.aload_n 0, 1) := by decide +kernel
theorem dX9_minute_66 : decode cX9_minute 66 = .ok (.getfield 19, 3) := by decide +kernel
theorem dX9_minute_69 : decode cX9_minute 69 = .ok (.getfield 149, 3) := by decide +kernel
theorem dX9_minute_72 : decode cX9_minute 72 = .ok (.ireturn, 1) := by decide +kernel
theorem dX9_anew_0 : decode cX9_anew 0 = .ok (.aload_n 0, 1) := by decide +kernel
theorem dX9_anew_1 : decode cX9_anew 1 = .ok (.getfield 65, 3) := by decide +kernel
theorem dX9_anew_4 : decode cX9_anew 4 = .ok (.invokevirtual 247, 3) := by decide +kernel
theorem dX9_anew_7 : decode cX9_anew 7 = .ok (.ifCond .ne 6, 3) := by decide +kernel
theorem dX9_anew_10 : decode cX9_anew 10 = .ok (.ldc 221, 2) := by decide +kernel
theorem dX9_anew_12 : decode cX9_anew 12 = .ok (.ireturn, 1) := by decide +kernel
theorem dX9_anew_13 : decode cX9_anew 13 = .ok (.aload_n 0, 1) := by decide +kernel
theorem dX9_anew_14 : decode cX9_anew 14 = .ok (.getfield 19, 3) := by decide +kernel
theorem dX9_anew_17 : decode cX9_anew 17 = .ok (.getfield 152, 3) := by decide +kernel
theorem dX9_anew_20 : decode cX9_anew 20 = .ok (.sipush 9000, 3) := by decide +kernel
theorem dX9_anew_23 : decode cX9_anew 23 = .ok (.if_icmp .lt 6, 3) := by decide +kernel
theorem dX9_anew_26 : decode cX9_anew 26 = .ok (.ldc 88, 2) := by decide +kernel
theorem dX9_anew_28 : decode cX9_anew 28 = .ok (.ireturn, 1) := by decide +kernel
theorem dX9_anew_29 : decode cX9_anew 29 = .ok (.aload_n 0, 1) := by decide +kernel
theorem dX9_anew_30 : decode cX9_anew 30 = .ok (.getfield 26, 3) := by decide +kernel
theorem dX9_anew_33 : decode cX9_anew 33 = .ok (.aload_n 0, 1) := by decide +kernel
theorem dX9_anew_34 : decode cX9_anew 34 = .ok (.getfield 19, 3) := by decide +kernel
theorem dX9_anew_37 : decode cX9_anew 37 = .ok (.invokevirtual 222, 3) := by decide +kernel
theorem dX9_anew_40 : decode cX9_anew 40 = .ok (.aload_n 0, 1) := by decide +kernel
theorem dX9_anew_41 : decode cX9_anew 41 = .ok (.getfield 19, 3) := by decide +kernel
theorem dX9_anew_44 : decode cX9_anew 44 = .ok (.dup, 1) := by decide +kernel
theorem dX9_anew_45 : decode cX9_anew 45 = .ok (.getfield 152, 3) := by decide +kernel
theorem dX9_anew_48 : decode cX9_anew 48 = .ok (.iconst 1, 1) := by decide +kernel
theorem dX9_anew_49 : decode cX9_anew 49 = .ok (.iadd, 1) := by decide +kernel
theorem dX9_anew_50 : decode cX9_anew 50 = .ok (.putfield 152, 3) := by decide +kernel
theorem dX9_anew_53 : decode cX9_anew 53 = .ok (.aload_n 0, 1) := by decide +kernel
theorem dX9_anew_54 : decode cX9_anew 54 = .ok (.getfield 19, 3) := by decide +kernel
theorem dX9_anew_57 : decode cX9_anew 57 = .ok (.aload_n 0, 1) := by decide +kernel
theorem dX9_anew_58 : decode cX9_anew 58 = .ok (.getfield 65, 3) := by decide +kernel
theorem dX9_anew_61 : decode cX9_anew 61 = .ok (.invokevirtual 252, 3) := by decide +kernel
theorem dX9_anew_64 : decode cX9_anew 64 = .ok (.aload_n 0, 1) := by decide +kernel
theorem dX9_anew_65 : decode cX9_anew 65 = .ok (.getfield 19, 3) := by decide +kernel
theorem dX9_anew_68 : decode cX9_anew 68 = .ok (.getfield 152, 3) := by decide +kernel
theorem dX9_anew_71 : decode cX9_anew 71 = .ok (.ireturn, 1) := by decide +kernel
theorem dX9_drift_0 : decode cX9_drift 0 = .ok (.iload_n 1, 1) := by decide +kernel
theorem dX9_drift_1 : decode cX9_drift 1 = .ok (.iconst 1, 1) := by decide +kernel
theorem dX9_drift_2 : decode cX9_drift 2 = .ok (.if_icmp .lt 9, 3) := by decide +kernel
theorem dX9_drift_5 : decode cX9_drift 5 = .ok (.iload_n 1, 1) := by decide +kernel
theorem dX9_drift_6 : decode cX9_drift 6 = .ok (.bipush 30, 2) := by decide +kernel
theorem dX9_drift_8 : decode cX9_drift 8 = .ok (.if_icmp .le 6, 3) := by decide +kernel
theorem dX9_drift_11 : decode cX9_drift 11 = .ok (.ldc 80, 2) := by decide +kernel
theorem dX9_drift_13 : decode cX9_drift 13 = .ok (.ireturn, 1) := by decide +kernel
theorem dX9_drift_14 : decode cX9_drift 14 = .ok (.aload_n 0, 1) := by decide +kernel
theorem dX9_drift_15 : decode cX9_drift 15 = .ok (.getfield 65, 3) := by decide +kernel
theorem dX9_drift_18 : decode cX9_drift 18 = .ok (.invokevirtual 247, 3) := by decide +kernel
theorem dX9_drift_21 : decode cX9_drift 21 = .ok (.ifCond .ne 6, 3) := by decide +kernel
theorem dX9_drift_24 : decode cX9_drift 24 = .ok (.ldc 221, 2) := by decide +kernel
theorem dX9_drift_26 : decode cX9_drift 26 = .ok (.ireturn, 1) := by decide +kernel
theorem dX9_drift_27 : decode cX9_drift 27 = .ok (.aload_n 0, 1) := by decide +kernel
theorem dX9_drift_28 : decode cX9_drift 28 = .ok (.getfield 19, 3) := by decide +kernel
theorem dX9_drift_31 : decode cX9_drift 31 = .ok (.getfield 149, 3) := by decide +kernel
theorem dX9_drift_34 : decode cX9_drift 34 = .ok (.ldc 251, 2) := by decide +kernel
theorem dX9_drift_36 : decode cX9_drift 36 = .ok (.if_icmp .le 6, 3) := by decide +kernel
theorem dX9_drift_39 : decode cX9_drift 39 = .ok (.ldc 88, 2) := by decide +kernel
theorem dX9_drift_41 : decode cX9_drift 41 = .ok (.ireturn, 1) := by decide +kernel
theorem dX9_drift_42 : decode cX9_drift 42 = .ok (.iconst 0, 1) := by decide +kernel
theorem dX9_drift_43 : decode cX9_drift 43 = .ok (.istore_n 2, 1) := by decide +kernel
theorem dX9_drift_44 : decode cX9_drift 44 = .ok (.iload_n 2, 1) := by decide +kernel
theorem dX9_drift_45 : decode cX9_drift 45 = .ok (.iload_n 1, 1) := by decide +kernel
theorem dX9_drift_46 : decode cX9_drift 46 = .ok (.if_icmp .ge 24, 3) := by decide +kernel
theorem dX9_drift_49 : decode cX9_drift 49 = .ok (.aload_n 0, 1) := by decide +kernel
theorem dX9_drift_50 : decode cX9_drift 50 = .ok (.getfield 26, 3) := by decide +kernel
theorem dX9_drift_53 : decode cX9_drift 53 = .ok (.aload_n 0, 1) := by decide +kernel
theorem dX9_drift_54 : decode cX9_drift 54 = .ok (.getfield 19, 3) := by decide +kernel
theorem dX9_drift_57 : decode cX9_drift 57 = .ok (.invokevirtual 222, 3) := by decide +kernel
theorem dX9_drift_60 : decode cX9_drift 60 = .ok (.aload_n 0, 1) := by decide +kernel
theorem dX9_drift_61 : decode cX9_drift 61 = .ok (.invokevirtual 255, 3) := by decide +kernel
theorem dX9_drift_64 : decode cX9_drift 64 = .ok (.iinc 2 1, 3) := by decide +kernel
theorem dX9_drift_67 : decode cX9_drift 67 = .ok (.goto (-23), 3) := by decide +kernel
theorem dX9_drift_70 : decode cX9_drift 70 = .ok (.aload_n 0, 1) := by decide +kernel
theorem dX9_drift_71 : decode cX9_drift 71 = .ok (.getfield 19, 3) := by decide +kernel
theorem dX9_drift_74 : decode cX9_drift 74 = .ok (.getfield 149, 3) := by decide +kernel
theorem dX9_drift_77 : decode cX9_drift 77 = .ok (.ireturn, 1) := by decide +kernel
theorem dX9_driftOnce_0 : decode cX9_driftOnce 0 = .ok (.aload_n 0, 1) := by decide +kernel
theorem dX9_driftOnce_1 : decode cX9_driftOnce 1 = .ok (.getfield 19, 3) := by decide +kernel
theorem dX9_driftOnce_4 : decode cX9_driftOnce 4 = .ok (.getfield 158, 3) := by decide +kernel
theorem dX9_driftOnce_7 : decode cX9_driftOnce 7 = .ok (.iconst (-1), 1) := by decide +kernel
theorem dX9_driftOnce_8 : decode cX9_driftOnce 8 = .ok (.if_icmp .ne 10, 3) := by decide +kernel
theorem dX9_driftOnce_11 : decode cX9_driftOnce 11 = .ok (.aload_n 0, 1) := by decide +kernel
theorem dX9_driftOnce_12 : decode cX9_driftOnce 12 = .ok (.invokevirtual 258, 3) := by decide +kernel
theorem dX9_driftOnce_15 : decode cX9_driftOnce 15 = .ok (.goto 7, 3) := by decide +kernel
theorem dX9_driftOnce_18 : decode cX9_driftOnce 18 = .ok (.aload_n 0, 1) := by decide +kernel
theorem dX9_driftOnce_19 : decode cX9_driftOnce 19 = .ok (.invokevirtual 261, 3) := by decide +kernel
theorem dX9_driftOnce_22 : decode cX9_driftOnce 22 = .ok (.aload_n 0, 1) := by decide +kernel
theorem dX9_driftOnce_23 : decode cX9_driftOnce 23 = .ok (.getfield 19, 3) := by decide +kernel
theorem dX9_driftOnce_26 : decode cX9_driftOnce 26 = .ok (.aload_n 0, 1) := by decide +kernel
theorem dX9_driftOnce_27 : decode cX9_driftOnce 27 = .ok (.getfield 65, 3) := by decide +kernel
theorem dX9_driftOnce_30 : decode cX9_driftOnce 30 = .ok (.iconst 1, 1) := by decide +kernel
theorem dX9_driftOnce_31 : decode cX9_driftOnce 31 = .ok (.invokevirtual 238, 3) := by decide +kernel
theorem dX9_driftOnce_34 : decode cX9_driftOnce 34 = .ok (.return_, 1) := by decide +kernel
theorem dX9_drawSeat_0 : decode cX9_drawSeat 0 = .ok (.aload_n 0, 1) := by decide +kernel
theorem dX9_drawSeat_1 : decode cX9_drawSeat 1 = .ok (.getfield 65, 3) := by decide +kernel
theorem dX9_drawSeat_4 : decode cX9_drawSeat 4 = .ok (.getfield 103, 3) := by decide +kernel
theorem dX9_drawSeat_7 : decode cX9_drawSeat 7 = .ok (.ifCond .ne 4, 3) := by decide +kernel
theorem dX9_drawSeat_10 : decode cX9_drawSeat 10 = .ok (.return_, 1) := by decide +kernel
theorem dX9_drawSeat_11 : decode cX9_drawSeat 11 = .ok (.aload_n 0, 1) := by decide +kernel
theorem dX9_drawSeat_12 : decode cX9_drawSeat 12 = .ok (.aload_n 0, 1) := by decide +kernel
theorem dX9_drawSeat_13 : decode cX9_drawSeat 13 = .ok (.getfield 65, 3) := by decide +kernel
theorem dX9_drawSeat_16 : decode cX9_drawSeat 16 = .ok (.getfield 103, 3) := by decide +kernel
theorem dX9_drawSeat_19 : decode cX9_drawSeat 19 = .ok (.invokevirtual 264, 3) := by decide +kernel
theorem dX9_drawSeat_22 : decode cX9_drawSeat 22 = .ok (.istore_n 1, 1) := by decide +kernel
theorem dX9_drawSeat_23 : decode cX9_drawSeat 23 = .ok (.aload_n 0, 1) := by decide +kernel
theorem dX9_drawSeat_24 : decode cX9_drawSeat 24 = .ok (.getfield 19, 3) := by decide +kernel
theorem dX9_drawSeat_27 : decode cX9_drawSeat 27 = .ok (.getfield 167, 3) := by decide +kernel
theorem dX9_drawSeat_30 : decode cX9_drawSeat 30 = .ok (.iload_n 1, 1) := by decide +kernel
theorem dX9_drawSeat_31 : decode cX9_drawSeat 31 = .ok (.invokestatic 217, 3) := by decide +kernel
theorem dX9_drawSeat_34 : decode cX9_drawSeat 34 = .ok (.ifCond .eq 11, 3) := by decide +kernel
theorem dX9_drawSeat_37 : decode cX9_drawSeat 37 = .ok (.aload_n 0, 1) := by decide +kernel
theorem dX9_drawSeat_38 : decode cX9_drawSeat 38 = .ok (.getfield 19, 3) := by decide +kernel
theorem dX9_drawSeat_41 : decode cX9_drawSeat 41 = .ok (.iload_n 1, 1) := by decide +kernel
theorem dX9_drawSeat_42 : decode cX9_drawSeat 42 = .ok (.invokevirtual 226, 3) := by decide +kernel
theorem dX9_drawSeat_45 : decode cX9_drawSeat 45 = .ok (.return_, 1) := by decide +kernel
theorem dX9_drawTelling_0 : decode cX9_drawTelling 0 = .ok (.aload_n 0, 1) := by decide +kernel
theorem dX9_drawTelling_1 : decode cX9_drawTelling 1 = .ok (.iconst 4, 1) := by decide +kernel
theorem dX9_drawTelling_2 : decode cX9_drawTelling 2 = .ok (.invokevirtual 264, 3) := by decide +kernel
theorem dX9_drawTelling_5 : decode cX9_drawTelling 5 = .ok (.ifCond .ne 16, 3) := by decide +kernel
theorem dX9_drawTelling_8 : decode cX9_drawTelling 8 = .ok (.aload_n 0, 1) := by decide +kernel
theorem dX9_drawTelling_9 : decode cX9_drawTelling 9 = .ok (.getfield 19, 3) := by decide +kernel
theorem dX9_drawTelling_12 : decode cX9_drawTelling 12 = .ok (.aload_n 0, 1) := by decide +kernel
theorem dX9_drawTelling_13 : decode cX9_drawTelling 13 = .ok (.getfield 65, 3) := by decide +kernel
theorem dX9_drawTelling_16 : decode cX9_drawTelling 16 = .ok (.invokevirtual 235, 3) := by decide +kernel
theorem dX9_drawTelling_19 : decode cX9_drawTelling 19 = .ok (.pop, 1) := by decide +kernel
theorem dX9_drawTelling_20 : decode cX9_drawTelling 20 = .ok (.return_, 1) := by decide +kernel
theorem dX9_drawTelling_21 : decode cX9_drawTelling 21 = .ok (.aload_n 0, 1) := by decide +kernel
theorem dX9_drawTelling_22 : decode cX9_drawTelling 22 = .ok (.getfield 65, 3) := by decide +kernel
theorem dX9_drawTelling_25 : decode cX9_drawTelling 25 = .ok (.getfield 123, 3) := by decide +kernel
theorem dX9_drawTelling_28 : decode cX9_drawTelling 28 = .ok (.ifCond .ne 4, 3) := by decide +kernel
theorem dX9_drawTelling_31 : decode cX9_drawTelling 31 = .ok (.return_, 1) := by decide +kernel
theorem dX9_drawTelling_32 : decode cX9_drawTelling 32 = .ok (.aload_n 0, 1) := by decide +kernel
theorem dX9_drawTelling_33 : decode cX9_drawTelling 33 = .ok (.aload_n 0, 1) := by decide +kernel
theorem dX9_drawTelling_34 : decode cX9_drawTelling 34 = .ok (.getfield 65, 3) := by decide +kernel
theorem dX9_drawTelling_37 : decode cX9_drawTelling 37 = .ok (.getfield 123, 3) := by decide +kernel
theorem dX9_drawTelling_40 : decode cX9_drawTelling 40 = .ok (.invokevirtual 264, 3) := by decide +kernel
theorem dX9_drawTelling_43 : decode cX9_drawTelling 43 = .ok (.istore_n 1, 1) := by decide +kernel
theorem dX9_drawTelling_44 : decode cX9_drawTelling 44 = .ok (.aload_n 0, 1) := by decide +kernel
theorem dX9_drawTelling_45 : decode cX9_drawTelling 45 = .ok (.getfield 19, 3) := by decide +kernel
theorem dX9_drawTelling_48 : decode cX9_drawTelling 48 = .ok (.iload_n 1, 1) := by decide +kernel
theorem dX9_drawTelling_49 : decode cX9_drawTelling 49 = .ok (.invokevirtual 229, 3) := by decide +kernel
theorem dX9_drawTelling_52 : decode cX9_drawTelling 52 = .ok (.ifCond .eq 16, 3) := by decide +kernel
theorem dX9_drawTelling_55 : decode cX9_drawTelling 55 = .ok (.aload_n 0, 1) := by decide +kernel
theorem dX9_drawTelling_56 : decode cX9_drawTelling 56 = .ok (.getfield 19, 3) := by decide +kernel
theorem dX9_drawTelling_59 : decode cX9_drawTelling 59 = .ok (.aload_n 0, 1) := by decide +kernel
theorem dX9_drawTelling_60 : decode cX9_drawTelling 60 = .ok (.getfield 65, 3) := by decide +kernel
theorem dX9_drawTelling_63 : decode cX9_drawTelling 63 = .ok (.iload_n 1, 1) := by decide +kernel
theorem dX9_drawTelling_64 : decode cX9_drawTelling 64 = .ok (.invokevirtual 232, 3) := by decide +kernel
theorem dX9_drawTelling_67 : decode cX9_drawTelling 67 = .ok (.pop, 1) := by decide +kernel
theorem dX9_drawTelling_68 : decode cX9_drawTelling 68 = .ok (.return_, 1) := by decide +kernel
theorem dX9_drawOf_0 : decode cX9_drawOf 0 = .ok (.aload_n 0, 1) := by decide +kernel
theorem dX9_drawOf_1 : decode cX9_drawOf 1 = .ok (.aload_n 0, 1) := by decide +kernel
theorem dX9_drawOf_2 : decode cX9_drawOf 2 = .ok (.getfield 72, 3) := by decide +kernel
theorem dX9_drawOf_5 : decode cX9_drawOf 5 = .ok (.i2l, 1) := by decide +kernel
theorem dX9_drawOf_6 : decode cX9_drawOf 6 = .ok (.ldc2_w 267, 3) := by decide +kernel
theorem dX9_drawOf_9 : decode cX9_drawOf 9 = .ok (.lmul, 1) := by decide +kernel
theorem dX9_drawOf_10 : decode cX9_drawOf 10 = .ok (.ldc2_w 269, 3) := by decide +kernel
theorem dX9_drawOf_13 : decode cX9_drawOf 13 = .ok (.ladd, 1) := by decide +kernel
theorem dX9_drawOf_14 : decode cX9_drawOf 14 = .ok (.ldc2_w 271, 3) := by decide +kernel
theorem dX9_drawOf_17 : decode cX9_drawOf 17 = .ok (.lrem, 1) := by decide +kernel
theorem dX9_drawOf_18 : decode cX9_drawOf 18 = .ok (.l2i, 1) := by decide +kernel
theorem dX9_drawOf_19 : decode cX9_drawOf 19 = .ok (.putfield 72, 3) := by decide +kernel
theorem dX9_drawOf_22 : decode cX9_drawOf 22 = .ok (.iload_n 1, 1) := by decide +kernel
theorem dX9_drawOf_23 : decode cX9_drawOf 23 = .ok (.iconst 1, 1) := by decide +kernel
theorem dX9_drawOf_24 : decode cX9_drawOf 24 = .ok (.if_icmp .ge 7, 3) := by decide +kernel
theorem dX9_drawOf_27 : decode cX9_drawOf 27 = .ok (.iconst 0, 1) := by decide +kernel
theorem dX9_drawOf_28 : decode cX9_drawOf 28 = .ok (.goto 13, 3) := by decide +kernel
theorem dX9_drawOf_31 : decode cX9_drawOf 31 = .ok (.aload_n 0, 1) := by decide +kernel
theorem dX9_drawOf_32 : decode cX9_drawOf 32 = .ok (.getfield 72, 3) := by decide +kernel
theorem dX9_drawOf_35 : decode cX9_drawOf 35 = .ok (.ldc_w 273, 3) := by decide +kernel
theorem dX9_drawOf_38 : decode cX9_drawOf 38 = .ok (.idiv, 1) := by decide +kernel
theorem dX9_drawOf_39 : decode cX9_drawOf 39 = .ok (.iload_n 1, 1) := by decide +kernel
theorem dX9_drawOf_40 : decode cX9_drawOf 40 = .ok (.irem, 1) := by decide +kernel
theorem dX9_drawOf_41 : decode cX9_drawOf 41 = .ok (.ireturn, 1) := by decide +kernel
theorem dX9_undo_0 : decode cX9_undo 0 = .ok (.iload_n 1, 1) := by decide +kernel
theorem dX9_undo_1 : decode cX9_undo 1 = .ok (.iconst 1, 1) := by decide +kernel
theorem dX9_undo_2 : decode cX9_undo 2 = .ok (.if_icmp .lt 9, 3) := by decide +kernel
theorem dX9_undo_5 : decode cX9_undo 5 = .ok (.iload_n 1, 1) := by decide +kernel
theorem dX9_undo_6 : decode cX9_undo 6 = .ok (.bipush 30, 2) := by decide +kernel
theorem dX9_undo_8 : decode cX9_undo 8 = .ok (.if_icmp .le 6, 3) := by decide +kernel
theorem dX9_undo_11 : decode cX9_undo 11 = .ok (.ldc 80, 2) := by decide +kernel
theorem dX9_undo_13 : decode cX9_undo 13 = .ok (.ireturn, 1) := by decide +kernel
theorem dX9_undo_14 : decode cX9_undo 14 = .ok (.iload_n 1, 1) := by decide +kernel
theorem dX9_undo_15 : decode cX9_undo 15 = .ok (.aload_n 0, 1) := by decide +kernel
theorem dX9_undo_16 : decode cX9_undo 16 = .ok (.getfield 26, 3) := by decide +kernel
theorem dX9_undo_19 : decode cX9_undo 19 = .ok (.getfield 144, 3) := by decide +kernel
theorem dX9_undo_22 : decode cX9_undo 22 = .ok (.if_icmp .le 6, 3) := by decide +kernel
theorem dX9_undo_25 : decode cX9_undo 25 = .ok (.ldc 221, 2) := by decide +kernel
theorem dX9_undo_27 : decode cX9_undo 27 = .ok (.ireturn, 1) := by decide +kernel
theorem dX9_undo_28 : decode cX9_undo 28 = .ok (.aload_n 0, 1) := by decide +kernel
theorem dX9_undo_29 : decode cX9_undo 29 = .ok (.getfield 26, 3) := by decide +kernel
theorem dX9_undo_32 : decode cX9_undo 32 = .ok (.iload_n 1, 1) := by decide +kernel
theorem dX9_undo_33 : decode cX9_undo 33 = .ok (.aload_n 0, 1) := by decide +kernel
theorem dX9_undo_34 : decode cX9_undo 34 = .ok (.getfield 19, 3) := by decide +kernel
theorem dX9_undo_37 : decode cX9_undo 37 = .ok (.invokevirtual 274, 3) := by decide +kernel
theorem dX9_undo_40 : decode cX9_undo 40 = .ok (.aload_n 0, 1) := by decide +kernel
theorem dX9_undo_41 : decode cX9_undo 41 = .ok (.getfield 19, 3) := by decide +kernel
theorem dX9_undo_44 : decode cX9_undo 44 = .ok (.getfield 149, 3) := by decide +kernel
theorem dX9_undo_47 : decode cX9_undo 47 = .ok (.ireturn, 1) := by decide +kernel
theorem dX9_stay_0 : decode cX9_stay 0 = .ok (.aload_n 0, 1) := by decide +kernel
theorem dX9_stay_1 : decode cX9_stay 1 = .ok (.getfield 65, 3) := by decide +kernel
theorem dX9_stay_4 : decode cX9_stay 4 = .ok (.iload_n 1, 1) := by decide +kernel
theorem dX9_stay_5 : decode cX9_stay 5 = .ok (.invokevirtual 193, 3) := by decide +kernel
theorem dX9_stay_8 : decode cX9_stay 8 = .ok (.ifCond .eq 14, 3) := by decide +kernel
theorem dX9_stay_11 : decode cX9_stay 11 = .ok (.aload_n 0, 1) := by decide +kernel
theorem dX9_stay_12 : decode cX9_stay 12 = .ok (.getfield 65, 3) := by decide +kernel
theorem dX9_stay_15 : decode cX9_stay 15 = .ok (.iload_n 2, 1) := by decide +kernel
theorem dX9_stay_16 : decode cX9_stay 16 = .ok (.invokevirtual 176, 3) := by decide +kernel
theorem dX9_stay_19 : decode cX9_stay 19 = .ok (.ifCond .ne 6, 3) := by decide +kernel
theorem dX9_stay_22 : decode cX9_stay 22 = .ok (.ldc 179, 2) := by decide +kernel
theorem dX9_stay_24 : decode cX9_stay 24 = .ok (.ireturn, 1) := by decide +kernel
theorem dX9_stay_25 : decode cX9_stay 25 = .ok (.aload_n 0, 1) := by decide +kernel
theorem dX9_stay_26 : decode cX9_stay 26 = .ok (.getfield 65, 3) := by decide +kernel
theorem dX9_stay_29 : decode cX9_stay 29 = .ok (.iload_n 1, 1) := by decide +kernel
theorem dX9_stay_30 : decode cX9_stay 30 = .ok (.iload_n 2, 1) := by decide +kernel
theorem dX9_stay_31 : decode cX9_stay 31 = .ok (.invokevirtual 278, 3) := by decide +kernel
theorem dX9_stay_34 : decode cX9_stay 34 = .ok (.ireturn, 1) := by decide +kernel
theorem dX9_talk_0 : decode cX9_talk 0 = .ok (.aload_n 0, 1) := by decide +kernel
theorem dX9_talk_1 : decode cX9_talk 1 = .ok (.getfield 65, 3) := by decide +kernel
theorem dX9_talk_4 : decode cX9_talk 4 = .ok (.iload_n 1, 1) := by decide +kernel
theorem dX9_talk_5 : decode cX9_talk 5 = .ok (.invokevirtual 193, 3) := by decide +kernel
theorem dX9_talk_8 : decode cX9_talk 8 = .ok (.ifCond .ne 6, 3) := by decide +kernel
theorem dX9_talk_11 : decode cX9_talk 11 = .ok (.ldc 179, 2) := by decide +kernel
theorem dX9_talk_13 : decode cX9_talk 13 = .ok (.ireturn, 1) := by decide +kernel
theorem dX9_talk_14 : decode cX9_talk 14 = .ok (.iload_n 2, 1) := by decide +kernel
theorem dX9_talk_15 : decode cX9_talk 15 = .ok (.ifCond .lt 8, 3) := by decide +kernel
theorem dX9_talk_18 : decode cX9_talk 18 = .ok (.iload_n 2, 1) := by decide +kernel
theorem dX9_talk_19 : decode cX9_talk 19 = .ok (.iconst 3, 1) := by decide +kernel
theorem dX9_talk_20 : decode cX9_talk 20 = .ok (.if_icmp .le 6, 3) := by decide +kernel
theorem dX9_talk_23 : decode cX9_talk 23 = .ok (.ldc 80, 2) := by decide +kernel
theorem dX9_talk_25 : decode cX9_talk 25 = .ok (.ireturn, 1) := by decide +kernel
theorem dX9_talk_26 : decode cX9_talk 26 = .ok (.aload_n 0, 1) := by decide +kernel
theorem dX9_talk_27 : decode cX9_talk 27 = .ok (.getfield 39, 3) := by decide +kernel
theorem dX9_talk_30 : decode cX9_talk 30 = .ok (.aload_n 0, 1) := by decide +kernel
theorem dX9_talk_31 : decode cX9_talk 31 = .ok (.getfield 65, 3) := by decide +kernel
theorem dX9_talk_34 : decode cX9_talk 34 = .ok (.iload_n 1, 1) := by decide +kernel
theorem dX9_talk_35 : decode cX9_talk 35 = .ok (.aload_n 0, 1) := by decide +kernel
theorem dX9_talk_36 : decode cX9_talk 36 = .ok (.getfield 19, 3) := by decide +kernel
theorem dX9_talk_39 : decode cX9_talk 39 = .ok (.getfield 134, 3) := by decide +kernel
theorem dX9_talk_42 : decode cX9_talk 42 = .ok (.invokevirtual 282, 3) := by decide +kernel
theorem dX9_talk_45 : decode cX9_talk 45 = .ok (.iload_n 2, 1) := by decide +kernel
theorem dX9_talk_46 : decode cX9_talk 46 = .ok (.tableswitch 50 0 2 #[26, 34, 42], 26) := by decide +kernel
theorem dX9_talk_72 : decode cX9_talk 72 = .ok (.aload_n 0, 1) := by decide +kernel
theorem dX9_talk_73 : decode cX9_talk 73 = .ok (.getfield 39, 3) := by decide +kernel
theorem dX9_talk_76 : decode cX9_talk 76 = .ok (.getfield 286, 3) := by decide +kernel
theorem dX9_talk_79 : decode cX9_talk 79 = .ok (.ireturn, 1) := by decide +kernel
theorem dX9_talk_80 : decode cX9_talk 80 = .ok (.aload_n 0, 1) := by decide +kernel
theorem dX9_talk_81 : decode cX9_talk 81 = .ok (.getfield 39, 3) := by decide +kernel
theorem dX9_talk_84 : decode cX9_talk 84 = .ok (.getfield 289, 3) := by decide +kernel
theorem dX9_talk_87 : decode cX9_talk 87 = .ok (.ireturn, 1) := by decide +kernel
theorem dX9_talk_88 : decode cX9_talk 88 = .ok (.aload_n 0, 1) := by decide +kernel
theorem dX9_talk_89 : decode cX9_talk 89 = .ok (.getfield 39, 3) := by decide +kernel
theorem dX9_talk_92 : decode cX9_talk 92 = .ok (.getfield 292, 3) := by decide +kernel
theorem dX9_talk_95 : decode cX9_talk 95 = .ok (.ireturn, 1) := by decide +kernel
theorem dX9_talk_96 : decode cX9_talk 96 = .ok (.aload_n 0, 1) := by decide +kernel
theorem dX9_talk_97 : decode cX9_talk 97 = .ok (.getfield 65, 3) := by decide +kernel
theorem dX9_talk_100 : decode cX9_talk 100 = .ok (.aload_n 0, 1) := by decide +kernel
theorem dX9_talk_101 : decode cX9_talk 101 = .ok (.getfield 39, 3) := by decide +kernel
theorem dX9_talk_104 : decode cX9_talk 104 = .ok (.getfield 286, 3) := by decide +kernel
theorem dX9_talk_107 : decode cX9_talk 107 = .ok (.invokevirtual 293, 3) := by decide +kernel
theorem dX9_talk_110 : decode cX9_talk 110 = .ok (.ireturn, 1) := by decide +kernel
theorem dX9_queue_0 : decode cX9_queue 0 = .ok (.iload_n 1, 1) := by decide +kernel
theorem dX9_queue_1 : decode cX9_queue 1 = .ok (.ifCond .lt 8, 3) := by decide +kernel
theorem dX9_queue_4 : decode cX9_queue 4 = .ok (.iload_n 1, 1) := by decide +kernel
theorem dX9_queue_5 : decode cX9_queue 5 = .ok (.iconst 1, 1) := by decide +kernel
theorem dX9_queue_6 : decode cX9_queue 6 = .ok (.if_icmp .le 6, 3) := by decide +kernel
theorem dX9_queue_9 : decode cX9_queue 9 = .ok (.ldc 80, 2) := by decide +kernel
theorem dX9_queue_11 : decode cX9_queue 11 = .ok (.ireturn, 1) := by decide +kernel
theorem dX9_queue_12 : decode cX9_queue 12 = .ok (.aload_n 0, 1) := by decide +kernel
theorem dX9_queue_13 : decode cX9_queue 13 = .ok (.getfield 19, 3) := by decide +kernel
theorem dX9_queue_16 : decode cX9_queue 16 = .ok (.getfield 158, 3) := by decide +kernel
theorem dX9_queue_19 : decode cX9_queue 19 = .ok (.iconst (-1), 1) := by decide +kernel
theorem dX9_queue_20 : decode cX9_queue 20 = .ok (.if_icmp .eq 6, 3) := by decide +kernel
theorem dX9_queue_23 : decode cX9_queue 23 = .ok (.ldc 221, 2) := by decide +kernel
theorem dX9_queue_25 : decode cX9_queue 25 = .ok (.ireturn, 1) := by decide +kernel
theorem dX9_queue_26 : decode cX9_queue 26 = .ok (.aload_n 0, 1) := by decide +kernel
theorem dX9_queue_27 : decode cX9_queue 27 = .ok (.getfield 46, 3) := by decide +kernel
theorem dX9_queue_30 : decode cX9_queue 30 = .ok (.aload_n 0, 1) := by decide +kernel
theorem dX9_queue_31 : decode cX9_queue 31 = .ok (.getfield 65, 3) := by decide +kernel
theorem dX9_queue_34 : decode cX9_queue 34 = .ok (.aload_n 0, 1) := by decide +kernel
theorem dX9_queue_35 : decode cX9_queue 35 = .ok (.getfield 19, 3) := by decide +kernel
theorem dX9_queue_38 : decode cX9_queue 38 = .ok (.aload_n 0, 1) := by decide +kernel
theorem dX9_queue_39 : decode cX9_queue 39 = .ok (.getfield 39, 3) := by decide +kernel
theorem dX9_queue_42 : decode cX9_queue 42 = .ok (.invokevirtual 296, 3) := by decide +kernel
theorem dX9_queue_45 : decode cX9_queue 45 = .ok (.aload_n 0, 1) := by decide +kernel
theorem dX9_queue_46 : decode cX9_queue 46 = .ok (.getfield 46, 3) := by decide +kernel
theorem dX9_queue_49 : decode cX9_queue 49 = .ok (.invokevirtual 300, 3) := by decide +kernel
theorem dX9_queue_52 : decode cX9_queue 52 = .ok (.iload_n 1, 1) := by decide +kernel
theorem dX9_queue_53 : decode cX9_queue 53 = .ok (.ifCond .ne 13, 3) := by decide +kernel
theorem dX9_queue_56 : decode cX9_queue 56 = .ok (.aload_n 0, 1) := by decide +kernel
theorem dX9_queue_57 : decode cX9_queue 57 = .ok (.getfield 46, 3) := by decide +kernel
theorem dX9_queue_60 : decode cX9_queue 60 = .ok (.getfield 303, 3) := by decide +kernel
theorem dX9_queue_63 : decode cX9_queue 63 = .ok (.goto 10, 3) := by decide +kernel
theorem dX9_queue_66 : decode cX9_queue 66 = .ok (.aload_n 0, 1) := by decide +kernel
theorem dX9_queue_67 : decode cX9_queue 67 = .ok (.getfield 46, 3) := by decide +kernel
theorem dX9_queue_70 : decode cX9_queue 70 = .ok (.getfield 306, 3) := by decide +kernel
theorem dX9_queue_73 : decode cX9_queue 73 = .ok (.ireturn, 1) := by decide +kernel
theorem dX9_dry_0 : decode cX9_dry 0 = .ok (.iload_n 1, 1) := by decide +kernel
theorem dX9_dry_1 : decode cX9_dry 1 = .ok (.ifCond .lt 19, 3) := by decide +kernel
theorem dX9_dry_4 : decode cX9_dry 4 = .ok (.iload_n 1, 1) := by decide +kernel
theorem dX9_dry_5 : decode cX9_dry 5 = .ok (.bipush 60, 2) := by decide +kernel
theorem dX9_dry_7 : decode cX9_dry 7 = .ok (.if_icmp .gt 13, 3) := by decide +kernel
theorem dX9_dry_10 : decode cX9_dry 10 = .ok (.iload_n 2, 1) := by decide +kernel
theorem dX9_dry_11 : decode cX9_dry 11 = .ok (.ifCond .lt 9, 3) := by decide +kernel
theorem dX9_dry_14 : decode cX9_dry 14 = .ok (.iload_n 2, 1) := by decide +kernel
theorem dX9_dry_15 : decode cX9_dry 15 = .ok (.bipush 100, 2) := by decide +kernel
theorem dX9_dry_17 : decode cX9_dry 17 = .ok (.if_icmp .le 6, 3) := by decide +kernel
theorem dX9_dry_20 : decode cX9_dry 20 = .ok (.ldc 80, 2) := by decide +kernel
theorem dX9_dry_22 : decode cX9_dry 22 = .ok (.ireturn, 1) := by decide +kernel
theorem dX9_dry_23 : decode cX9_dry 23 = .ok (.ldc2_w 309, 3) := by decide +kernel
theorem dX9_dry_26 : decode cX9_dry 26 = .ok (.lstore_n 3, 1) := by decide +kernel
theorem dX9_dry_27 : decode cX9_dry 27 = .ok (.iconst 0, 1) := by decide +kernel
theorem dX9_dry_28 : decode cX9_dry 28 = .ok (.istore 5, 2) := by decide +kernel
theorem dX9_dry_30 : decode cX9_dry 30 = .ok (.iload 5, 2) := by decide +kernel
theorem dX9_dry_32 : decode cX9_dry 32 = .ok (.iload_n 1, 1) := by decide +kernel
theorem dX9_dry_33 : decode cX9_dry 33 = .ok (.if_icmp .ge 18, 3) := by decide +kernel
