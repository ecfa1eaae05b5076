theorem dX0_giveByRemainders_110 : decode cX0_giveByRemainders 110 = .ok (.iinc 6 1, 3) := by decide +kernel
theorem dX0_giveByRemainders_113 : decode cX0_giveByRemainders 113 = .ok (.goto (-37), 3) := by decide +kernel
theorem dX0_giveByRemainders_116 : decode cX0_giveByRemainders 116 = .ok (.return_, 1) := by decide +kernel
theorem dX0_firstGreatestRemainder_0 : decode cX0_firstGreatestRemainder 0 = .ok (.iconst 0, 1) := by decide +kernel
theorem dX0_firstGreatestRemainder_1 : decode cX0_firstGreatestRemainder 1 = .ok (.istore_n 1, 1) := by decide +kernel
theorem dX0_firstGreatestRemainder_2 : decode cX0_firstGreatestRemainder 2 = .ok (.iconst 1, 1) := by decide +kernel
theorem dX0_firstGreatestRemainder_3 : decode cX0_firstGreatestRemainder 3 = .ok (.istore_n 2, 1) := by decide +kernel
theorem dX0_firstGreatestRemainder_4 : decode cX0_firstGreatestRemainder 4 = .ok (.iload_n 2, 1) := by decide +kernel
theorem dX0_firstGreatestRemainder_5 : decode cX0_firstGreatestRemainder 5 = .ok (.aload_n 0, 1) := by decide +kernel
theorem dX0_firstGreatestRemainder_6 : decode cX0_firstGreatestRemainder 6 = .ok (.getfield 116, 3) := by decide +kernel
theorem dX0_firstGreatestRemainder_9 : decode cX0_firstGreatestRemainder 9 = .ok (.if_icmp .ge 27, 3) := by decide +kernel
theorem dX0_firstGreatestRemainder_12 : decode cX0_firstGreatestRemainder 12 = .ok (.aload_n 0, 1) := by decide +kernel
theorem dX0_firstGreatestRemainder_13 : decode cX0_firstGreatestRemainder 13 = .ok (.getfield 30, 3) := by decide +kernel
theorem dX0_firstGreatestRemainder_16 : decode cX0_firstGreatestRemainder 16 = .ok (.iload_n 2, 1) := by decide +kernel
theorem dX0_firstGreatestRemainder_17 : decode cX0_firstGreatestRemainder 17 = .ok (.laload, 1) := by decide +kernel
theorem dX0_firstGreatestRemainder_18 : decode cX0_firstGreatestRemainder 18 = .ok (.aload_n 0, 1) := by decide +kernel
theorem dX0_firstGreatestRemainder_19 : decode cX0_firstGreatestRemainder 19 = .ok (.getfield 30, 3) := by decide +kernel
theorem dX0_firstGreatestRemainder_22 : decode cX0_firstGreatestRemainder 22 = .ok (.iload_n 1, 1) := by decide +kernel
theorem dX0_firstGreatestRemainder_23 : decode cX0_firstGreatestRemainder 23 = .ok (.laload, 1) := by decide +kernel
theorem dX0_firstGreatestRemainder_24 : decode cX0_firstGreatestRemainder 24 = .ok (.lcmp, 1) := by decide +kernel
theorem dX0_firstGreatestRemainder_25 : decode cX0_firstGreatestRemainder 25 = .ok (.ifCond .le 5, 3) := by decide +kernel
theorem dX0_firstGreatestRemainder_28 : decode cX0_firstGreatestRemainder 28 = .ok (.iload_n 2, 1) := by decide +kernel
theorem dX0_firstGreatestRemainder_29 : decode cX0_firstGreatestRemainder 29 = .ok (.istore_n 1, 1) := by decide +kernel
theorem dX0_firstGreatestRemainder_30 : decode cX0_firstGreatestRemainder 30 = .ok (.iinc 2 1, 3) := by decide +kernel
theorem dX0_firstGreatestRemainder_33 : decode cX0_firstGreatestRemainder 33 = .ok (.goto (-29), 3) := by decide +kernel
theorem dX0_firstGreatestRemainder_36 : decode cX0_firstGreatestRemainder 36 = .ok (.iload_n 1, 1) := by decide +kernel
theorem dX0_firstGreatestRemainder_37 : decode cX0_firstGreatestRemainder 37 = .ok (.ireturn, 1) := by decide +kernel
theorem dX0_giveOneByOne_0 : decode cX0_giveOneByOne 0 = .ok (.iconst 0, 1) := by decide +kernel
theorem dX0_giveOneByOne_1 : decode cX0_giveOneByOne 1 = .ok (.istore 4, 2) := by decide +kernel
theorem dX0_giveOneByOne_3 : decode cX0_giveOneByOne 3 = .ok (.iload 4, 2) := by decide +kernel
theorem dX0_giveOneByOne_5 : decode cX0_giveOneByOne 5 = .ok (.aload_n 0, 1) := by decide +kernel
theorem dX0_giveOneByOne_6 : decode cX0_giveOneByOne 6 = .ok (.getfield 116, 3) := by decide +kernel
theorem dX0_giveOneByOne_9 : decode cX0_giveOneByOne 9 = .ok (.if_icmp .ge 17, 3) := by decide +kernel
theorem dX0_giveOneByOne_12 : decode cX0_giveOneByOne 12 = .ok (.aload_n 0, 1) := by decide +kernel
theorem dX0_giveOneByOne_13 : decode cX0_giveOneByOne 13 = .ok (.getfield 27, 3) := by decide +kernel
theorem dX0_giveOneByOne_16 : decode cX0_giveOneByOne 16 = .ok (.iload 4, 2) := by decide +kernel
theorem dX0_giveOneByOne_18 : decode cX0_giveOneByOne 18 = .ok (.iconst 0, 1) := by decide +kernel
theorem dX0_giveOneByOne_19 : decode cX0_giveOneByOne 19 = .ok (.iastore, 1) := by decide +kernel
theorem dX0_giveOneByOne_20 : decode cX0_giveOneByOne 20 = .ok (.iinc 4 1, 3) := by decide +kernel
theorem dX0_giveOneByOne_23 : decode cX0_giveOneByOne 23 = .ok (.goto (-20), 3) := by decide +kernel
theorem dX0_giveOneByOne_26 : decode cX0_giveOneByOne 26 = .ok (.iconst 0, 1) := by decide +kernel
theorem dX0_giveOneByOne_27 : decode cX0_giveOneByOne 27 = .ok (.istore 4, 2) := by decide +kernel
theorem dX0_giveOneByOne_29 : decode cX0_giveOneByOne 29 = .ok (.iload 4, 2) := by decide +kernel
theorem dX0_giveOneByOne_31 : decode cX0_giveOneByOne 31 = .ok (.iload_n 2, 1) := by decide +kernel
theorem dX0_giveOneByOne_32 : decode cX0_giveOneByOne 32 = .ok (.if_icmp .ge 91, 3) := by decide +kernel
theorem dX0_giveOneByOne_35 : decode cX0_giveOneByOne 35 = .ok (.iconst 0, 1) := by decide +kernel
theorem dX0_giveOneByOne_36 : decode cX0_giveOneByOne 36 = .ok (.istore 5, 2) := by decide +kernel
theorem dX0_giveOneByOne_38 : decode cX0_giveOneByOne 38 = .ok (.iconst 1, 1) := by decide +kernel
theorem dX0_giveOneByOne_39 : decode cX0_giveOneByOne 39 = .ok (.istore 6, 2) := by decide +kernel
theorem dX0_giveOneByOne_41 : decode cX0_giveOneByOne 41 = .ok (.iload 6, 2) := by decide +kernel
theorem dX0_giveOneByOne_43 : decode cX0_giveOneByOne 43 = .ok (.aload_n 0, 1) := by decide +kernel
theorem dX0_giveOneByOne_44 : decode cX0_giveOneByOne 44 = .ok (.getfield 116, 3) := by decide +kernel
theorem dX0_giveOneByOne_47 : decode cX0_giveOneByOne 47 = .ok (.if_icmp .ge 59, 3) := by decide +kernel
theorem dX0_giveOneByOne_50 : decode cX0_giveOneByOne 50 = .ok (.iload_n 3, 1) := by decide +kernel
theorem dX0_giveOneByOne_51 : decode cX0_giveOneByOne 51 = .ok (.aload_n 0, 1) := by decide +kernel
theorem dX0_giveOneByOne_52 : decode cX0_giveOneByOne 52 = .ok (.getfield 27, 3) := by decide +kernel
theorem dX0_giveOneByOne_55 : decode cX0_giveOneByOne 55 = .ok (.iload 6, 2) := by decide +kernel
theorem dX0_giveOneByOne_57 : decode cX0_giveOneByOne 57 = .ok (.iaload, 1) := by decide +kernel
theorem dX0_giveOneByOne_58 : decode cX0_giveOneByOne 58 = .ok (.imul, 1) := by decide +kernel
theorem dX0_giveOneByOne_59 : decode cX0_giveOneByOne 59 = .ok (.iconst 1, 1) := by decide +kernel
theorem dX0_giveOneByOne_60 : decode cX0_giveOneByOne 60 = .ok (.iadd, 1) := by decide +kernel
theorem dX0_giveOneByOne_61 : decode cX0_giveOneByOne 61 = .ok (.i2l, 1) := by decide +kernel
theorem dX0_giveOneByOne_62 : decode cX0_giveOneByOne 62 = .ok (.lstore 7, 2) := by decide +kernel
theorem dX0_giveOneByOne_64 : decode cX0_giveOneByOne 64 = .ok (.iload_n 3, 1) := by decide +kernel
theorem dX0_giveOneByOne_65 : decode cX0_giveOneByOne 65 = .ok (.aload_n 0, 1) := by decide +kernel
theorem dX0_giveOneByOne_66 : decode cX0_giveOneByOne 66 = .ok (.getfield 27, 3) := by decide +kernel
theorem dX0_giveOneByOne_69 : decode cX0_giveOneByOne 69 = .ok (.iload 5, 2) := by decide +kernel
theorem dX0_giveOneByOne_71 : decode cX0_giveOneByOne 71 = .ok (.iaload, 1) := by decide +kernel
theorem dX0_giveOneByOne_72 : decode cX0_giveOneByOne 72 = .ok (.imul, 1) := by decide +kernel
theorem dX0_giveOneByOne_73 : decode cX0_giveOneByOne 73 = .ok (.iconst 1, 1) := by decide +kernel
theorem dX0_giveOneByOne_74 : decode cX0_giveOneByOne 74 = .ok (.iadd, 1) := by decide +kernel
theorem dX0_giveOneByOne_75 : decode cX0_giveOneByOne 75 = .ok (.i2l, 1) := by decide +kernel
theorem dX0_giveOneByOne_76 : decode cX0_giveOneByOne 76 = .ok (.lstore 9, 2) := by decide +kernel
theorem dX0_giveOneByOne_78 : decode cX0_giveOneByOne 78 = .ok (.aload_n 1, 1) := by decide +kernel
theorem dX0_giveOneByOne_79 : decode cX0_giveOneByOne 79 = .ok (.iload 6, 2) := by decide +kernel
theorem dX0_giveOneByOne_81 : decode cX0_giveOneByOne 81 = .ok (.laload, 1) := by decide +kernel
theorem dX0_giveOneByOne_82 : decode cX0_giveOneByOne 82 = .ok (.lload 9, 2) := by decide +kernel
theorem dX0_giveOneByOne_84 : decode cX0_giveOneByOne 84 = .ok (.lmul, 1) := by decide +kernel
theorem dX0_giveOneByOne_85 : decode cX0_giveOneByOne 85 = .ok (.aload_n 1, 1) := by decide +kernel
theorem dX0_giveOneByOne_86 : decode cX0_giveOneByOne 86 = .ok (.iload 5, 2) := by decide +kernel
theorem dX0_giveOneByOne_88 : decode cX0_giveOneByOne 88 = .ok (.laload, 1) := by decide +kernel
theorem dX0_giveOneByOne_89 : decode cX0_giveOneByOne 89 = .ok (.lload 7, 2) := by decide +kernel
theorem dX0_giveOneByOne_91 : decode cX0_giveOneByOne 91 = .ok (.lmul, 1) := by decide +kernel
theorem dX0_giveOneByOne_92 : decode cX0_giveOneByOne 92 = .ok (.lcmp, 1) := by decide +kernel
theorem dX0_giveOneByOne_93 : decode cX0_giveOneByOne 93 = .ok (.ifCond .le 7, 3) := by decide +kernel
theorem dX0_giveOneByOne_96 : decode cX0_giveOneByOne 96 = .ok (.iload 6, 2) := by decide +kernel
theorem dX0_giveOneByOne_98 : decode cX0_giveOneByOne 98 = .ok (.istore 5, 2) := by decide +kernel
theorem dX0_giveOneByOne_100 : decode cX0_giveOneByOne 100 = .ok (.iinc 6 1, 3) := by decide +kernel
theorem dX0_giveOneByOne_103 : decode cX0_giveOneByOne 103 = .ok (.goto (-62), 3) := by decide +kernel
theorem dX0_giveOneByOne_106 : decode cX0_giveOneByOne 106 = .ok (.aload_n 0, 1) := by decide +kernel
theorem dX0_giveOneByOne_107 : decode cX0_giveOneByOne 107 = .ok (.getfield 27, 3) := by decide +kernel
theorem dX0_giveOneByOne_110 : decode cX0_giveOneByOne 110 = .ok (.iload 5, 2) := by decide +kernel
theorem dX0_giveOneByOne_112 : decode cX0_giveOneByOne 112 = .ok (.dup2, 1) := by decide +kernel
theorem dX0_giveOneByOne_113 : decode cX0_giveOneByOne 113 = .ok (.iaload, 1) := by decide +kernel
theorem dX0_giveOneByOne_114 : decode cX0_giveOneByOne 114 = .ok (.iconst 1, 1) := by decide +kernel
theorem dX0_giveOneByOne_115 : decode cX0_giveOneByOne 115 = .ok (.iadd, 1) := by decide +kernel
theorem dX0_giveOneByOne_116 : decode cX0_giveOneByOne 116 = .ok (.iastore, 1) := by decide +kernel
theorem dX0_giveOneByOne_117 : decode cX0_giveOneByOne 117 = .ok (.iinc 4 1, 3) := by decide +kernel
theorem dX0_giveOneByOne_120 : decode cX0_giveOneByOne 120 = .ok (.goto (-91), 3) := by decide +kernel
theorem dX0_giveOneByOne_123 : decode cX0_giveOneByOne 123 = .ok (.return_, 1) := by decide +kernel
theorem dX0_countSeated_0 : decode cX0_countSeated 0 = .ok (.iconst 0, 1) := by decide +kernel
theorem dX0_countSeated_1 : decode cX0_countSeated 1 = .ok (.istore_n 1, 1) := by decide +kernel
theorem dX0_countSeated_2 : decode cX0_countSeated 2 = .ok (.iconst 0, 1) := by decide +kernel
theorem dX0_countSeated_3 : decode cX0_countSeated 3 = .ok (.istore_n 2, 1) := by decide +kernel
theorem dX0_countSeated_4 : decode cX0_countSeated 4 = .ok (.iload_n 2, 1) := by decide +kernel
theorem dX0_countSeated_5 : decode cX0_countSeated 5 = .ok (.aload_n 0, 1) := by decide +kernel
theorem dX0_countSeated_6 : decode cX0_countSeated 6 = .ok (.getfield 116, 3) := by decide +kernel
theorem dX0_countSeated_9 : decode cX0_countSeated 9 = .ok (.if_icmp .ge 21, 3) := by decide +kernel
theorem dX0_countSeated_12 : decode cX0_countSeated 12 = .ok (.aload_n 0, 1) := by decide +kernel
theorem dX0_countSeated_13 : decode cX0_countSeated 13 = .ok (.getfield 27, 3) := by decide +kernel
theorem dX0_countSeated_16 : decode cX0_countSeated 16 = .ok (.iload_n 2, 1) := by decide +kernel
theorem dX0_countSeated_17 : decode cX0_countSeated 17 = .ok (.iaload, 1) := by decide +kernel
theorem dX0_countSeated_18 : decode cX0_countSeated 18 = .ok (.ifCond .le 6, 3) := by decide +kernel
theorem dX0_countSeated_21 : decode cX0_countSeated 21 = .ok (.iinc 1 1, 3) := by decide +kernel
theorem dX0_countSeated_24 : decode cX0_countSeated 24 = .ok (.iinc 2 1, 3) := by decide +kernel
theorem dX0_countSeated_27 : decode cX0_countSeated 27 = .ok (.goto (-23), 3) := by decide +kernel
theorem dX0_countSeated_30 : decode cX0_countSeated 30 = .ok (.iload_n 1, 1) := by decide +kernel
theorem dX0_countSeated_31 : decode cX0_countSeated 31 = .ok (.ireturn, 1) := by decide +kernel
set_option maxRecDepth 20000 in
theorem ggX0_waysToReach_X0_waysToReach : GoodIn wsX0_waysToReach wsX0_waysToReach := goodIn_r _ [0, 1, 2, 3] (by decide +kernel) (by decide +kernel)
set_option maxRecDepth 20000 in
theorem gX0_waysToReach_X0_waysToReach : GoodIn wsX0_waysToReach (va_wsS RX0 144 yX0_waysToReach wsX0_waysToReach) := goodIn_app (goodIn_of _ (by decide +kernel)) ggX0_waysToReach_X0_waysToReach
theorem dX0_waysToReach_0 : decode cX0_waysToReach 0 = .ok (.iload_n 2, 1) := by decide +kernel
theorem dX0_waysToReach_1 : decode cX0_waysToReach 1 = .ok (.iconst 1, 1) := by decide +kernel
theorem dX0_waysToReach_2 : decode cX0_waysToReach 2 = .ok (.if_icmp .ge 15, 3) := by decide +kernel
theorem dX0_waysToReach_5 : decode cX0_waysToReach 5 = .ok (.lload_n 0, 1) := by decide +kernel
theorem dX0_waysToReach_6 : decode cX0_waysToReach 6 = .ok (.lconst 0, 1) := by decide +kernel
theorem dX0_waysToReach_7 : decode cX0_waysToReach 7 = .ok (.lcmp, 1) := by decide +kernel
theorem dX0_waysToReach_8 : decode cX0_waysToReach 8 = .ok (.ifCond .gt 7, 3) := by decide +kernel
theorem dX0_waysToReach_11 : decode cX0_waysToReach 11 = .ok (.iconst 1, 1) := by decide +kernel
theorem dX0_waysToReach_12 : decode cX0_waysToReach 12 = .ok (.goto 4, 3) := by decide +kernel
theorem dX0_waysToReach_15 : decode cX0_waysToReach 15 = .ok (.iconst 0, 1) := by decide +kernel
theorem dX0_waysToReach_16 : decode cX0_waysToReach 16 = .ok (.ireturn, 1) := by decide +kernel
theorem dX0_waysToReach_17 : decode cX0_waysToReach 17 = .ok (.iload_n 2, 1) := by decide +kernel
theorem dX0_waysToReach_18 : decode cX0_waysToReach 18 = .ok (.iload 5, 2) := by decide +kernel
theorem dX0_waysToReach_20 : decode cX0_waysToReach 20 = .ok (.iload 4, 2) := by decide +kernel
theorem dX0_waysToReach_22 : decode cX0_waysToReach 22 = .ok (.isub, 1) := by decide +kernel
theorem dX0_waysToReach_23 : decode cX0_waysToReach 23 = .ok (.if_icmp .gt 10, 3) := by decide +kernel
theorem dX0_waysToReach_26 : decode cX0_waysToReach 26 = .ok (.iload 4, 2) := by decide +kernel
theorem dX0_waysToReach_28 : decode cX0_waysToReach 28 = .ok (.aload_n 3, 1) := by decide +kernel
theorem dX0_waysToReach_29 : decode cX0_waysToReach 29 = .ok (.arraylength, 1) := by decide +kernel
theorem dX0_waysToReach_30 : decode cX0_waysToReach 30 = .ok (.if_icmp .lt 5, 3) := by decide +kernel
theorem dX0_waysToReach_33 : decode cX0_waysToReach 33 = .ok (.iconst 0, 1) := by decide +kernel
theorem dX0_waysToReach_34 : decode cX0_waysToReach 34 = .ok (.ireturn, 1) := by decide +kernel
theorem dX0_waysToReach_35 : decode cX0_waysToReach 35 = .ok (.lload_n 0, 1) := by decide +kernel
theorem dX0_waysToReach_36 : decode cX0_waysToReach 36 = .ok (.aload_n 3, 1) := by decide +kernel
theorem dX0_waysToReach_37 : decode cX0_waysToReach 37 = .ok (.iload 4, 2) := by decide +kernel
theorem dX0_waysToReach_39 : decode cX0_waysToReach 39 = .ok (.laload, 1) := by decide +kernel
theorem dX0_waysToReach_40 : decode cX0_waysToReach 40 = .ok (.lsub, 1) := by decide +kernel
theorem dX0_waysToReach_41 : decode cX0_waysToReach 41 = .ok (.iload_n 2, 1) := by decide +kernel
theorem dX0_waysToReach_42 : decode cX0_waysToReach 42 = .ok (.iconst 1, 1) := by decide +kernel
theorem dX0_waysToReach_43 : decode cX0_waysToReach 43 = .ok (.isub, 1) := by decide +kernel
theorem dX0_waysToReach_44 : decode cX0_waysToReach 44 = .ok (.aload_n 3, 1) := by decide +kernel
theorem dX0_waysToReach_45 : decode cX0_waysToReach 45 = .ok (.iload 4, 2) := by decide +kernel
theorem dX0_waysToReach_47 : decode cX0_waysToReach 47 = .ok (.iconst 1, 1) := by decide +kernel
theorem dX0_waysToReach_48 : decode cX0_waysToReach 48 = .ok (.iadd, 1) := by decide +kernel
theorem dX0_waysToReach_49 : decode cX0_waysToReach 49 = .ok (.iload 5, 2) := by decide +kernel
theorem dX0_waysToReach_51 : decode cX0_waysToReach 51 = .ok (.invokestatic 144, 3) := by decide +kernel
theorem dX0_waysToReach_54 : decode cX0_waysToReach 54 = .ok (.lload_n 0, 1) := by decide +kernel
theorem dX0_waysToReach_55 : decode cX0_waysToReach 55 = .ok (.iload_n 2, 1) := by decide +kernel
theorem dX0_waysToReach_56 : decode cX0_waysToReach 56 = .ok (.aload_n 3, 1) := by decide +kernel
theorem dX0_waysToReach_57 : decode cX0_waysToReach 57 = .ok (.iload 4, 2) := by decide +kernel
theorem dX0_waysToReach_59 : decode cX0_waysToReach 59 = .ok (.iconst 1, 1) := by decide +kernel
theorem dX0_waysToReach_60 : decode cX0_waysToReach 60 = .ok (.iadd, 1) := by decide +kernel
theorem dX0_waysToReach_61 : decode cX0_waysToReach 61 = .ok (.iload 5, 2) := by decide +kernel
theorem dX0_waysToReach_63 : decode cX0_waysToReach 63 = .ok (.invokestatic 144, 3) := by decide +kernel
theorem dX0_waysToReach_66 : decode cX0_waysToReach 66 = .ok (.iadd, 1) := by decide +kernel
theorem dX0_waysToReach_67 : decode cX0_waysToReach 67 = .ok (.ireturn, 1) := by decide +kernel
theorem dX0_choose_0 : decode cX0_choose 0 = .ok (.iload_n 1, 1) := by decide +kernel
theorem dX0_choose_1 : decode cX0_choose 1 = .ok (.ifCond .lt 8, 3) := by decide +kernel
theorem dX0_choose_4 : decode cX0_choose 4 = .ok (.iload_n 1, 1) := by decide +kernel
theorem dX0_choose_5 : decode cX0_choose 5 = .ok (.iload_n 0, 1) := by decide +kernel
theorem dX0_choose_6 : decode cX0_choose 6 = .ok (.if_icmp .le 5, 3) := by decide +kernel
theorem dX0_choose_9 : decode cX0_choose 9 = .ok (.lconst 0, 1) := by decide +kernel
theorem dX0_choose_10 : decode cX0_choose 10 = .ok (.lreturn, 1) := by decide +kernel
theorem dX0_choose_11 : decode cX0_choose 11 = .ok (.lconst 1, 1) := by decide +kernel
theorem dX0_choose_12 : decode cX0_choose 12 = .ok (.lstore_n 2, 1) := by decide +kernel
theorem dX0_choose_13 : decode cX0_choose 13 = .ok (.iconst 0, 1) := by decide +kernel
theorem dX0_choose_14 : decode cX0_choose 14 = .ok (.istore 4, 2) := by decide +kernel
theorem dX0_choose_16 : decode cX0_choose 16 = .ok (.iload 4, 2) := by decide +kernel
theorem dX0_choose_18 : decode cX0_choose 18 = .ok (.iload_n 1, 1) := by decide +kernel
theorem dX0_choose_19 : decode cX0_choose 19 = .ok (.if_icmp .ge 23, 3) := by decide +kernel
theorem dX0_choose_22 : decode cX0_choose 22 = .ok (.lload_n 2, 1) := by decide +kernel
theorem dX0_choose_23 : decode cX0_choose 23 = .ok (.iload_n 0, 1) := by decide +kernel
theorem dX0_choose_24 : decode cX0_choose 24 = .ok (.iload 4, 2) := by decide +kernel
theorem dX0_choose_26 : decode cX0_choose 26 = .ok (.isub, 1) := by decide +kernel
theorem dX0_choose_27 : decode cX0_choose 27 = .ok (.i2l, 1) := by decide +kernel
theorem dX0_choose_28 : decode cX0_choose 28 = .ok (.lmul, 1) := by decide +kernel
theorem dX0_choose_29 : decode cX0_choose 29 = .ok (.iload 4, 2) := by decide +kernel
theorem dX0_choose_31 : decode cX0_choose 31 = .ok (.iconst 1, 1) := by decide +kernel
theorem dX0_choose_32 : decode cX0_choose 32 = .ok (.iadd, 1) := by decide +kernel
theorem dX0_choose_33 : decode cX0_choose 33 = .ok (.i2l, 1) := by decide +kernel
theorem dX0_choose_34 : decode cX0_choose 34 = .ok (.ldiv, 1) := by decide +kernel
theorem dX0_choose_35 : decode cX0_choose 35 = .ok (.lstore_n 2, 1) := by decide +kernel
theorem dX0_choose_36 : decode cX0_choose 36 = .ok (.iinc 4 1, 3) := by decide +kernel
theorem dX0_choose_39 : decode cX0_choose 39 = .ok (.goto (-23), 3) := by decide +kernel
theorem dX0_choose_42 : decode cX0_choose 42 = .ok (.lload_n 2, 1) := by decide +kernel
theorem dX0_choose_43 : decode cX0_choose 43 = .ok (.lreturn, 1) := by decide +kernel
theorem dX0_times_0 : decode cX0_times 0 = .ok (.lload_n 0, 1) := by decide +kernel
theorem dX0_times_1 : decode cX0_times 1 = .ok (.ldc2_w 36, 3) := by decide +kernel
theorem dX0_times_4 : decode cX0_times 4 = .ok (.lcmp, 1) := by decide +kernel
theorem dX0_times_5 : decode cX0_times 5 = .ok (.ifCond .eq 11, 3) := by decide +kernel
theorem dX0_times_8 : decode cX0_times 8 = .ok (.lload_n 2, 1) := by decide +kernel
theorem dX0_times_9 : decode cX0_times 9 = .ok (.ldc2_w 36, 3) := by decide +kernel
theorem dX0_times_12 : decode cX0_times 12 = .ok (.lcmp, 1) := by decide +kernel
theorem dX0_times_13 : decode cX0_times 13 = .ok (.ifCond .ne 7, 3) := by decide +kernel
theorem dX0_times_16 : decode cX0_times 16 = .ok (.ldc2_w 36, 3) := by decide +kernel
theorem dX0_times_19 : decode cX0_times 19 = .ok (.lreturn, 1) := by decide +kernel
theorem dX0_times_20 : decode cX0_times 20 = .ok (.lload_n 2, 1) := by decide +kernel
theorem dX0_times_21 : decode cX0_times 21 = .ok (.lconst 0, 1) := by decide +kernel
theorem dX0_times_22 : decode cX0_times 22 = .ok (.lcmp, 1) := by decide +kernel
theorem dX0_times_23 : decode cX0_times 23 = .ok (.ifCond .eq 25, 3) := by decide +kernel
theorem dX0_times_26 : decode cX0_times 26 = .ok (.lload_n 0, 1) := by decide +kernel
theorem dX0_times_27 : decode cX0_times 27 = .ok (.invokestatic 179, 3) := by decide +kernel
theorem dX0_times_30 : decode cX0_times 30 = .ok (.ldc2_w 183, 3) := by decide +kernel
theorem dX0_times_33 : decode cX0_times 33 = .ok (.lload_n 2, 1) := by decide +kernel
theorem dX0_times_34 : decode cX0_times 34 = .ok (.invokestatic 179, 3) := by decide +kernel
theorem dX0_times_37 : decode cX0_times 37 = .ok (.ldiv, 1) := by decide +kernel
theorem dX0_times_38 : decode cX0_times 38 = .ok (.lcmp, 1) := by decide +kernel
theorem dX0_times_39 : decode cX0_times 39 = .ok (.ifCond .le 9, 3) := by decide +kernel
theorem dX0_times_42 : decode cX0_times 42 = .ok (.ldc2_w 36, 3) := by decide +kernel
theorem dX0_times_45 : decode cX0_times 45 = .ok (.goto 6, 3) := by decide +kernel
theorem dX0_times_48 : decode cX0_times 48 = .ok (.lload_n 0, 1) := by decide +kernel
theorem dX0_times_49 : decode cX0_times 49 = .ok (.lload_n 2, 1) := by decide +kernel
theorem dX0_times_50 : decode cX0_times 50 = .ok (.lmul, 1) := by decide +kernel
theorem dX0_times_51 : decode cX0_times 51 = .ok (.lreturn, 1) := by decide +kernel
theorem dX0_plus_0 : decode cX0_plus 0 = .ok (.lload_n 0, 1) := by decide +kernel
theorem dX0_plus_1 : decode cX0_plus 1 = .ok (.ldc2_w 36, 3) := by decide +kernel
theorem dX0_plus_4 : decode cX0_plus 4 = .ok (.lcmp, 1) := by decide +kernel
theorem dX0_plus_5 : decode cX0_plus 5 = .ok (.ifCond .eq 11, 3) := by decide +kernel
theorem dX0_plus_8 : decode cX0_plus 8 = .ok (.lload_n 2, 1) := by decide +kernel
theorem dX0_plus_9 : decode cX0_plus 9 = .ok (.ldc2_w 36, 3) := by decide +kernel
theorem dX0_plus_12 : decode cX0_plus 12 = .ok (.lcmp, 1) := by decide +kernel
theorem dX0_plus_13 : decode cX0_plus 13 = .ok (.ifCond .ne 7, 3) := by decide +kernel
theorem dX0_plus_16 : decode cX0_plus 16 = .ok (.ldc2_w 36, 3) := by decide +kernel
theorem dX0_plus_19 : decode cX0_plus 19 = .ok (.lreturn, 1) := by decide +kernel
theorem dX0_plus_20 : decode cX0_plus 20 = .ok (.lload_n 0, 1) := by decide +kernel
theorem dX0_plus_21 : decode cX0_plus 21 = .ok (.lload_n 2, 1) := by decide +kernel
theorem dX0_plus_22 : decode cX0_plus 22 = .ok (.ladd, 1) := by decide +kernel
theorem dX0_plus_23 : decode cX0_plus 23 = .ok (.lstore 4, 2) := by decide +kernel
theorem dX0_plus_25 : decode cX0_plus 25 = .ok (.lload_n 0, 1) := by decide +kernel
theorem dX0_plus_26 : decode cX0_plus 26 = .ok (.lconst 0, 1) := by decide +kernel
theorem dX0_plus_27 : decode cX0_plus 27 = .ok (.lcmp, 1) := by decide +kernel
theorem dX0_plus_28 : decode cX0_plus 28 = .ok (.ifCond .le 16, 3) := by decide +kernel
theorem dX0_plus_31 : decode cX0_plus 31 = .ok (.lload_n 2, 1) := by decide +kernel
theorem dX0_plus_32 : decode cX0_plus 32 = .ok (.lconst 0, 1) := by decide +kernel
theorem dX0_plus_33 : decode cX0_plus 33 = .ok (.lcmp, 1) := by decide +kernel
theorem dX0_plus_34 : decode cX0_plus 34 = .ok (.ifCond .le 10, 3) := by decide +kernel
theorem dX0_plus_37 : decode cX0_plus 37 = .ok (.lload 4, 2) := by decide +kernel
theorem dX0_plus_39 : decode cX0_plus 39 = .ok (.lconst 0, 1) := by decide +kernel
theorem dX0_plus_40 : decode cX0_plus 40 = .ok (.lcmp, 1) := by decide +kernel
theorem dX0_plus_41 : decode cX0_plus 41 = .ok (.ifCond .lt 22, 3) := by decide +kernel
theorem dX0_plus_44 : decode cX0_plus 44 = .ok (.lload_n 0, 1) := by decide +kernel
theorem dX0_plus_45 : decode cX0_plus 45 = .ok (.lconst 0, 1) := by decide +kernel
theorem dX0_plus_46 : decode cX0_plus 46 = .ok (.lcmp, 1) := by decide +kernel
theorem dX0_plus_47 : decode cX0_plus 47 = .ok (.ifCond .ge 20, 3) := by decide +kernel
theorem dX0_plus_50 : decode cX0_plus 50 = .ok (.lload_n 2, 1) := by decide +kernel
theorem dX0_plus_51 : decode cX0_plus 51 = .ok (.lconst 0, 1) := by decide +kernel
theorem dX0_plus_52 : decode cX0_plus 52 = .ok (.lcmp, 1) := by decide +kernel
theorem dX0_plus_53 : decode cX0_plus 53 = .ok (.ifCond .ge 14, 3) := by decide +kernel
theorem dX0_plus_56 : decode cX0_plus 56 = .ok (.lload 4, 2) := by decide +kernel
theorem dX0_plus_58 : decode cX0_plus 58 = .ok (.lconst 0, 1) := by decide +kernel
theorem dX0_plus_59 : decode cX0_plus 59 = .ok (.lcmp, 1) := by decide +kernel
theorem dX0_plus_60 : decode cX0_plus 60 = .ok (.ifCond .lt 7, 3) := by decide +kernel
theorem dX0_plus_63 : decode cX0_plus 63 = .ok (.iconst 1, 1) := by decide +kernel
theorem dX0_plus_64 : decode cX0_plus 64 = .ok (.goto 4, 3) := by decide +kernel
theorem dX0_plus_67 : decode cX0_plus 67 = .ok (.iconst 0, 1) := by decide +kernel
theorem dX0_plus_68 : decode cX0_plus 68 = .ok (.istore 6, 2) := by decide +kernel
theorem dX0_plus_70 : decode cX0_plus 70 = .ok (.iload 6, 2) := by decide +kernel
theorem dX0_plus_72 : decode cX0_plus 72 = .ok (.ifCond .eq 9, 3) := by decide +kernel
theorem dX0_plus_75 : decode cX0_plus 75 = .ok (.ldc2_w 36, 3) := by decide +kernel
theorem dX0_plus_78 : decode cX0_plus 78 = .ok (.goto 5, 3) := by decide +kernel
theorem dX0_plus_81 : decode cX0_plus 81 = .ok (.lload 4, 2) := by decide +kernel
theorem dX0_plus_83 : decode cX0_plus 83 = .ok (.lreturn, 1) := by decide +kernel
set_option maxRecDepth 20000 in
theorem ggX0_power_X0_times : GoodIn wsX0_power wsX0_times := goodIn_r _ [4, 5, 6, 7, 8, 9, 10] (by decide +kernel) (by decide +kernel)
set_option maxRecDepth 20000 in
theorem gX0_power_X0_times : GoodIn wsX0_power (va_wsS RX0 90 yX0_times wsX0_times) := goodIn_app (goodIn_of _ (by decide +kernel)) ggX0_power_X0_times
theorem dX0_power_0 : decode cX0_power 0 = .ok (.lconst 1, 1) := by decide +kernel
theorem dX0_power_1 : decode cX0_power 1 = .ok (.lstore_n 3, 1) := by decide +kernel
theorem dX0_power_2 : decode cX0_power 2 = .ok (.iconst 0, 1) := by decide +kernel
theorem dX0_power_3 : decode cX0_power 3 = .ok (.istore 5, 2) := by decide +kernel
theorem dX0_power_5 : decode cX0_power 5 = .ok (.iload 5, 2) := by decide +kernel
theorem dX0_power_7 : decode cX0_power 7 = .ok (.iload_n 2, 1) := by decide +kernel
theorem dX0_power_8 : decode cX0_power 8 = .ok (.if_icmp .ge 15, 3) := by decide +kernel
theorem dX0_power_11 : decode cX0_power 11 = .ok (.lload_n 3, 1) := by decide +kernel
theorem dX0_power_12 : decode cX0_power 12 = .ok (.lload_n 0, 1) := by decide +kernel
theorem dX0_power_13 : decode cX0_power 13 = .ok (.invokestatic 90, 3) := by decide +kernel
theorem dX0_power_16 : decode cX0_power 16 = .ok (.lstore_n 3, 1) := by decide +kernel
theorem dX0_power_17 : decode cX0_power 17 = .ok (.iinc 5 1, 3) := by decide +kernel
theorem dX0_power_20 : decode cX0_power 20 = .ok (.goto (-15), 3) := by decide +kernel
theorem dX0_power_23 : decode cX0_power 23 = .ok (.lload_n 3, 1) := by decide +kernel
theorem dX0_power_24 : decode cX0_power 24 = .ok (.lreturn, 1) := by decide +kernel
theorem dX0_greatestDivisor_0 : decode cX0_greatestDivisor 0 = .ok (.lload_n 0, 1) := by decide +kernel
theorem dX0_greatestDivisor_1 : decode cX0_greatestDivisor 1 = .ok (.invokestatic 179, 3) := by decide +kernel
theorem dX0_greatestDivisor_4 : decode cX0_greatestDivisor 4 = .ok (.lstore 4, 2) := by decide +kernel
theorem dX0_greatestDivisor_6 : decode cX0_greatestDivisor 6 = .ok (.lload_n 2, 1) := by decide +kernel
theorem dX0_greatestDivisor_7 : decode cX0_greatestDivisor 7 = .ok (.invokestatic 179, 3) := by decide +kernel
theorem dX0_greatestDivisor_10 : decode cX0_greatestDivisor 10 = .ok (.lstore 6, 2) := by decide +kernel
theorem dX0_greatestDivisor_12 : decode cX0_greatestDivisor 12 = .ok (.iconst 0, 1) := by decide +kernel
theorem dX0_greatestDivisor_13 : decode cX0_greatestDivisor 13 = .ok (.istore 8, 2) := by decide +kernel
theorem dX0_greatestDivisor_15 : decode cX0_greatestDivisor 15 = .ok (.iload 8, 2) := by decide +kernel
theorem dX0_greatestDivisor_17 : decode cX0_greatestDivisor 17 = .ok (.sipush 200, 3) := by decide +kernel
theorem dX0_greatestDivisor_20 : decode cX0_greatestDivisor 20 = .ok (.if_icmp .ge 31, 3) := by decide +kernel
theorem dX0_greatestDivisor_23 : decode cX0_greatestDivisor 23 = .ok (.lload 6, 2) := by decide +kernel
theorem dX0_greatestDivisor_25 : decode cX0_greatestDivisor 25 = .ok (.lconst 0, 1) := by decide +kernel
theorem dX0_greatestDivisor_26 : decode cX0_greatestDivisor 26 = .ok (.lcmp, 1) := by decide +kernel
theorem dX0_greatestDivisor_27 : decode cX0_greatestDivisor 27 = .ok (.ifCond .eq 24, 3) := by decide +kernel
theorem dX0_greatestDivisor_30 : decode cX0_greatestDivisor 30 = .ok (.lload 4, 2) := by decide +kernel
theorem dX0_greatestDivisor_32 : decode cX0_greatestDivisor 32 = .ok (.lload 6, 2) := by decide +kernel
theorem dX0_greatestDivisor_34 : decode cX0_greatestDivisor 34 = .ok (.lrem, 1) := by decide +kernel
theorem dX0_greatestDivisor_35 : decode cX0_greatestDivisor 35 = .ok (.lstore 9, 2) := by decide +kernel
theorem dX0_greatestDivisor_37 : decode cX0_greatestDivisor 37 = .ok (.lload 6, 2) := by decide +kernel
theorem dX0_greatestDivisor_39 : decode cX0_greatestDivisor 39 = .ok (.lstore 4, 2) := by decide +kernel
theorem dX0_greatestDivisor_41 : decode cX0_greatestDivisor 41 = .ok (.lload 9, 2) := by decide +kernel
theorem dX0_greatestDivisor_43 : decode cX0_greatestDivisor 43 = .ok (.lstore 6, 2) := by decide +kernel
theorem dX0_greatestDivisor_45 : decode cX0_greatestDivisor 45 = .ok (.iinc 8 1, 3) := by decide +kernel
theorem dX0_greatestDivisor_48 : decode cX0_greatestDivisor 48 = .ok (.goto (-33), 3) := by decide +kernel
theorem dX0_greatestDivisor_51 : decode cX0_greatestDivisor 51 = .ok (.lconst 1, 1) := by decide +kernel
theorem dX0_greatestDivisor_52 : decode cX0_greatestDivisor 52 = .ok (.lload 4, 2) := by decide +kernel
theorem dX0_greatestDivisor_54 : decode cX0_greatestDivisor 54 = .ok (.invokestatic 185, 3) := by decide +kernel
theorem dX0_greatestDivisor_57 : decode cX0_greatestDivisor 57 = .ok (.lreturn, 1) := by decide +kernel
set_option maxRecDepth 20000 in
theorem ggX0_compared_J9_floorDiv_f86c9 : GoodIn wsX0_compared wsJ9_floorDiv_f86c9 := goodIn_r _ [4] (by decide +kernel) (by decide +kernel)
set_option maxRecDepth 20000 in
theorem gX0_compared_J9_floorDiv_f86c9 : GoodIn wsX0_compared (va_wsS RX0 94 yJ9_floorDiv_f86c9 wsJ9_floorDiv_f86c9) := goodIn_app (goodIn_of _ (by decide +kernel)) ggX0_compared_J9_floorDiv_f86c9
theorem dX0_compared_0 : decode cX0_compared 0 = .ok (.iconst 1, 1) := by decide +kernel
theorem dX0_compared_1 : decode cX0_compared 1 = .ok (.istore 8, 2) := by decide +kernel
theorem dX0_compared_3 : decode cX0_compared 3 = .ok (.iconst 0, 1) := by decide +kernel
theorem dX0_compared_4 : decode cX0_compared 4 = .ok (.istore 9, 2) := by decide +kernel
theorem dX0_compared_6 : decode cX0_compared 6 = .ok (.iload 9, 2) := by decide +kernel
theorem dX0_compared_8 : decode cX0_compared 8 = .ok (.sipush 200, 3) := by decide +kernel
theorem dX0_compared_11 : decode cX0_compared 11 = .ok (.if_icmp .ge 142, 3) := by decide +kernel
theorem dX0_compared_14 : decode cX0_compared 14 = .ok (.lload_n 2, 1) := by decide +kernel
theorem dX0_compared_15 : decode cX0_compared 15 = .ok (.lconst 0, 1) := by decide +kernel
theorem dX0_compared_16 : decode cX0_compared 16 = .ok (.lcmp, 1) := by decide +kernel
theorem dX0_compared_17 : decode cX0_compared 17 = .ok (.ifCond .le 136, 3) := by decide +kernel
theorem dX0_compared_20 : decode cX0_compared 20 = .ok (.lload 6, 2) := by decide +kernel
theorem dX0_compared_22 : decode cX0_compared 22 = .ok (.lconst 0, 1) := by decide +kernel
theorem dX0_compared_23 : decode cX0_compared 23 = .ok (.lcmp, 1) := by decide +kernel
theorem dX0_compared_24 : decode cX0_compared 24 = .ok (.ifCond .le 129, 3) := by decide +kernel
theorem dX0_compared_27 : decode cX0_compared 27 = .ok (.lload_n 0, 1) := by decide +kernel
theorem dX0_compared_28 : decode cX0_compared 28 = .ok (.lload_n 2, 1) := by decide +kernel
theorem dX0_compared_29 : decode cX0_compared 29 = .ok (.invokestatic 94, 3) := by decide +kernel
theorem dX0_compared_32 : decode cX0_compared 32 = .ok (.lstore 10, 2) := by decide +kernel
theorem dX0_compared_34 : decode cX0_compared 34 = .ok (.lload 4, 2) := by decide +kernel
theorem dX0_compared_36 : decode cX0_compared 36 = .ok (.lload 6, 2) := by decide +kernel
theorem dX0_compared_38 : decode cX0_compared 38 = .ok (.invokestatic 94, 3) := by decide +kernel
theorem dX0_compared_41 : decode cX0_compared 41 = .ok (.lstore 12, 2) := by decide +kernel
theorem dX0_compared_43 : decode cX0_compared 43 = .ok (.lload 10, 2) := by decide +kernel
theorem dX0_compared_45 : decode cX0_compared 45 = .ok (.lload 12, 2) := by decide +kernel
theorem dX0_compared_47 : decode cX0_compared 47 = .ok (.lcmp, 1) := by decide +kernel
theorem dX0_compared_48 : decode cX0_compared 48 = .ok (.ifCond .eq 20, 3) := by decide +kernel
theorem dX0_compared_51 : decode cX0_compared 51 = .ok (.lload 10, 2) := by decide +kernel
theorem dX0_compared_53 : decode cX0_compared 53 = .ok (.lload 12, 2) := by decide +kernel
theorem dX0_compared_55 : decode cX0_compared 55 = .ok (.lcmp, 1) := by decide +kernel
theorem dX0_compared_56 : decode cX0_compared 56 = .ok (.ifCond .ge 9, 3) := by decide +kernel
theorem dX0_compared_59 : decode cX0_compared 59 = .ok (.iload 8, 2) := by decide +kernel
theorem dX0_compared_61 : decode cX0_compared 61 = .ok (.ineg, 1) := by decide +kernel
theorem dX0_compared_62 : decode cX0_compared 62 = .ok (.goto 5, 3) := by decide +kernel
theorem dX0_compared_65 : decode cX0_compared 65 = .ok (.iload 8, 2) := by decide +kernel
theorem dX0_compared_67 : decode cX0_compared 67 = .ok (.ireturn, 1) := by decide +kernel
theorem dX0_compared_68 : decode cX0_compared 68 = .ok (.lload_n 0, 1) := by decide +kernel
theorem dX0_compared_69 : decode cX0_compared 69 = .ok (.lload 10, 2) := by decide +kernel
theorem dX0_compared_71 : decode cX0_compared 71 = .ok (.lload_n 2, 1) := by decide +kernel
theorem dX0_compared_72 : decode cX0_compared 72 = .ok (.lmul, 1) := by decide +kernel
theorem dX0_compared_73 : decode cX0_compared 73 = .ok (.lsub, 1) := by decide +kernel
theorem dX0_compared_74 : decode cX0_compared 74 = .ok (.lstore 14, 2) := by decide +kernel
theorem dX0_compared_76 : decode cX0_compared 76 = .ok (.lload 4, 2) := by decide +kernel
theorem dX0_compared_78 : decode cX0_compared 78 = .ok (.lload 12, 2) := by decide +kernel
theorem dX0_compared_80 : decode cX0_compared 80 = .ok (.lload 6, 2) := by decide +kernel
theorem dX0_compared_82 : decode cX0_compared 82 = .ok (.lmul, 1) := by decide +kernel
theorem dX0_compared_83 : decode cX0_compared 83 = .ok (.lsub, 1) := by decide +kernel
theorem dX0_compared_84 : decode cX0_compared 84 = .ok (.lstore 16, 2) := by decide +kernel
theorem dX0_compared_86 : decode cX0_compared 86 = .ok (.lload 14, 2) := by decide +kernel
theorem dX0_compared_88 : decode cX0_compared 88 = .ok (.lconst 0, 1) := by decide +kernel
theorem dX0_compared_89 : decode cX0_compared 89 = .ok (.lcmp, 1) := by decide +kernel
theorem dX0_compared_90 : decode cX0_compared 90 = .ok (.ifCond .eq 10, 3) := by decide +kernel
theorem dX0_compared_93 : decode cX0_compared 93 = .ok (.lload 16, 2) := by decide +kernel
theorem dX0_compared_95 : decode cX0_compared 95 = .ok (.lconst 0, 1) := by decide +kernel
theorem dX0_compared_96 : decode cX0_compared 96 = .ok (.lcmp, 1) := by decide +kernel
theorem dX0_compared_97 : decode cX0_compared 97 = .ok (.ifCond .ne 32, 3) := by decide +kernel
theorem dX0_compared_100 : decode cX0_compared 100 = .ok (.lload 14, 2) := by decide +kernel
theorem dX0_compared_102 : decode cX0_compared 102 = .ok (.lload 16, 2) := by decide +kernel
theorem dX0_compared_104 : decode cX0_compared 104 = .ok (.lcmp, 1) := by decide +kernel
theorem dX0_compared_105 : decode cX0_compared 105 = .ok (.ifCond .ge 9, 3) := by decide +kernel
theorem dX0_compared_108 : decode cX0_compared 108 = .ok (.iload 8, 2) := by decide +kernel
theorem dX0_compared_110 : decode cX0_compared 110 = .ok (.ineg, 1) := by decide +kernel
theorem dX0_compared_111 : decode cX0_compared 111 = .ok (.goto 17, 3) := by decide +kernel
theorem dX0_compared_114 : decode cX0_compared 114 = .ok (.lload 14, 2) := by decide +kernel
theorem dX0_compared_116 : decode cX0_compared 116 = .ok (.lload 16, 2) := by decide +kernel
theorem dX0_compared_118 : decode cX0_compared 118 = .ok (.lcmp, 1) := by decide +kernel
theorem dX0_compared_119 : decode cX0_compared 119 = .ok (.ifCond .le 8, 3) := by decide +kernel
theorem dX0_compared_122 : decode cX0_compared 122 = .ok (.iload 8, 2) := by decide +kernel
theorem dX0_compared_124 : decode cX0_compared 124 = .ok (.goto 4, 3) := by decide +kernel
theorem dX0_compared_127 : decode cX0_compared 127 = .ok (.iconst 0, 1) := by decide +kernel
theorem dX0_compared_128 : decode cX0_compared 128 = .ok (.ireturn, 1) := by decide +kernel
theorem dX0_compared_129 : decode cX0_compared 129 = .ok (.lload_n 2, 1) := by decide +kernel
theorem dX0_compared_130 : decode cX0_compared 130 = .ok (.lstore_n 0, 1) := by decide +kernel
theorem dX0_compared_131 : decode cX0_compared 131 = .ok (.lload 14, 2) := by decide +kernel
theorem dX0_compared_133 : decode cX0_compared 133 = .ok (.lstore_n 2, 1) := by decide +kernel
theorem dX0_compared_134 : decode cX0_compared 134 = .ok (.lload 6, 2) := by decide +kernel
theorem dX0_compared_136 : decode cX0_compared 136 = .ok (.lstore 4, 2) := by decide +kernel
theorem dX0_compared_138 : decode cX0_compared 138 = .ok (.lload 16, 2) := by decide +kernel
theorem dX0_compared_140 : decode cX0_compared 140 = .ok (.lstore 6, 2) := by decide +kernel
theorem dX0_compared_142 : decode cX0_compared 142 = .ok (.iload 8, 2) := by decide +kernel
theorem dX0_compared_144 : decode cX0_compared 144 = .ok (.ineg, 1) := by decide +kernel
theorem dX0_compared_145 : decode cX0_compared 145 = .ok (.istore 8, 2) := by decide +kernel
theorem dX0_compared_147 : decode cX0_compared 147 = .ok (.iinc 9 1, 3) := by decide +kernel
theorem dX0_compared_150 : decode cX0_compared 150 = .ok (.goto (-144), 3) := by decide +kernel
theorem dX0_compared_153 : decode cX0_compared 153 = .ok (.iconst 0, 1) := by decide +kernel
theorem dX0_compared_154 : decode cX0_compared 154 = .ok (.ireturn, 1) := by decide +kernel
