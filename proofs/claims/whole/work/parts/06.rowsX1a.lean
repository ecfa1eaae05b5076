theorem dX1_init_0 : decode cX1_init 0 = .ok (.aload_n 0, 1) := by decide +kernel
theorem dX1_init_1 : decode cX1_init 1 = .ok (.invokespecial 1, 3) := by decide +kernel
theorem dX1_init_4 : decode cX1_init 4 = .ok (.aload_n 0, 1) := by decide +kernel
theorem dX1_init_5 : decode cX1_init 5 = .ok (.bipush 41, 2) := by decide +kernel
theorem dX1_init_7 : decode cX1_init 7 = .ok (.newarray .long, 2) := by decide +kernel
theorem dX1_init_9 : decode cX1_init 9 = .ok (.putfield 7, 3) := by decide +kernel
theorem dX1_init_12 : decode cX1_init 12 = .ok (.aload_n 0, 1) := by decide +kernel
theorem dX1_init_13 : decode cX1_init 13 = .ok (.bipush 41, 2) := by decide +kernel
theorem dX1_init_15 : decode cX1_init 15 = .ok (.newarray .long, 2) := by decide +kernel
theorem dX1_init_17 : decode cX1_init 17 = .ok (.putfield 13, 3) := by decide +kernel
theorem dX1_init_20 : decode cX1_init 20 = .ok (.aload_n 0, 1) := by decide +kernel
theorem dX1_init_21 : decode cX1_init 21 = .ok (.bipush 32, 2) := by decide +kernel
theorem dX1_init_23 : decode cX1_init 23 = .ok (.newarray .long, 2) := by decide +kernel
theorem dX1_init_25 : decode cX1_init 25 = .ok (.putfield 16, 3) := by decide +kernel
theorem dX1_init_28 : decode cX1_init 28 = .ok (.aload_n 0, 1) := by decide +kernel
theorem dX1_init_29 : decode cX1_init 29 = .ok (.iconst 4, 1) := by decide +kernel
theorem dX1_init_30 : decode cX1_init 30 = .ok (.newarray .int, 2) := by decide +kernel
theorem dX1_init_32 : decode cX1_init 32 = .ok (.putfield 19, 3) := by decide +kernel
theorem dX1_init_35 : decode cX1_init 35 = .ok (.aload_n 0, 1) := by decide +kernel
theorem dX1_init_36 : decode cX1_init 36 = .ok (.bipush (-5), 2) := by decide +kernel
theorem dX1_init_38 : decode cX1_init 38 = .ok (.putfield 23, 3) := by decide +kernel
theorem dX1_init_41 : decode cX1_init 41 = .ok (.aload_n 0, 1) := by decide +kernel
theorem dX1_init_42 : decode cX1_init 42 = .ok (.bipush 8, 2) := by decide +kernel
theorem dX1_init_44 : decode cX1_init 44 = .ok (.newarray .int, 2) := by decide +kernel
theorem dX1_init_46 : decode cX1_init 46 = .ok (.putfield 27, 3) := by decide +kernel
theorem dX1_init_49 : decode cX1_init 49 = .ok (.aload_n 0, 1) := by decide +kernel
theorem dX1_init_50 : decode cX1_init 50 = .ok (.bipush 8, 2) := by decide +kernel
theorem dX1_init_52 : decode cX1_init 52 = .ok (.newarray .long, 2) := by decide +kernel
theorem dX1_init_54 : decode cX1_init 54 = .ok (.putfield 30, 3) := by decide +kernel
theorem dX1_init_57 : decode cX1_init 57 = .ok (.aload_n 0, 1) := by decide +kernel
theorem dX1_init_58 : decode cX1_init 58 = .ok (.bipush 7, 2) := by decide +kernel
theorem dX1_init_60 : decode cX1_init 60 = .ok (.newarray .long, 2) := by decide +kernel
theorem dX1_init_62 : decode cX1_init 62 = .ok (.putfield 33, 3) := by decide +kernel
theorem dX1_init_65 : decode cX1_init 65 = .ok (.aload_n 0, 1) := by decide +kernel
theorem dX1_init_66 : decode cX1_init 66 = .ok (.bipush 7, 2) := by decide +kernel
theorem dX1_init_68 : decode cX1_init 68 = .ok (.newarray .long, 2) := by decide +kernel
theorem dX1_init_70 : decode cX1_init 70 = .ok (.putfield 36, 3) := by decide +kernel
theorem dX1_init_73 : decode cX1_init 73 = .ok (.aload_n 0, 1) := by decide +kernel
theorem dX1_init_74 : decode cX1_init 74 = .ok (.iconst 0, 1) := by decide +kernel
theorem dX1_init_75 : decode cX1_init 75 = .ok (.putfield 39, 3) := by decide +kernel
theorem dX1_init_78 : decode cX1_init 78 = .ok (.return_, 1) := by decide +kernel
theorem dX1_thrown_0 : decode cX1_thrown 0 = .ok (.aload_n 0, 1) := by decide +kernel
theorem dX1_thrown_1 : decode cX1_thrown 1 = .ok (.getfield 43, 3) := by decide +kernel
theorem dX1_thrown_4 : decode cX1_thrown 4 = .ok (.ireturn, 1) := by decide +kernel
theorem dX1_isIn_0 : decode cX1_isIn 0 = .ok (.lload_n 0, 1) := by decide +kernel
theorem dX1_isIn_1 : decode cX1_isIn 1 = .ok (.lload_n 2, 1) := by decide +kernel
theorem dX1_isIn_2 : decode cX1_isIn 2 = .ok (.lcmp, 1) := by decide +kernel
theorem dX1_isIn_3 : decode cX1_isIn 3 = .ok (.ifCond .lt 14, 3) := by decide +kernel
theorem dX1_isIn_6 : decode cX1_isIn 6 = .ok (.lload_n 0, 1) := by decide +kernel
theorem dX1_isIn_7 : decode cX1_isIn 7 = .ok (.lload 4, 2) := by decide +kernel
theorem dX1_isIn_9 : decode cX1_isIn 9 = .ok (.lcmp, 1) := by decide +kernel
theorem dX1_isIn_10 : decode cX1_isIn 10 = .ok (.ifCond .gt 7, 3) := by decide +kernel
theorem dX1_isIn_13 : decode cX1_isIn 13 = .ok (.iconst 1, 1) := by decide +kernel
theorem dX1_isIn_14 : decode cX1_isIn 14 = .ok (.goto 4, 3) := by decide +kernel
theorem dX1_isIn_17 : decode cX1_isIn 17 = .ok (.iconst 0, 1) := by decide +kernel
theorem dX1_isIn_18 : decode cX1_isIn 18 = .ok (.ireturn, 1) := by decide +kernel
theorem dX1_sizeOf_0 : decode cX1_sizeOf 0 = .ok (.lload_n 0, 1) := by decide +kernel
theorem dX1_sizeOf_1 : decode cX1_sizeOf 1 = .ok (.lconst 0, 1) := by decide +kernel
theorem dX1_sizeOf_2 : decode cX1_sizeOf 2 = .ok (.lcmp, 1) := by decide +kernel
theorem dX1_sizeOf_3 : decode cX1_sizeOf 3 = .ok (.ifCond .ge 8, 3) := by decide +kernel
theorem dX1_sizeOf_6 : decode cX1_sizeOf 6 = .ok (.lload_n 0, 1) := by decide +kernel
theorem dX1_sizeOf_7 : decode cX1_sizeOf 7 = .ok (.lneg, 1) := by decide +kernel
theorem dX1_sizeOf_8 : decode cX1_sizeOf 8 = .ok (.goto 4, 3) := by decide +kernel
theorem dX1_sizeOf_11 : decode cX1_sizeOf 11 = .ok (.lload_n 0, 1) := by decide +kernel
theorem dX1_sizeOf_12 : decode cX1_sizeOf 12 = .ok (.lreturn, 1) := by decide +kernel
set_option maxRecDepth 20000 in
theorem ggX1_divisor_X1_sizeOf : GoodIn wsX1_divisor wsX1_sizeOf := goodIn_r _ [4] (by decide +kernel) (by decide +kernel)
set_option maxRecDepth 20000 in
theorem gX1_divisor_X1_sizeOf : GoodIn wsX1_divisor (va_wsS RX1 46 yX1_sizeOf wsX1_sizeOf) := goodIn_app (goodIn_of _ (by decide +kernel)) ggX1_divisor_X1_sizeOf
theorem dX1_divisor_0 : decode cX1_divisor 0 = .ok (.lload_n 0, 1) := by decide +kernel
theorem dX1_divisor_1 : decode cX1_divisor 1 = .ok (.invokestatic 46, 3) := by decide +kernel
theorem dX1_divisor_4 : decode cX1_divisor 4 = .ok (.lstore 4, 2) := by decide +kernel
theorem dX1_divisor_6 : decode cX1_divisor 6 = .ok (.lload_n 2, 1) := by decide +kernel
theorem dX1_divisor_7 : decode cX1_divisor 7 = .ok (.invokestatic 46, 3) := by decide +kernel
theorem dX1_divisor_10 : decode cX1_divisor 10 = .ok (.lstore 6, 2) := by decide +kernel
theorem dX1_divisor_12 : decode cX1_divisor 12 = .ok (.lload 6, 2) := by decide +kernel
theorem dX1_divisor_14 : decode cX1_divisor 14 = .ok (.lconst 0, 1) := by decide +kernel
theorem dX1_divisor_15 : decode cX1_divisor 15 = .ok (.lcmp, 1) := by decide +kernel
theorem dX1_divisor_16 : decode cX1_divisor 16 = .ok (.ifCond .eq 21, 3) := by decide +kernel
theorem dX1_divisor_19 : decode cX1_divisor 19 = .ok (.lload 4, 2) := by decide +kernel
theorem dX1_divisor_21 : decode cX1_divisor 21 = .ok (.lload 6, 2) := by decide +kernel
theorem dX1_divisor_23 : decode cX1_divisor 23 = .ok (.lrem, 1) := by decide +kernel
theorem dX1_divisor_24 : decode cX1_divisor 24 = .ok (.lstore 8, 2) := by decide +kernel
theorem dX1_divisor_26 : decode cX1_divisor 26 = .ok (.lload 6, 2) := by decide +kernel
theorem dX1_divisor_28 : decode cX1_divisor 28 = .ok (.lstore 4, 2) := by decide +kernel
theorem dX1_divisor_30 : decode cX1_divisor 30 = .ok (.lload 8, 2) := by decide +kernel
theorem dX1_divisor_32 : decode cX1_divisor 32 = .ok (.lstore 6, 2) := by decide +kernel
theorem dX1_divisor_34 : decode cX1_divisor 34 = .ok (.goto (-22), 3) := by decide +kernel
theorem dX1_divisor_37 : decode cX1_divisor 37 = .ok (.lload 4, 2) := by decide +kernel
theorem dX1_divisor_39 : decode cX1_divisor 39 = .ok (.lreturn, 1) := by decide +kernel
set_option maxRecDepth 20000 in
theorem ggX1_times_X1_sizeOf : GoodIn wsX1_times wsX1_sizeOf := goodIn_r _ [6] (by decide +kernel) (by decide +kernel)
set_option maxRecDepth 20000 in
theorem gX1_times_X1_sizeOf : GoodIn wsX1_times (va_wsS RX1 46 yX1_sizeOf wsX1_sizeOf) := goodIn_app (goodIn_of _ (by decide +kernel)) ggX1_times_X1_sizeOf
theorem dX1_times_0 : decode cX1_times 0 = .ok (.lload_n 1, 1) := by decide +kernel
theorem dX1_times_1 : decode cX1_times 1 = .ok (.lconst 0, 1) := by decide +kernel
theorem dX1_times_2 : decode cX1_times 2 = .ok (.lcmp, 1) := by decide +kernel
theorem dX1_times_3 : decode cX1_times 3 = .ok (.ifCond .eq 9, 3) := by decide +kernel
theorem dX1_times_6 : decode cX1_times 6 = .ok (.lload_n 3, 1) := by decide +kernel
theorem dX1_times_7 : decode cX1_times 7 = .ok (.lconst 0, 1) := by decide +kernel
theorem dX1_times_8 : decode cX1_times 8 = .ok (.lcmp, 1) := by decide +kernel
theorem dX1_times_9 : decode cX1_times 9 = .ok (.ifCond .ne 5, 3) := by decide +kernel
theorem dX1_times_12 : decode cX1_times 12 = .ok (.lconst 0, 1) := by decide +kernel
theorem dX1_times_13 : decode cX1_times 13 = .ok (.lreturn, 1) := by decide +kernel
theorem dX1_times_14 : decode cX1_times 14 = .ok (.lload_n 1, 1) := by decide +kernel
theorem dX1_times_15 : decode cX1_times 15 = .ok (.invokestatic 46, 3) := by decide +kernel
theorem dX1_times_18 : decode cX1_times 18 = .ok (.ldc2_w 50, 3) := by decide +kernel
theorem dX1_times_21 : decode cX1_times 21 = .ok (.lload_n 3, 1) := by decide +kernel
theorem dX1_times_22 : decode cX1_times 22 = .ok (.invokestatic 46, 3) := by decide +kernel
theorem dX1_times_25 : decode cX1_times 25 = .ok (.ldiv, 1) := by decide +kernel
theorem dX1_times_26 : decode cX1_times 26 = .ok (.lcmp, 1) := by decide +kernel
theorem dX1_times_27 : decode cX1_times 27 = .ok (.ifCond .le 10, 3) := by decide +kernel
theorem dX1_times_30 : decode cX1_times 30 = .ok (.aload_n 0, 1) := by decide +kernel
theorem dX1_times_31 : decode cX1_times 31 = .ok (.iconst 1, 1) := by decide +kernel
theorem dX1_times_32 : decode cX1_times 32 = .ok (.putfield 39, 3) := by decide +kernel
theorem dX1_times_35 : decode cX1_times 35 = .ok (.lconst 0, 1) := by decide +kernel
theorem dX1_times_36 : decode cX1_times 36 = .ok (.lreturn, 1) := by decide +kernel
theorem dX1_times_37 : decode cX1_times 37 = .ok (.lload_n 1, 1) := by decide +kernel
theorem dX1_times_38 : decode cX1_times 38 = .ok (.lload_n 3, 1) := by decide +kernel
theorem dX1_times_39 : decode cX1_times 39 = .ok (.lmul, 1) := by decide +kernel
theorem dX1_times_40 : decode cX1_times 40 = .ok (.lreturn, 1) := by decide +kernel
theorem dX1_plus_0 : decode cX1_plus 0 = .ok (.lload_n 1, 1) := by decide +kernel
theorem dX1_plus_1 : decode cX1_plus 1 = .ok (.lconst 0, 1) := by decide +kernel
theorem dX1_plus_2 : decode cX1_plus 2 = .ok (.lcmp, 1) := by decide +kernel
theorem dX1_plus_3 : decode cX1_plus 3 = .ok (.ifCond .le 13, 3) := by decide +kernel
theorem dX1_plus_6 : decode cX1_plus 6 = .ok (.lload_n 3, 1) := by decide +kernel
theorem dX1_plus_7 : decode cX1_plus 7 = .ok (.ldc2_w 50, 3) := by decide +kernel
theorem dX1_plus_10 : decode cX1_plus 10 = .ok (.lload_n 1, 1) := by decide +kernel
theorem dX1_plus_11 : decode cX1_plus 11 = .ok (.lsub, 1) := by decide +kernel
theorem dX1_plus_12 : decode cX1_plus 12 = .ok (.lcmp, 1) := by decide +kernel
theorem dX1_plus_13 : decode cX1_plus 13 = .ok (.ifCond .gt 19, 3) := by decide +kernel
theorem dX1_plus_16 : decode cX1_plus 16 = .ok (.lload_n 1, 1) := by decide +kernel
theorem dX1_plus_17 : decode cX1_plus 17 = .ok (.lconst 0, 1) := by decide +kernel
theorem dX1_plus_18 : decode cX1_plus 18 = .ok (.lcmp, 1) := by decide +kernel
theorem dX1_plus_19 : decode cX1_plus 19 = .ok (.ifCond .ge 20, 3) := by decide +kernel
theorem dX1_plus_22 : decode cX1_plus 22 = .ok (.lload_n 3, 1) := by decide +kernel
theorem dX1_plus_23 : decode cX1_plus 23 = .ok (.ldc2_w 52, 3) := by decide +kernel
theorem dX1_plus_26 : decode cX1_plus 26 = .ok (.lload_n 1, 1) := by decide +kernel
theorem dX1_plus_27 : decode cX1_plus 27 = .ok (.lsub, 1) := by decide +kernel
theorem dX1_plus_28 : decode cX1_plus 28 = .ok (.lcmp, 1) := by decide +kernel
theorem dX1_plus_29 : decode cX1_plus 29 = .ok (.ifCond .ge 10, 3) := by decide +kernel
theorem dX1_plus_32 : decode cX1_plus 32 = .ok (.aload_n 0, 1) := by decide +kernel
theorem dX1_plus_33 : decode cX1_plus 33 = .ok (.iconst 1, 1) := by decide +kernel
theorem dX1_plus_34 : decode cX1_plus 34 = .ok (.putfield 39, 3) := by decide +kernel
theorem dX1_plus_37 : decode cX1_plus 37 = .ok (.lconst 0, 1) := by decide +kernel
theorem dX1_plus_38 : decode cX1_plus 38 = .ok (.lreturn, 1) := by decide +kernel
theorem dX1_plus_39 : decode cX1_plus 39 = .ok (.lload_n 1, 1) := by decide +kernel
theorem dX1_plus_40 : decode cX1_plus 40 = .ok (.lload_n 3, 1) := by decide +kernel
theorem dX1_plus_41 : decode cX1_plus 41 = .ok (.ladd, 1) := by decide +kernel
theorem dX1_plus_42 : decode cX1_plus 42 = .ok (.lreturn, 1) := by decide +kernel
theorem dX1_compared_0 : decode cX1_compared 0 = .ok (.iconst 0, 1) := by decide +kernel
theorem dX1_compared_1 : decode cX1_compared 1 = .ok (.istore 9, 2) := by decide +kernel
theorem dX1_compared_3 : decode cX1_compared 3 = .ok (.iload 9, 2) := by decide +kernel
theorem dX1_compared_5 : decode cX1_compared 5 = .ok (.bipush 7, 2) := by decide +kernel
theorem dX1_compared_7 : decode cX1_compared 7 = .ok (.if_icmp .ge 25, 3) := by decide +kernel
theorem dX1_compared_10 : decode cX1_compared 10 = .ok (.aload_n 0, 1) := by decide +kernel
theorem dX1_compared_11 : decode cX1_compared 11 = .ok (.getfield 33, 3) := by decide +kernel
theorem dX1_compared_14 : decode cX1_compared 14 = .ok (.iload 9, 2) := by decide +kernel
theorem dX1_compared_16 : decode cX1_compared 16 = .ok (.lconst 0, 1) := by decide +kernel
theorem dX1_compared_17 : decode cX1_compared 17 = .ok (.lastore, 1) := by decide +kernel
theorem dX1_compared_18 : decode cX1_compared 18 = .ok (.aload_n 0, 1) := by decide +kernel
theorem dX1_compared_19 : decode cX1_compared 19 = .ok (.getfield 36, 3) := by decide +kernel
theorem dX1_compared_22 : decode cX1_compared 22 = .ok (.iload 9, 2) := by decide +kernel
theorem dX1_compared_24 : decode cX1_compared 24 = .ok (.lconst 0, 1) := by decide +kernel
theorem dX1_compared_25 : decode cX1_compared 25 = .ok (.lastore, 1) := by decide +kernel
theorem dX1_compared_26 : decode cX1_compared 26 = .ok (.iinc 9 1, 3) := by decide +kernel
theorem dX1_compared_29 : decode cX1_compared 29 = .ok (.goto (-26), 3) := by decide +kernel
theorem dX1_compared_32 : decode cX1_compared 32 = .ok (.iconst 0, 1) := by decide +kernel
theorem dX1_compared_33 : decode cX1_compared 33 = .ok (.istore 9, 2) := by decide +kernel
theorem dX1_compared_35 : decode cX1_compared 35 = .ok (.iload 9, 2) := by decide +kernel
theorem dX1_compared_37 : decode cX1_compared 37 = .ok (.iconst 3, 1) := by decide +kernel
theorem dX1_compared_38 : decode cX1_compared 38 = .ok (.if_icmp .ge 98, 3) := by decide +kernel
theorem dX1_compared_41 : decode cX1_compared 41 = .ok (.iconst 0, 1) := by decide +kernel
theorem dX1_compared_42 : decode cX1_compared 42 = .ok (.istore 10, 2) := by decide +kernel
theorem dX1_compared_44 : decode cX1_compared 44 = .ok (.iload 10, 2) := by decide +kernel
theorem dX1_compared_46 : decode cX1_compared 46 = .ok (.iconst 3, 1) := by decide +kernel
theorem dX1_compared_47 : decode cX1_compared 47 = .ok (.if_icmp .ge 83, 3) := by decide +kernel
theorem dX1_compared_50 : decode cX1_compared 50 = .ok (.aload_n 0, 1) := by decide +kernel
theorem dX1_compared_51 : decode cX1_compared 51 = .ok (.getfield 33, 3) := by decide +kernel
theorem dX1_compared_54 : decode cX1_compared 54 = .ok (.iload 9, 2) := by decide +kernel
theorem dX1_compared_56 : decode cX1_compared 56 = .ok (.iload 10, 2) := by decide +kernel
theorem dX1_compared_58 : decode cX1_compared 58 = .ok (.iadd, 1) := by decide +kernel
theorem dX1_compared_59 : decode cX1_compared 59 = .ok (.dup2, 1) := by decide +kernel
theorem dX1_compared_60 : decode cX1_compared 60 = .ok (.laload, 1) := by decide +kernel
theorem dX1_compared_61 : decode cX1_compared 61 = .ok (.lload_n 1, 1) := by decide +kernel
theorem dX1_compared_62 : decode cX1_compared 62 = .ok (.bipush 21, 2) := by decide +kernel
theorem dX1_compared_64 : decode cX1_compared 64 = .ok (.iload 9, 2) := by decide +kernel
theorem dX1_compared_66 : decode cX1_compared 66 = .ok (.imul, 1) := by decide +kernel
theorem dX1_compared_67 : decode cX1_compared 67 = .ok (.lshr, 1) := by decide +kernel
theorem dX1_compared_68 : decode cX1_compared 68 = .ok (.ldc2_w 54, 3) := by decide +kernel
theorem dX1_compared_71 : decode cX1_compared 71 = .ok (.land, 1) := by decide +kernel
theorem dX1_compared_72 : decode cX1_compared 72 = .ok (.lload_n 3, 1) := by decide +kernel
theorem dX1_compared_73 : decode cX1_compared 73 = .ok (.bipush 21, 2) := by decide +kernel
theorem dX1_compared_75 : decode cX1_compared 75 = .ok (.iload 10, 2) := by decide +kernel
theorem dX1_compared_77 : decode cX1_compared 77 = .ok (.imul, 1) := by decide +kernel
theorem dX1_compared_78 : decode cX1_compared 78 = .ok (.lshr, 1) := by decide +kernel
theorem dX1_compared_79 : decode cX1_compared 79 = .ok (.ldc2_w 54, 3) := by decide +kernel
theorem dX1_compared_82 : decode cX1_compared 82 = .ok (.land, 1) := by decide +kernel
theorem dX1_compared_83 : decode cX1_compared 83 = .ok (.lmul, 1) := by decide +kernel
theorem dX1_compared_84 : decode cX1_compared 84 = .ok (.ladd, 1) := by decide +kernel
theorem dX1_compared_85 : decode cX1_compared 85 = .ok (.lastore, 1) := by decide +kernel
theorem dX1_compared_86 : decode cX1_compared 86 = .ok (.aload_n 0, 1) := by decide +kernel
theorem dX1_compared_87 : decode cX1_compared 87 = .ok (.getfield 36, 3) := by decide +kernel
theorem dX1_compared_90 : decode cX1_compared 90 = .ok (.iload 9, 2) := by decide +kernel
theorem dX1_compared_92 : decode cX1_compared 92 = .ok (.iload 10, 2) := by decide +kernel
theorem dX1_compared_94 : decode cX1_compared 94 = .ok (.iadd, 1) := by decide +kernel
theorem dX1_compared_95 : decode cX1_compared 95 = .ok (.dup2, 1) := by decide +kernel
theorem dX1_compared_96 : decode cX1_compared 96 = .ok (.laload, 1) := by decide +kernel
theorem dX1_compared_97 : decode cX1_compared 97 = .ok (.lload 5, 2) := by decide +kernel
theorem dX1_compared_99 : decode cX1_compared 99 = .ok (.bipush 21, 2) := by decide +kernel
theorem dX1_compared_101 : decode cX1_compared 101 = .ok (.iload 9, 2) := by decide +kernel
theorem dX1_compared_103 : decode cX1_compared 103 = .ok (.imul, 1) := by decide +kernel
theorem dX1_compared_104 : decode cX1_compared 104 = .ok (.lshr, 1) := by decide +kernel
theorem dX1_compared_105 : decode cX1_compared 105 = .ok (.ldc2_w 54, 3) := by decide +kernel
theorem dX1_compared_108 : decode cX1_compared 108 = .ok (.land, 1) := by decide +kernel
theorem dX1_compared_109 : decode cX1_compared 109 = .ok (.lload 7, 2) := by decide +kernel
theorem dX1_compared_111 : decode cX1_compared 111 = .ok (.bipush 21, 2) := by decide +kernel
theorem dX1_compared_113 : decode cX1_compared 113 = .ok (.iload 10, 2) := by decide +kernel
theorem dX1_compared_115 : decode cX1_compared 115 = .ok (.imul, 1) := by decide +kernel
theorem dX1_compared_116 : decode cX1_compared 116 = .ok (.lshr, 1) := by decide +kernel
theorem dX1_compared_117 : decode cX1_compared 117 = .ok (.ldc2_w 54, 3) := by decide +kernel
theorem dX1_compared_120 : decode cX1_compared 120 = .ok (.land, 1) := by decide +kernel
theorem dX1_compared_121 : decode cX1_compared 121 = .ok (.lmul, 1) := by decide +kernel
theorem dX1_compared_122 : decode cX1_compared 122 = .ok (.ladd, 1) := by decide +kernel
theorem dX1_compared_123 : decode cX1_compared 123 = .ok (.lastore, 1) := by decide +kernel
theorem dX1_compared_124 : decode cX1_compared 124 = .ok (.iinc 10 1, 3) := by decide +kernel
theorem dX1_compared_127 : decode cX1_compared 127 = .ok (.goto (-83), 3) := by decide +kernel
theorem dX1_compared_130 : decode cX1_compared 130 = .ok (.iinc 9 1, 3) := by decide +kernel
theorem dX1_compared_133 : decode cX1_compared 133 = .ok (.goto (-98), 3) := by decide +kernel
theorem dX1_compared_136 : decode cX1_compared 136 = .ok (.iconst 0, 1) := by decide +kernel
theorem dX1_compared_137 : decode cX1_compared 137 = .ok (.istore 9, 2) := by decide +kernel
theorem dX1_compared_139 : decode cX1_compared 139 = .ok (.iload 9, 2) := by decide +kernel
theorem dX1_compared_141 : decode cX1_compared 141 = .ok (.bipush 6, 2) := by decide +kernel
theorem dX1_compared_143 : decode cX1_compared 143 = .ok (.if_icmp .ge 79, 3) := by decide +kernel
theorem dX1_compared_146 : decode cX1_compared 146 = .ok (.aload_n 0, 1) := by decide +kernel
theorem dX1_compared_147 : decode cX1_compared 147 = .ok (.getfield 33, 3) := by decide +kernel
theorem dX1_compared_150 : decode cX1_compared 150 = .ok (.iload 9, 2) := by decide +kernel
theorem dX1_compared_152 : decode cX1_compared 152 = .ok (.iconst 1, 1) := by decide +kernel
theorem dX1_compared_153 : decode cX1_compared 153 = .ok (.iadd, 1) := by decide +kernel
theorem dX1_compared_154 : decode cX1_compared 154 = .ok (.dup2, 1) := by decide +kernel
theorem dX1_compared_155 : decode cX1_compared 155 = .ok (.laload, 1) := by decide +kernel
theorem dX1_compared_156 : decode cX1_compared 156 = .ok (.aload_n 0, 1) := by decide +kernel
theorem dX1_compared_157 : decode cX1_compared 157 = .ok (.getfield 33, 3) := by decide +kernel
theorem dX1_compared_160 : decode cX1_compared 160 = .ok (.iload 9, 2) := by decide +kernel
theorem dX1_compared_162 : decode cX1_compared 162 = .ok (.laload, 1) := by decide +kernel
theorem dX1_compared_163 : decode cX1_compared 163 = .ok (.bipush 21, 2) := by decide +kernel
theorem dX1_compared_165 : decode cX1_compared 165 = .ok (.lshr, 1) := by decide +kernel
theorem dX1_compared_166 : decode cX1_compared 166 = .ok (.ladd, 1) := by decide +kernel
theorem dX1_compared_167 : decode cX1_compared 167 = .ok (.lastore, 1) := by decide +kernel
theorem dX1_compared_168 : decode cX1_compared 168 = .ok (.aload_n 0, 1) := by decide +kernel
theorem dX1_compared_169 : decode cX1_compared 169 = .ok (.getfield 33, 3) := by decide +kernel
theorem dX1_compared_172 : decode cX1_compared 172 = .ok (.iload 9, 2) := by decide +kernel
theorem dX1_compared_174 : decode cX1_compared 174 = .ok (.dup2, 1) := by decide +kernel
theorem dX1_compared_175 : decode cX1_compared 175 = .ok (.laload, 1) := by decide +kernel
theorem dX1_compared_176 : decode cX1_compared 176 = .ok (.ldc2_w 54, 3) := by decide +kernel
theorem dX1_compared_179 : decode cX1_compared 179 = .ok (.land, 1) := by decide +kernel
theorem dX1_compared_180 : decode cX1_compared 180 = .ok (.lastore, 1) := by decide +kernel
theorem dX1_compared_181 : decode cX1_compared 181 = .ok (.aload_n 0, 1) := by decide +kernel
theorem dX1_compared_182 : decode cX1_compared 182 = .ok (.getfield 36, 3) := by decide +kernel
theorem dX1_compared_185 : decode cX1_compared 185 = .ok (.iload 9, 2) := by decide +kernel
theorem dX1_compared_187 : decode cX1_compared 187 = .ok (.iconst 1, 1) := by decide +kernel
theorem dX1_compared_188 : decode cX1_compared 188 = .ok (.iadd, 1) := by decide +kernel
theorem dX1_compared_189 : decode cX1_compared 189 = .ok (.dup2, 1) := by decide +kernel
theorem dX1_compared_190 : decode cX1_compared 190 = .ok (.laload, 1) := by decide +kernel
theorem dX1_compared_191 : decode cX1_compared 191 = .ok (.aload_n 0, 1) := by decide +kernel
theorem dX1_compared_192 : decode cX1_compared 192 = .ok (.getfield 36, 3) := by decide +kernel
theorem dX1_compared_195 : decode cX1_compared 195 = .ok (.iload 9, 2) := by decide +kernel
theorem dX1_compared_197 : decode cX1_compared 197 = .ok (.laload, 1) := by decide +kernel
theorem dX1_compared_198 : decode cX1_compared 198 = .ok (.bipush 21, 2) := by decide +kernel
theorem dX1_compared_200 : decode cX1_compared 200 = .ok (.lshr, 1) := by decide +kernel
theorem dX1_compared_201 : decode cX1_compared 201 = .ok (.ladd, 1) := by decide +kernel
theorem dX1_compared_202 : decode cX1_compared 202 = .ok (.lastore, 1) := by decide +kernel
theorem dX1_compared_203 : decode cX1_compared 203 = .ok (.aload_n 0, 1) := by decide +kernel
theorem dX1_compared_204 : decode cX1_compared 204 = .ok (.getfield 36, 3) := by decide +kernel
theorem dX1_compared_207 : decode cX1_compared 207 = .ok (.iload 9, 2) := by decide +kernel
theorem dX1_compared_209 : decode cX1_compared 209 = .ok (.dup2, 1) := by decide +kernel
theorem dX1_compared_210 : decode cX1_compared 210 = .ok (.laload, 1) := by decide +kernel
theorem dX1_compared_211 : decode cX1_compared 211 = .ok (.ldc2_w 54, 3) := by decide +kernel
theorem dX1_compared_214 : decode cX1_compared 214 = .ok (.land, 1) := by decide +kernel
theorem dX1_compared_215 : decode cX1_compared 215 = .ok (.lastore, 1) := by decide +kernel
theorem dX1_compared_216 : decode cX1_compared 216 = .ok (.iinc 9 1, 3) := by decide +kernel
theorem dX1_compared_219 : decode cX1_compared 219 = .ok (.goto (-80), 3) := by decide +kernel
theorem dX1_compared_222 : decode cX1_compared 222 = .ok (.bipush 6, 2) := by decide +kernel
theorem dX1_compared_224 : decode cX1_compared 224 = .ok (.istore 9, 2) := by decide +kernel
theorem dX1_compared_226 : decode cX1_compared 226 = .ok (.iload 9, 2) := by decide +kernel
theorem dX1_compared_228 : decode cX1_compared 228 = .ok (.ifCond .le 27, 3) := by decide +kernel
theorem dX1_compared_231 : decode cX1_compared 231 = .ok (.aload_n 0, 1) := by decide +kernel
theorem dX1_compared_232 : decode cX1_compared 232 = .ok (.getfield 33, 3) := by decide +kernel
theorem dX1_compared_235 : decode cX1_compared 235 = .ok (.iload 9, 2) := by decide +kernel
theorem dX1_compared_237 : decode cX1_compared 237 = .ok (.laload, 1) := by decide +kernel
theorem dX1_compared_238 : decode cX1_compared 238 = .ok (.aload_n 0, 1) := by decide +kernel
theorem dX1_compared_239 : decode cX1_compared 239 = .ok (.getfield 36, 3) := by decide +kernel
theorem dX1_compared_242 : decode cX1_compared 242 = .ok (.iload 9, 2) := by decide +kernel
theorem dX1_compared_244 : decode cX1_compared 244 = .ok (.laload, 1) := by decide +kernel
theorem dX1_compared_245 : decode cX1_compared 245 = .ok (.lcmp, 1) := by decide +kernel
theorem dX1_compared_246 : decode cX1_compared 246 = .ok (.ifCond .ne 9, 3) := by decide +kernel
theorem dX1_compared_249 : decode cX1_compared 249 = .ok (.iinc 9 (-1), 3) := by decide +kernel
theorem dX1_compared_252 : decode cX1_compared 252 = .ok (.goto (-26), 3) := by decide +kernel
theorem dX1_compared_255 : decode cX1_compared 255 = .ok (.aload_n 0, 1) := by decide +kernel
theorem dX1_compared_256 : decode cX1_compared 256 = .ok (.getfield 33, 3) := by decide +kernel
theorem dX1_compared_259 : decode cX1_compared 259 = .ok (.iload 9, 2) := by decide +kernel
theorem dX1_compared_261 : decode cX1_compared 261 = .ok (.laload, 1) := by decide +kernel
theorem dX1_compared_262 : decode cX1_compared 262 = .ok (.aload_n 0, 1) := by decide +kernel
theorem dX1_compared_263 : decode cX1_compared 263 = .ok (.getfield 36, 3) := by decide +kernel
theorem dX1_compared_266 : decode cX1_compared 266 = .ok (.iload 9, 2) := by decide +kernel
theorem dX1_compared_268 : decode cX1_compared 268 = .ok (.laload, 1) := by decide +kernel
theorem dX1_compared_269 : decode cX1_compared 269 = .ok (.lcmp, 1) := by decide +kernel
theorem dX1_compared_270 : decode cX1_compared 270 = .ok (.ifCond .ge 7, 3) := by decide +kernel
theorem dX1_compared_273 : decode cX1_compared 273 = .ok (.iconst (-1), 1) := by decide +kernel
theorem dX1_compared_274 : decode cX1_compared 274 = .ok (.goto 26, 3) := by decide +kernel
theorem dX1_compared_277 : decode cX1_compared 277 = .ok (.aload_n 0, 1) := by decide +kernel
theorem dX1_compared_278 : decode cX1_compared 278 = .ok (.getfield 33, 3) := by decide +kernel
theorem dX1_compared_281 : decode cX1_compared 281 = .ok (.iload 9, 2) := by decide +kernel
theorem dX1_compared_283 : decode cX1_compared 283 = .ok (.laload, 1) := by decide +kernel
theorem dX1_compared_284 : decode cX1_compared 284 = .ok (.aload_n 0, 1) := by decide +kernel
theorem dX1_compared_285 : decode cX1_compared 285 = .ok (.getfield 36, 3) := by decide +kernel
theorem dX1_compared_288 : decode cX1_compared 288 = .ok (.iload 9, 2) := by decide +kernel
theorem dX1_compared_290 : decode cX1_compared 290 = .ok (.laload, 1) := by decide +kernel
theorem dX1_compared_291 : decode cX1_compared 291 = .ok (.lcmp, 1) := by decide +kernel
theorem dX1_compared_292 : decode cX1_compared 292 = .ok (.ifCond .le 7, 3) := by decide +kernel
theorem dX1_compared_295 : decode cX1_compared 295 = .ok (.iconst 1, 1) := by decide +kernel
theorem dX1_compared_296 : decode cX1_compared 296 = .ok (.goto 4, 3) := by decide +kernel
theorem dX1_compared_299 : decode cX1_compared 299 = .ok (.iconst 0, 1) := by decide +kernel
theorem dX1_compared_300 : decode cX1_compared 300 = .ok (.ireturn, 1) := by decide +kernel
theorem dX1_floor_0 : decode cX1_floor 0 = .ok (.lload_n 0, 1) := by decide +kernel
theorem dX1_floor_1 : decode cX1_floor 1 = .ok (.lload_n 2, 1) := by decide +kernel
theorem dX1_floor_2 : decode cX1_floor 2 = .ok (.ldiv, 1) := by decide +kernel
theorem dX1_floor_3 : decode cX1_floor 3 = .ok (.lstore 4, 2) := by decide +kernel
theorem dX1_floor_5 : decode cX1_floor 5 = .ok (.lload_n 0, 1) := by decide +kernel
theorem dX1_floor_6 : decode cX1_floor 6 = .ok (.lload_n 2, 1) := by decide +kernel
theorem dX1_floor_7 : decode cX1_floor 7 = .ok (.lrem, 1) := by decide +kernel
theorem dX1_floor_8 : decode cX1_floor 8 = .ok (.lconst 0, 1) := by decide +kernel
theorem dX1_floor_9 : decode cX1_floor 9 = .ok (.lcmp, 1) := by decide +kernel
theorem dX1_floor_10 : decode cX1_floor 10 = .ok (.ifCond .ge 10, 3) := by decide +kernel
theorem dX1_floor_13 : decode cX1_floor 13 = .ok (.lload 4, 2) := by decide +kernel
theorem dX1_floor_15 : decode cX1_floor 15 = .ok (.lconst 1, 1) := by decide +kernel
theorem dX1_floor_16 : decode cX1_floor 16 = .ok (.lsub, 1) := by decide +kernel
theorem dX1_floor_17 : decode cX1_floor 17 = .ok (.goto 5, 3) := by decide +kernel
theorem dX1_floor_20 : decode cX1_floor 20 = .ok (.lload 4, 2) := by decide +kernel
theorem dX1_floor_22 : decode cX1_floor 22 = .ok (.lreturn, 1) := by decide +kernel
set_option maxRecDepth 20000 in
theorem ggX1_isNumber_X1_isIn : GoodIn wsX1_isNumber wsX1_isIn := goodIn_r _ [5] (by decide +kernel) (by decide +kernel)
set_option maxRecDepth 20000 in
theorem gX1_isNumber_X1_isIn : GoodIn wsX1_isNumber (va_wsS RX1 59 yX1_isIn wsX1_isIn) := goodIn_app (goodIn_of _ (by decide +kernel)) ggX1_isNumber_X1_isIn
theorem dX1_isNumber_0 : decode cX1_isNumber 0 = .ok (.iload_n 1, 1) := by decide +kernel
theorem dX1_isNumber_1 : decode cX1_isNumber 1 = .ok (.i2l, 1) := by decide +kernel
theorem dX1_isNumber_2 : decode cX1_isNumber 2 = .ok (.lconst 0, 1) := by decide +kernel
theorem dX1_isNumber_3 : decode cX1_isNumber 3 = .ok (.aload_n 0, 1) := by decide +kernel
theorem dX1_isNumber_4 : decode cX1_isNumber 4 = .ok (.getfield 56, 3) := by decide +kernel
theorem dX1_isNumber_7 : decode cX1_isNumber 7 = .ok (.iconst 1, 1) := by decide +kernel
theorem dX1_isNumber_8 : decode cX1_isNumber 8 = .ok (.isub, 1) := by decide +kernel
theorem dX1_isNumber_9 : decode cX1_isNumber 9 = .ok (.i2l, 1) := by decide +kernel
theorem dX1_isNumber_10 : decode cX1_isNumber 10 = .ok (.invokestatic 59, 3) := by decide +kernel
theorem dX1_isNumber_13 : decode cX1_isNumber 13 = .ok (.ireturn, 1) := by decide +kernel
set_option maxRecDepth 20000 in
theorem ggX1_kept_X1_divisor : GoodIn wsX1_kept wsX1_divisor := goodIn_r _ [8, 9, 10, 7, 11] (by decide +kernel) (by decide +kernel)
set_option maxRecDepth 20000 in
theorem gX1_kept_X1_divisor : GoodIn wsX1_kept (va_wsS RX1 63 yX1_divisor wsX1_divisor) := goodIn_app (goodIn_of _ (by decide +kernel)) ggX1_kept_X1_divisor
theorem dX1_kept_0 : decode cX1_kept 0 = .ok (.lload_n 1, 1) := by decide +kernel
theorem dX1_kept_1 : decode cX1_kept 1 = .ok (.lload_n 3, 1) := by decide +kernel
theorem dX1_kept_2 : decode cX1_kept 2 = .ok (.invokestatic 63, 3) := by decide +kernel
theorem dX1_kept_5 : decode cX1_kept 5 = .ok (.lstore 5, 2) := by decide +kernel
theorem dX1_kept_7 : decode cX1_kept 7 = .ok (.lload_n 3, 1) := by decide +kernel
theorem dX1_kept_8 : decode cX1_kept 8 = .ok (.lconst 0, 1) := by decide +kernel
theorem dX1_kept_9 : decode cX1_kept 9 = .ok (.lcmp, 1) := by decide +kernel
theorem dX1_kept_10 : decode cX1_kept 10 = .ok (.ifCond .ge 9, 3) := by decide +kernel
theorem dX1_kept_13 : decode cX1_kept 13 = .ok (.ldc2_w 67, 3) := by decide +kernel
theorem dX1_kept_16 : decode cX1_kept 16 = .ok (.goto 4, 3) := by decide +kernel
theorem dX1_kept_19 : decode cX1_kept 19 = .ok (.lconst 1, 1) := by decide +kernel
theorem dX1_kept_20 : decode cX1_kept 20 = .ok (.lstore 7, 2) := by decide +kernel
theorem dX1_kept_22 : decode cX1_kept 22 = .ok (.aload_n 0, 1) := by decide +kernel
theorem dX1_kept_23 : decode cX1_kept 23 = .ok (.getfield 7, 3) := by decide +kernel
theorem dX1_kept_26 : decode cX1_kept 26 = .ok (.aload_n 0, 1) := by decide +kernel
theorem dX1_kept_27 : decode cX1_kept 27 = .ok (.getfield 56, 3) := by decide +kernel
theorem dX1_kept_30 : decode cX1_kept 30 = .ok (.lload 7, 2) := by decide +kernel
theorem dX1_kept_32 : decode cX1_kept 32 = .ok (.lload_n 1, 1) := by decide +kernel
theorem dX1_kept_33 : decode cX1_kept 33 = .ok (.lload 5, 2) := by decide +kernel
theorem dX1_kept_35 : decode cX1_kept 35 = .ok (.ldiv, 1) := by decide +kernel
theorem dX1_kept_36 : decode cX1_kept 36 = .ok (.lmul, 1) := by decide +kernel
theorem dX1_kept_37 : decode cX1_kept 37 = .ok (.lastore, 1) := by decide +kernel
theorem dX1_kept_38 : decode cX1_kept 38 = .ok (.aload_n 0, 1) := by decide +kernel
theorem dX1_kept_39 : decode cX1_kept 39 = .ok (.getfield 13, 3) := by decide +kernel
theorem dX1_kept_42 : decode cX1_kept 42 = .ok (.aload_n 0, 1) := by decide +kernel
theorem dX1_kept_43 : decode cX1_kept 43 = .ok (.getfield 56, 3) := by decide +kernel
theorem dX1_kept_46 : decode cX1_kept 46 = .ok (.lload 7, 2) := by decide +kernel
theorem dX1_kept_48 : decode cX1_kept 48 = .ok (.lload_n 3, 1) := by decide +kernel
theorem dX1_kept_49 : decode cX1_kept 49 = .ok (.lload 5, 2) := by decide +kernel
theorem dX1_kept_51 : decode cX1_kept 51 = .ok (.ldiv, 1) := by decide +kernel
theorem dX1_kept_52 : decode cX1_kept 52 = .ok (.lmul, 1) := by decide +kernel
theorem dX1_kept_53 : decode cX1_kept 53 = .ok (.lastore, 1) := by decide +kernel
theorem dX1_kept_54 : decode cX1_kept 54 = .ok (.aload_n 0, 1) := by decide +kernel
theorem dX1_kept_55 : decode cX1_kept 55 = .ok (.dup, 1) := by decide +kernel
theorem dX1_kept_56 : decode cX1_kept 56 = .ok (.getfield 56, 3) := by decide +kernel
theorem dX1_kept_59 : decode cX1_kept 59 = .ok (.iconst 1, 1) := by decide +kernel
theorem dX1_kept_60 : decode cX1_kept 60 = .ok (.iadd, 1) := by decide +kernel
theorem dX1_kept_61 : decode cX1_kept 61 = .ok (.putfield 56, 3) := by decide +kernel
theorem dX1_kept_64 : decode cX1_kept 64 = .ok (.aload_n 0, 1) := by decide +kernel
theorem dX1_kept_65 : decode cX1_kept 65 = .ok (.getfield 56, 3) := by decide +kernel
theorem dX1_kept_68 : decode cX1_kept 68 = .ok (.iconst 1, 1) := by decide +kernel
theorem dX1_kept_69 : decode cX1_kept 69 = .ok (.isub, 1) := by decide +kernel
theorem dX1_kept_70 : decode cX1_kept 70 = .ok (.ireturn, 1) := by decide +kernel
set_option maxRecDepth 20000 in
theorem ggX1_value_X1_kept : GoodIn wsX1_value wsX1_kept := goodIn_r _ [8, 9, 10, 3, 11, 12, 13, 7, 14, 15, 16, 17, 18, 19, 20, 21, 22, 23, 24, 25, 26, 27, 28, 29, 30, 31, 32, 33, 34] (by decide +kernel) (by decide +kernel)
set_option maxRecDepth 20000 in
theorem gX1_value_X1_kept : GoodIn wsX1_value (wsV RX1 71 RX1 yX1_kept wsX1_kept) := goodIn_app (goodIn_of _ (by decide +kernel)) ggX1_value_X1_kept
theorem dX1_value_0 : decode cX1_value 0 = .ok (.aload_n 0, 1) := by decide +kernel
theorem dX1_value_1 : decode cX1_value 1 = .ok (.iconst 0, 1) := by decide +kernel
theorem dX1_value_2 : decode cX1_value 2 = .ok (.putfield 43, 3) := by decide +kernel
theorem dX1_value_5 : decode cX1_value 5 = .ok (.lload_n 3, 1) := by decide +kernel
theorem dX1_value_6 : decode cX1_value 6 = .ok (.lconst 0, 1) := by decide +kernel
theorem dX1_value_7 : decode cX1_value 7 = .ok (.lcmp, 1) := by decide +kernel
theorem dX1_value_8 : decode cX1_value 8 = .ok (.ifCond .ne 6, 3) := by decide +kernel
theorem dX1_value_11 : decode cX1_value 11 = .ok (.bipush (-2), 2) := by decide +kernel
theorem dX1_value_13 : decode cX1_value 13 = .ok (.ireturn, 1) := by decide +kernel
theorem dX1_value_14 : decode cX1_value 14 = .ok (.lload_n 1, 1) := by decide +kernel
theorem dX1_value_15 : decode cX1_value 15 = .ok (.ldc2_w 69, 3) := by decide +kernel
theorem dX1_value_18 : decode cX1_value 18 = .ok (.lcmp, 1) := by decide +kernel
theorem dX1_value_19 : decode cX1_value 19 = .ok (.ifCond .eq 11, 3) := by decide +kernel
theorem dX1_value_22 : decode cX1_value 22 = .ok (.lload_n 3, 1) := by decide +kernel
theorem dX1_value_23 : decode cX1_value 23 = .ok (.ldc2_w 69, 3) := by decide +kernel
theorem dX1_value_26 : decode cX1_value 26 = .ok (.lcmp, 1) := by decide +kernel
theorem dX1_value_27 : decode cX1_value 27 = .ok (.ifCond .ne 6, 3) := by decide +kernel
theorem dX1_value_30 : decode cX1_value 30 = .ok (.bipush (-3), 2) := by decide +kernel
theorem dX1_value_32 : decode cX1_value 32 = .ok (.ireturn, 1) := by decide +kernel
theorem dX1_value_33 : decode cX1_value 33 = .ok (.aload_n 0, 1) := by decide +kernel
theorem dX1_value_34 : decode cX1_value 34 = .ok (.getfield 56, 3) := by decide +kernel
theorem dX1_value_37 : decode cX1_value 37 = .ok (.bipush 40, 2) := by decide +kernel
theorem dX1_value_39 : decode cX1_value 39 = .ok (.if_icmp .ne 8, 3) := by decide +kernel
theorem dX1_value_42 : decode cX1_value 42 = .ok (.bipush (-4), 2) := by decide +kernel
theorem dX1_value_44 : decode cX1_value 44 = .ok (.goto 9, 3) := by decide +kernel
theorem dX1_value_47 : decode cX1_value 47 = .ok (.aload_n 0, 1) := by decide +kernel
theorem dX1_value_48 : decode cX1_value 48 = .ok (.lload_n 1, 1) := by decide +kernel
theorem dX1_value_49 : decode cX1_value 49 = .ok (.lload_n 3, 1) := by decide +kernel
theorem dX1_value_50 : decode cX1_value 50 = .ok (.invokevirtual 71, 3) := by decide +kernel
theorem dX1_value_53 : decode cX1_value 53 = .ok (.ireturn, 1) := by decide +kernel
set_option maxRecDepth 20000 in
theorem ggX1_summed_X1_divisor : GoodIn wsX1_summed wsX1_divisor := goodIn_r _ [5, 6, 7, 4, 8] (by decide +kernel) (by decide +kernel)
set_option maxRecDepth 20000 in
theorem gX1_summed_X1_divisor : GoodIn wsX1_summed (va_wsS RX1 63 yX1_divisor wsX1_divisor) := goodIn_app (goodIn_of _ (by decide +kernel)) ggX1_summed_X1_divisor
set_option maxRecDepth 20000 in
theorem ggX1_summed_X1_times : GoodIn wsX1_summed wsX1_times := goodIn_r _ [12, 13, 1, 6, 7, 4, 8, 32, 33, 34, 35, 36, 37, 38, 39, 40, 41, 42, 43, 44, 45, 46, 47, 48] (by decide +kernel) (by decide +kernel)
set_option maxRecDepth 20000 in
theorem gX1_summed_X1_times : GoodIn wsX1_summed (wsV RX1 75 RX1 yX1_times wsX1_times) := goodIn_app (goodIn_of _ (by decide +kernel)) ggX1_summed_X1_times
set_option maxRecDepth 20000 in
theorem ggX1_summed_X1_plus : GoodIn wsX1_summed wsX1_plus := goodIn_r _ [17, 13, 18, 1, 32, 33, 34, 35, 36, 37, 38, 39, 40, 41, 42, 43, 44, 45, 46, 47, 48] (by decide +kernel) (by decide +kernel)
set_option maxRecDepth 20000 in
theorem gX1_summed_X1_plus : GoodIn wsX1_summed (wsV RX1 78 RX1 yX1_plus wsX1_plus) := goodIn_app (goodIn_of _ (by decide +kernel)) ggX1_summed_X1_plus
set_option maxRecDepth 20000 in
theorem ggX1_summed_X1_grew : GoodIn wsX1_summed wsX1_grew := goodIn_r _ [22, 23, 32, 33, 34, 35, 36, 37, 38, 39, 40, 41, 42, 43, 44, 45, 46, 47, 48] (by decide +kernel) (by decide +kernel)
set_option maxRecDepth 20000 in
theorem gX1_summed_X1_grew : GoodIn wsX1_summed (wsV RX1 81 RX1 yX1_grew wsX1_grew) := goodIn_app (goodIn_of _ (by decide +kernel)) ggX1_summed_X1_grew
set_option maxRecDepth 20000 in
theorem ggX1_summed_X1_kept : GoodIn wsX1_summed wsX1_kept := goodIn_r _ [27, 28, 29, 30, 31, 2, 3, 4, 5, 6, 7, 8, 32, 33, 34, 35, 36, 37, 38, 39, 40, 41, 42, 43, 44, 45, 46, 47, 48] (by decide +kernel) (by decide +kernel)
set_option maxRecDepth 20000 in
theorem gX1_summed_X1_kept : GoodIn wsX1_summed (wsV RX1 71 RX1 yX1_kept wsX1_kept) := goodIn_app (goodIn_of _ (by decide +kernel)) ggX1_summed_X1_kept
theorem dX1_summed_0 : decode cX1_summed 0 = .ok (.lload_n 3, 1) := by decide +kernel
theorem dX1_summed_1 : decode cX1_summed 1 = .ok (.lload 7, 2) := by decide +kernel
theorem dX1_summed_3 : decode cX1_summed 3 = .ok (.invokestatic 63, 3) := by decide +kernel
theorem dX1_summed_6 : decode cX1_summed 6 = .ok (.lstore 9, 2) := by decide +kernel
theorem dX1_summed_8 : decode cX1_summed 8 = .ok (.aload_n 0, 1) := by decide +kernel
theorem dX1_summed_9 : decode cX1_summed 9 = .ok (.lload_n 1, 1) := by decide +kernel
theorem dX1_summed_10 : decode cX1_summed 10 = .ok (.lload 7, 2) := by decide +kernel
theorem dX1_summed_12 : decode cX1_summed 12 = .ok (.lload 9, 2) := by decide +kernel
theorem dX1_summed_14 : decode cX1_summed 14 = .ok (.ldiv, 1) := by decide +kernel
theorem dX1_summed_15 : decode cX1_summed 15 = .ok (.invokevirtual 75, 3) := by decide +kernel
theorem dX1_summed_18 : decode cX1_summed 18 = .ok (.lstore 11, 2) := by decide +kernel
theorem dX1_summed_20 : decode cX1_summed 20 = .ok (.aload_n 0, 1) := by decide +kernel
theorem dX1_summed_21 : decode cX1_summed 21 = .ok (.lload 5, 2) := by decide +kernel
theorem dX1_summed_23 : decode cX1_summed 23 = .ok (.lload_n 3, 1) := by decide +kernel
theorem dX1_summed_24 : decode cX1_summed 24 = .ok (.lload 9, 2) := by decide +kernel
theorem dX1_summed_26 : decode cX1_summed 26 = .ok (.ldiv, 1) := by decide +kernel
theorem dX1_summed_27 : decode cX1_summed 27 = .ok (.invokevirtual 75, 3) := by decide +kernel
theorem dX1_summed_30 : decode cX1_summed 30 = .ok (.lstore 13, 2) := by decide +kernel
theorem dX1_summed_32 : decode cX1_summed 32 = .ok (.aload_n 0, 1) := by decide +kernel
theorem dX1_summed_33 : decode cX1_summed 33 = .ok (.lload 11, 2) := by decide +kernel
theorem dX1_summed_35 : decode cX1_summed 35 = .ok (.lload 13, 2) := by decide +kernel
theorem dX1_summed_37 : decode cX1_summed 37 = .ok (.invokevirtual 78, 3) := by decide +kernel
theorem dX1_summed_40 : decode cX1_summed 40 = .ok (.lstore 15, 2) := by decide +kernel
theorem dX1_summed_42 : decode cX1_summed 42 = .ok (.aload_n 0, 1) := by decide +kernel
theorem dX1_summed_43 : decode cX1_summed 43 = .ok (.lload_n 3, 1) := by decide +kernel
theorem dX1_summed_44 : decode cX1_summed 44 = .ok (.lload 7, 2) := by decide +kernel
theorem dX1_summed_46 : decode cX1_summed 46 = .ok (.lload 9, 2) := by decide +kernel
theorem dX1_summed_48 : decode cX1_summed 48 = .ok (.ldiv, 1) := by decide +kernel
theorem dX1_summed_49 : decode cX1_summed 49 = .ok (.invokevirtual 75, 3) := by decide +kernel
theorem dX1_summed_52 : decode cX1_summed 52 = .ok (.lstore 17, 2) := by decide +kernel
theorem dX1_summed_54 : decode cX1_summed 54 = .ok (.aload_n 0, 1) := by decide +kernel
theorem dX1_summed_55 : decode cX1_summed 55 = .ok (.getfield 39, 3) := by decide +kernel
theorem dX1_summed_58 : decode cX1_summed 58 = .ok (.ifCond .eq 10, 3) := by decide +kernel
theorem dX1_summed_61 : decode cX1_summed 61 = .ok (.aload_n 0, 1) := by decide +kernel
theorem dX1_summed_62 : decode cX1_summed 62 = .ok (.invokevirtual 81, 3) := by decide +kernel
theorem dX1_summed_65 : decode cX1_summed 65 = .ok (.goto 11, 3) := by decide +kernel
theorem dX1_summed_68 : decode cX1_summed 68 = .ok (.aload_n 0, 1) := by decide +kernel
theorem dX1_summed_69 : decode cX1_summed 69 = .ok (.lload 15, 2) := by decide +kernel
theorem dX1_summed_71 : decode cX1_summed 71 = .ok (.lload 17, 2) := by decide +kernel
theorem dX1_summed_73 : decode cX1_summed 73 = .ok (.invokevirtual 71, 3) := by decide +kernel
theorem dX1_summed_76 : decode cX1_summed 76 = .ok (.ireturn, 1) := by decide +kernel
set_option maxRecDepth 20000 in
theorem ggX1_multiplied_X1_divisor : GoodIn wsX1_multiplied wsX1_divisor := goodIn_r _ [5, 6, 7, 4, 8] (by decide +kernel) (by decide +kernel)
set_option maxRecDepth 20000 in
theorem gX1_multiplied_X1_divisor : GoodIn wsX1_multiplied (va_wsS RX1 63 yX1_divisor wsX1_divisor) := goodIn_app (goodIn_of _ (by decide +kernel)) ggX1_multiplied_X1_divisor
set_option maxRecDepth 20000 in
theorem ggX1_multiplied_X1_times : GoodIn wsX1_multiplied wsX1_times := goodIn_r _ [12, 13, 1, 6, 7, 4, 8, 27, 28, 29, 30, 31, 32, 33, 34, 35, 36, 37, 38, 39, 40, 41, 42, 43] (by decide +kernel) (by decide +kernel)
set_option maxRecDepth 20000 in
theorem gX1_multiplied_X1_times : GoodIn wsX1_multiplied (wsV RX1 75 RX1 yX1_times wsX1_times) := goodIn_app (goodIn_of _ (by decide +kernel)) ggX1_multiplied_X1_times
set_option maxRecDepth 20000 in
theorem ggX1_multiplied_X1_grew : GoodIn wsX1_multiplied wsX1_grew := goodIn_r _ [17, 18, 27, 28, 29, 30, 31, 32, 33, 34, 35, 36, 37, 38, 39, 40, 41, 42, 43] (by decide +kernel) (by decide +kernel)
set_option maxRecDepth 20000 in
theorem gX1_multiplied_X1_grew : GoodIn wsX1_multiplied (wsV RX1 81 RX1 yX1_grew wsX1_grew) := goodIn_app (goodIn_of _ (by decide +kernel)) ggX1_multiplied_X1_grew
set_option maxRecDepth 20000 in
theorem ggX1_multiplied_X1_kept : GoodIn wsX1_multiplied wsX1_kept := goodIn_r _ [22, 23, 24, 25, 26, 2, 3, 4, 5, 6, 7, 8, 27, 28, 29, 30, 31, 32, 33, 34, 35, 36, 37, 38, 39, 40, 41, 42, 43] (by decide +kernel) (by decide +kernel)
set_option maxRecDepth 20000 in
theorem gX1_multiplied_X1_kept : GoodIn wsX1_multiplied (wsV RX1 71 RX1 yX1_kept wsX1_kept) := goodIn_app (goodIn_of _ (by decide +kernel)) ggX1_multiplied_X1_kept
theorem dX1_multiplied_0 : decode cX1_multiplied 0 = .ok (.lload_n 1, 1) := by decide +kernel
theorem dX1_multiplied_1 : decode cX1_multiplied 1 = .ok (.lload 7, 2) := by decide +kernel
theorem dX1_multiplied_3 : decode cX1_multiplied 3 = .ok (.invokestatic 63, 3) := by decide +kernel
theorem dX1_multiplied_6 : decode cX1_multiplied 6 = .ok (.lstore 9, 2) := by decide +kernel
theorem dX1_multiplied_8 : decode cX1_multiplied 8 = .ok (.lload 5, 2) := by decide +kernel
theorem dX1_multiplied_10 : decode cX1_multiplied 10 = .ok (.lload_n 3, 1) := by decide +kernel
theorem dX1_multiplied_11 : decode cX1_multiplied 11 = .ok (.invokestatic 63, 3) := by decide +kernel
theorem dX1_multiplied_14 : decode cX1_multiplied 14 = .ok (.lstore 11, 2) := by decide +kernel
theorem dX1_multiplied_16 : decode cX1_multiplied 16 = .ok (.aload_n 0, 1) := by decide +kernel
theorem dX1_multiplied_17 : decode cX1_multiplied 17 = .ok (.lload_n 1, 1) := by decide +kernel
theorem dX1_multiplied_18 : decode cX1_multiplied 18 = .ok (.lload 9, 2) := by decide +kernel
theorem dX1_multiplied_20 : decode cX1_multiplied 20 = .ok (.ldiv, 1) := by decide +kernel
theorem dX1_multiplied_21 : decode cX1_multiplied 21 = .ok (.lload 5, 2) := by decide +kernel
theorem dX1_multiplied_23 : decode cX1_multiplied 23 = .ok (.lload 11, 2) := by decide +kernel
theorem dX1_multiplied_25 : decode cX1_multiplied 25 = .ok (.ldiv, 1) := by decide +kernel
theorem dX1_multiplied_26 : decode cX1_multiplied 26 = .ok (.invokevirtual 75, 3) := by decide +kernel
theorem dX1_multiplied_29 : decode cX1_multiplied 29 = .ok (.lstore 13, 2) := by decide +kernel
theorem dX1_multiplied_31 : decode cX1_multiplied 31 = .ok (.aload_n 0, 1) := by decide +kernel
theorem dX1_multiplied_32 : decode cX1_multiplied 32 = .ok (.lload_n 3, 1) := by decide +kernel
theorem dX1_multiplied_33 : decode cX1_multiplied 33 = .ok (.lload 11, 2) := by decide +kernel
theorem dX1_multiplied_35 : decode cX1_multiplied 35 = .ok (.ldiv, 1) := by decide +kernel
theorem dX1_multiplied_36 : decode cX1_multiplied 36 = .ok (.lload 7, 2) := by decide +kernel
theorem dX1_multiplied_38 : decode cX1_multiplied 38 = .ok (.lload 9, 2) := by decide +kernel
theorem dX1_multiplied_40 : decode cX1_multiplied 40 = .ok (.ldiv, 1) := by decide +kernel
theorem dX1_multiplied_41 : decode cX1_multiplied 41 = .ok (.invokevirtual 75, 3) := by decide +kernel
theorem dX1_multiplied_44 : decode cX1_multiplied 44 = .ok (.lstore 15, 2) := by decide +kernel
theorem dX1_multiplied_46 : decode cX1_multiplied 46 = .ok (.aload_n 0, 1) := by decide +kernel
theorem dX1_multiplied_47 : decode cX1_multiplied 47 = .ok (.getfield 39, 3) := by decide +kernel
theorem dX1_multiplied_50 : decode cX1_multiplied 50 = .ok (.ifCond .eq 10, 3) := by decide +kernel
theorem dX1_multiplied_53 : decode cX1_multiplied 53 = .ok (.aload_n 0, 1) := by decide +kernel
theorem dX1_multiplied_54 : decode cX1_multiplied 54 = .ok (.invokevirtual 81, 3) := by decide +kernel
theorem dX1_multiplied_57 : decode cX1_multiplied 57 = .ok (.goto 11, 3) := by decide +kernel
theorem dX1_multiplied_60 : decode cX1_multiplied 60 = .ok (.aload_n 0, 1) := by decide +kernel
theorem dX1_multiplied_61 : decode cX1_multiplied 61 = .ok (.lload 13, 2) := by decide +kernel
theorem dX1_multiplied_63 : decode cX1_multiplied 63 = .ok (.lload 15, 2) := by decide +kernel
theorem dX1_multiplied_65 : decode cX1_multiplied 65 = .ok (.invokevirtual 71, 3) := by decide +kernel
theorem dX1_multiplied_68 : decode cX1_multiplied 68 = .ok (.ireturn, 1) := by decide +kernel
set_option maxRecDepth 20000 in
theorem ggX1_divided_X1_multiplied : GoodIn wsX1_divided wsX1_multiplied := goodIn_r _ [7, 8, 9, 10, 6, 11, 12, 13, 14, 15, 16, 17, 18, 19, 20, 21, 22, 23, 24, 25, 26, 27, 28, 29, 1, 30, 2, 31, 32, 33, 34, 35, 36, 37, 38, 39, 40, 41, 42, 43, 44, 45, 46, 47] (by decide +kernel) (by decide +kernel)
set_option maxRecDepth 20000 in
theorem gX1_divided_X1_multiplied : GoodIn wsX1_divided (wsV RX1 85 RX1 yX1_multiplied wsX1_multiplied) := goodIn_app (goodIn_of _ (by decide +kernel)) ggX1_divided_X1_multiplied
theorem dX1_divided_0 : decode cX1_divided 0 = .ok (.aload_n 0, 1) := by decide +kernel
theorem dX1_divided_1 : decode cX1_divided 1 = .ok (.getfield 7, 3) := by decide +kernel
theorem dX1_divided_4 : decode cX1_divided 4 = .ok (.iload_n 2, 1) := by decide +kernel
theorem dX1_divided_5 : decode cX1_divided 5 = .ok (.laload, 1) := by decide +kernel
theorem dX1_divided_6 : decode cX1_divided 6 = .ok (.lconst 0, 1) := by decide +kernel
theorem dX1_divided_7 : decode cX1_divided 7 = .ok (.lcmp, 1) := by decide +kernel
theorem dX1_divided_8 : decode cX1_divided 8 = .ok (.ifCond .ge 7, 3) := by decide +kernel
theorem dX1_divided_11 : decode cX1_divided 11 = .ok (.iconst 1, 1) := by decide +kernel
theorem dX1_divided_12 : decode cX1_divided 12 = .ok (.goto 4, 3) := by decide +kernel
theorem dX1_divided_15 : decode cX1_divided 15 = .ok (.iconst 0, 1) := by decide +kernel
theorem dX1_divided_16 : decode cX1_divided 16 = .ok (.istore_n 3, 1) := by decide +kernel
theorem dX1_divided_17 : decode cX1_divided 17 = .ok (.aload_n 0, 1) := by decide +kernel
theorem dX1_divided_18 : decode cX1_divided 18 = .ok (.aload_n 0, 1) := by decide +kernel
theorem dX1_divided_19 : decode cX1_divided 19 = .ok (.getfield 7, 3) := by decide +kernel
theorem dX1_divided_22 : decode cX1_divided 22 = .ok (.iload_n 1, 1) := by decide +kernel
theorem dX1_divided_23 : decode cX1_divided 23 = .ok (.laload, 1) := by decide +kernel
theorem dX1_divided_24 : decode cX1_divided 24 = .ok (.aload_n 0, 1) := by decide +kernel
theorem dX1_divided_25 : decode cX1_divided 25 = .ok (.getfield 13, 3) := by decide +kernel
theorem dX1_divided_28 : decode cX1_divided 28 = .ok (.iload_n 1, 1) := by decide +kernel
theorem dX1_divided_29 : decode cX1_divided 29 = .ok (.laload, 1) := by decide +kernel
theorem dX1_divided_30 : decode cX1_divided 30 = .ok (.iload_n 3, 1) := by decide +kernel
theorem dX1_divided_31 : decode cX1_divided 31 = .ok (.ifCond .eq 13, 3) := by decide +kernel
theorem dX1_divided_34 : decode cX1_divided 34 = .ok (.aload_n 0, 1) := by decide +kernel
theorem dX1_divided_35 : decode cX1_divided 35 = .ok (.getfield 13, 3) := by decide +kernel
theorem dX1_divided_38 : decode cX1_divided 38 = .ok (.iload_n 2, 1) := by decide +kernel
theorem dX1_divided_39 : decode cX1_divided 39 = .ok (.laload, 1) := by decide +kernel
theorem dX1_divided_40 : decode cX1_divided 40 = .ok (.lneg, 1) := by decide +kernel
theorem dX1_divided_41 : decode cX1_divided 41 = .ok (.goto 9, 3) := by decide +kernel
theorem dX1_divided_44 : decode cX1_divided 44 = .ok (.aload_n 0, 1) := by decide +kernel
theorem dX1_divided_45 : decode cX1_divided 45 = .ok (.getfield 13, 3) := by decide +kernel
theorem dX1_divided_48 : decode cX1_divided 48 = .ok (.iload_n 2, 1) := by decide +kernel
theorem dX1_divided_49 : decode cX1_divided 49 = .ok (.laload, 1) := by decide +kernel
theorem dX1_divided_50 : decode cX1_divided 50 = .ok (.iload_n 3, 1) := by decide +kernel
theorem dX1_divided_51 : decode cX1_divided 51 = .ok (.ifCond .eq 13, 3) := by decide +kernel
theorem dX1_divided_54 : decode cX1_divided 54 = .ok (.aload_n 0, 1) := by decide +kernel
theorem dX1_divided_55 : decode cX1_divided 55 = .ok (.getfield 7, 3) := by decide +kernel
theorem dX1_divided_58 : decode cX1_divided 58 = .ok (.iload_n 2, 1) := by decide +kernel
theorem dX1_divided_59 : decode cX1_divided 59 = .ok (.laload, 1) := by decide +kernel
theorem dX1_divided_60 : decode cX1_divided 60 = .ok (.lneg, 1) := by decide +kernel
theorem dX1_divided_61 : decode cX1_divided 61 = .ok (.goto 9, 3) := by decide +kernel
theorem dX1_divided_64 : decode cX1_divided 64 = .ok (.aload_n 0, 1) := by decide +kernel
theorem dX1_divided_65 : decode cX1_divided 65 = .ok (.getfield 7, 3) := by decide +kernel
theorem dX1_divided_68 : decode cX1_divided 68 = .ok (.iload_n 2, 1) := by decide +kernel
theorem dX1_divided_69 : decode cX1_divided 69 = .ok (.laload, 1) := by decide +kernel
theorem dX1_divided_70 : decode cX1_divided 70 = .ok (.invokevirtual 85, 3) := by decide +kernel
theorem dX1_divided_73 : decode cX1_divided 73 = .ok (.ireturn, 1) := by decide +kernel
theorem dX1_grew_0 : decode cX1_grew 0 = .ok (.aload_n 0, 1) := by decide +kernel
theorem dX1_grew_1 : decode cX1_grew 1 = .ok (.dup, 1) := by decide +kernel
theorem dX1_grew_2 : decode cX1_grew 2 = .ok (.getfield 89, 3) := by decide +kernel
theorem dX1_grew_5 : decode cX1_grew 5 = .ok (.iconst 1, 1) := by decide +kernel
theorem dX1_grew_6 : decode cX1_grew 6 = .ok (.iadd, 1) := by decide +kernel
theorem dX1_grew_7 : decode cX1_grew 7 = .ok (.putfield 89, 3) := by decide +kernel
theorem dX1_grew_10 : decode cX1_grew 10 = .ok (.bipush (-3), 2) := by decide +kernel
theorem dX1_grew_12 : decode cX1_grew 12 = .ok (.ireturn, 1) := by decide +kernel
set_option maxRecDepth 20000 in
theorem ggX1_act_X1_isIn : GoodIn wsX1_act wsX1_isIn := goodIn_r _ [10] (by decide +kernel) (by decide +kernel)
set_option maxRecDepth 20000 in
theorem gX1_act_X1_isIn : GoodIn wsX1_act (va_wsS RX1 59 yX1_isIn wsX1_isIn) := goodIn_app (goodIn_of _ (by decide +kernel)) ggX1_act_X1_isIn
set_option maxRecDepth 20000 in
theorem ggX1_act_X1_isNumber : GoodIn wsX1_act wsX1_isNumber := goodIn_r _ [14, 3, 7, 8, 9, 10, 53, 54, 55, 56, 57, 58, 59, 60, 61, 62, 63, 64, 65, 66, 67, 68, 69] (by decide +kernel) (by decide +kernel)
set_option maxRecDepth 20000 in
theorem gX1_act_X1_isNumber : GoodIn wsX1_act (wsV RX1 94 RX1 yX1_isNumber wsX1_isNumber) := goodIn_app (goodIn_of _ (by decide +kernel)) ggX1_act_X1_isNumber
set_option maxRecDepth 20000 in
theorem ggX1_act_X1_divided : GoodIn wsX1_act wsX1_divided := goodIn_r _ [18, 4, 6, 19, 20, 21, 9, 22, 5, 23, 24, 25, 26, 27, 28, 29, 30, 31, 32, 33, 34, 35, 36, 37, 38, 39, 40, 41, 42, 43, 3, 53, 54, 55, 56, 57, 58, 59, 60, 61, 62, 63, 64, 65, 66, 67, 68, 69] (by decide +kernel) (by decide +kernel)
set_option maxRecDepth 20000 in
theorem gX1_act_X1_divided : GoodIn wsX1_act (wsV RX1 98 RX1 yX1_divided wsX1_divided) := goodIn_app (goodIn_of _ (by decide +kernel)) ggX1_act_X1_divided
set_option maxRecDepth 20000 in
theorem ggX1_act_X1_multiplied : GoodIn wsX1_act wsX1_multiplied := goodIn_r _ [22, 5, 23, 24, 9, 25, 26, 27, 28, 29, 30, 31, 32, 33, 34, 35, 36, 37, 38, 39, 40, 41, 42, 43, 4, 3, 6, 53, 54, 55, 56, 57, 58, 59, 60, 61, 62, 63, 64, 65, 66, 67, 68, 69] (by decide +kernel) (by decide +kernel)
set_option maxRecDepth 20000 in
theorem gX1_act_X1_multiplied : GoodIn wsX1_act (wsV RX1 85 RX1 yX1_multiplied wsX1_multiplied) := goodIn_app (goodIn_of _ (by decide +kernel)) ggX1_act_X1_multiplied
set_option maxRecDepth 20000 in
theorem ggX1_act_X1_summed : GoodIn wsX1_act wsX1_summed := goodIn_r _ [47, 5, 23, 24, 9, 25, 26, 27, 28, 29, 30, 31, 32, 33, 48, 49, 50, 51, 52, 34, 35, 36, 37, 38, 39, 40, 41, 42, 43, 4, 3, 6, 53, 54, 55, 56, 57, 58, 59, 60, 61, 62, 63, 64, 65, 66, 67, 68, 69] (by decide +kernel) (by decide +kernel)
set_option maxRecDepth 20000 in
theorem gX1_act_X1_summed : GoodIn wsX1_act (wsV RX1 102 RX1 yX1_summed wsX1_summed) := goodIn_app (goodIn_of _ (by decide +kernel)) ggX1_act_X1_summed
theorem dX1_act_0 : decode cX1_act 0 = .ok (.aload_n 0, 1) := by decide +kernel
theorem dX1_act_1 : decode cX1_act 1 = .ok (.iconst 0, 1) := by decide +kernel
theorem dX1_act_2 : decode cX1_act 2 = .ok (.putfield 43, 3) := by decide +kernel
theorem dX1_act_5 : decode cX1_act 5 = .ok (.iload_n 1, 1) := by decide +kernel
theorem dX1_act_6 : decode cX1_act 6 = .ok (.i2l, 1) := by decide +kernel
theorem dX1_act_7 : decode cX1_act 7 = .ok (.lconst 0, 1) := by decide +kernel
theorem dX1_act_8 : decode cX1_act 8 = .ok (.ldc2_w 92, 3) := by decide +kernel
theorem dX1_act_11 : decode cX1_act 11 = .ok (.invokestatic 59, 3) := by decide +kernel
theorem dX1_act_14 : decode cX1_act 14 = .ok (.ifCond .eq 19, 3) := by decide +kernel
theorem dX1_act_17 : decode cX1_act 17 = .ok (.aload_n 0, 1) := by decide +kernel
theorem dX1_act_18 : decode cX1_act 18 = .ok (.iload_n 2, 1) := by decide +kernel
theorem dX1_act_19 : decode cX1_act 19 = .ok (.invokevirtual 94, 3) := by decide +kernel
theorem dX1_act_22 : decode cX1_act 22 = .ok (.ifCond .eq 11, 3) := by decide +kernel
theorem dX1_act_25 : decode cX1_act 25 = .ok (.aload_n 0, 1) := by decide +kernel
theorem dX1_act_26 : decode cX1_act 26 = .ok (.iload_n 3, 1) := by decide +kernel
theorem dX1_act_27 : decode cX1_act 27 = .ok (.invokevirtual 94, 3) := by decide +kernel
theorem dX1_act_30 : decode cX1_act 30 = .ok (.ifCond .ne 5, 3) := by decide +kernel
theorem dX1_act_33 : decode cX1_act 33 = .ok (.iconst (-1), 1) := by decide +kernel
theorem dX1_act_34 : decode cX1_act 34 = .ok (.ireturn, 1) := by decide +kernel
theorem dX1_act_35 : decode cX1_act 35 = .ok (.aload_n 0, 1) := by decide +kernel
theorem dX1_act_36 : decode cX1_act 36 = .ok (.getfield 56, 3) := by decide +kernel
theorem dX1_act_39 : decode cX1_act 39 = .ok (.bipush 40, 2) := by decide +kernel
theorem dX1_act_41 : decode cX1_act 41 = .ok (.if_icmp .ne 6, 3) := by decide +kernel
theorem dX1_act_44 : decode cX1_act 44 = .ok (.bipush (-4), 2) := by decide +kernel
theorem dX1_act_46 : decode cX1_act 46 = .ok (.ireturn, 1) := by decide +kernel
theorem dX1_act_47 : decode cX1_act 47 = .ok (.iload_n 1, 1) := by decide +kernel
theorem dX1_act_48 : decode cX1_act 48 = .ok (.iconst 3, 1) := by decide +kernel
theorem dX1_act_49 : decode cX1_act 49 = .ok (.if_icmp .ne 17, 3) := by decide +kernel
theorem dX1_act_52 : decode cX1_act 52 = .ok (.aload_n 0, 1) := by decide +kernel
theorem dX1_act_53 : decode cX1_act 53 = .ok (.getfield 7, 3) := by decide +kernel
theorem dX1_act_56 : decode cX1_act 56 = .ok (.iload_n 3, 1) := by decide +kernel
theorem dX1_act_57 : decode cX1_act 57 = .ok (.laload, 1) := by decide +kernel
theorem dX1_act_58 : decode cX1_act 58 = .ok (.lconst 0, 1) := by decide +kernel
theorem dX1_act_59 : decode cX1_act 59 = .ok (.lcmp, 1) := by decide +kernel
theorem dX1_act_60 : decode cX1_act 60 = .ok (.ifCond .ne 6, 3) := by decide +kernel
theorem dX1_act_63 : decode cX1_act 63 = .ok (.bipush (-2), 2) := by decide +kernel
theorem dX1_act_65 : decode cX1_act 65 = .ok (.ireturn, 1) := by decide +kernel
theorem dX1_act_66 : decode cX1_act 66 = .ok (.aload_n 0, 1) := by decide +kernel
theorem dX1_act_67 : decode cX1_act 67 = .ok (.iconst 0, 1) := by decide +kernel
theorem dX1_act_68 : decode cX1_act 68 = .ok (.putfield 39, 3) := by decide +kernel
theorem dX1_act_71 : decode cX1_act 71 = .ok (.iload_n 1, 1) := by decide +kernel
theorem dX1_act_72 : decode cX1_act 72 = .ok (.iconst 3, 1) := by decide +kernel
theorem dX1_act_73 : decode cX1_act 73 = .ok (.if_icmp .ne 12, 3) := by decide +kernel
theorem dX1_act_76 : decode cX1_act 76 = .ok (.aload_n 0, 1) := by decide +kernel
theorem dX1_act_77 : decode cX1_act 77 = .ok (.iload_n 2, 1) := by decide +kernel
theorem dX1_act_78 : decode cX1_act 78 = .ok (.iload_n 3, 1) := by decide +kernel
theorem dX1_act_79 : decode cX1_act 79 = .ok (.invokevirtual 98, 3) := by decide +kernel
theorem dX1_act_82 : decode cX1_act 82 = .ok (.goto 81, 3) := by decide +kernel
theorem dX1_act_85 : decode cX1_act 85 = .ok (.iload_n 1, 1) := by decide +kernel
theorem dX1_act_86 : decode cX1_act 86 = .ok (.iconst 2, 1) := by decide +kernel
theorem dX1_act_87 : decode cX1_act 87 = .ok (.if_icmp .ne 34, 3) := by decide +kernel
theorem dX1_act_90 : decode cX1_act 90 = .ok (.aload_n 0, 1) := by decide +kernel
theorem dX1_act_91 : decode cX1_act 91 = .ok (.aload_n 0, 1) := by decide +kernel
theorem dX1_act_92 : decode cX1_act 92 = .ok (.getfield 7, 3) := by decide +kernel
theorem dX1_act_95 : decode cX1_act 95 = .ok (.iload_n 2, 1) := by decide +kernel
theorem dX1_act_96 : decode cX1_act 96 = .ok (.laload, 1) := by decide +kernel
theorem dX1_act_97 : decode cX1_act 97 = .ok (.aload_n 0, 1) := by decide +kernel
theorem dX1_act_98 : decode cX1_act 98 = .ok (.getfield 13, 3) := by decide +kernel
theorem dX1_act_101 : decode cX1_act 101 = .ok (.iload_n 2, 1) := by decide +kernel
theorem dX1_act_102 : decode cX1_act 102 = .ok (.laload, 1) := by decide +kernel
theorem dX1_act_103 : decode cX1_act 103 = .ok (.aload_n 0, 1) := by decide +kernel
theorem dX1_act_104 : decode cX1_act 104 = .ok (.getfield 7, 3) := by decide +kernel
theorem dX1_act_107 : decode cX1_act 107 = .ok (.iload_n 3, 1) := by decide +kernel
theorem dX1_act_108 : decode cX1_act 108 = .ok (.laload, 1) := by decide +kernel
theorem dX1_act_109 : decode cX1_act 109 = .ok (.aload_n 0, 1) := by decide +kernel
theorem dX1_act_110 : decode cX1_act 110 = .ok (.getfield 13, 3) := by decide +kernel
theorem dX1_act_113 : decode cX1_act 113 = .ok (.iload_n 3, 1) := by decide +kernel
theorem dX1_act_114 : decode cX1_act 114 = .ok (.laload, 1) := by decide +kernel
theorem dX1_act_115 : decode cX1_act 115 = .ok (.invokevirtual 85, 3) := by decide +kernel
theorem dX1_act_118 : decode cX1_act 118 = .ok (.goto 45, 3) := by decide +kernel
theorem dX1_act_121 : decode cX1_act 121 = .ok (.aload_n 0, 1) := by decide +kernel
theorem dX1_act_122 : decode cX1_act 122 = .ok (.aload_n 0, 1) := by decide +kernel
theorem dX1_act_123 : decode cX1_act 123 = .ok (.getfield 7, 3) := by decide +kernel
theorem dX1_act_126 : decode cX1_act 126 = .ok (.iload_n 2, 1) := by decide +kernel
theorem dX1_act_127 : decode cX1_act 127 = .ok (.laload, 1) := by decide +kernel
theorem dX1_act_128 : decode cX1_act 128 = .ok (.aload_n 0, 1) := by decide +kernel
theorem dX1_act_129 : decode cX1_act 129 = .ok (.getfield 13, 3) := by decide +kernel
theorem dX1_act_132 : decode cX1_act 132 = .ok (.iload_n 2, 1) := by decide +kernel
theorem dX1_act_133 : decode cX1_act 133 = .ok (.laload, 1) := by decide +kernel
theorem dX1_act_134 : decode cX1_act 134 = .ok (.iload_n 1, 1) := by decide +kernel
theorem dX1_act_135 : decode cX1_act 135 = .ok (.ifCond .ne 12, 3) := by decide +kernel
theorem dX1_act_138 : decode cX1_act 138 = .ok (.aload_n 0, 1) := by decide +kernel
theorem dX1_act_139 : decode cX1_act 139 = .ok (.getfield 7, 3) := by decide +kernel
theorem dX1_act_142 : decode cX1_act 142 = .ok (.iload_n 3, 1) := by decide +kernel
theorem dX1_act_143 : decode cX1_act 143 = .ok (.laload, 1) := by decide +kernel
theorem dX1_act_144 : decode cX1_act 144 = .ok (.goto 10, 3) := by decide +kernel
theorem dX1_act_147 : decode cX1_act 147 = .ok (.aload_n 0, 1) := by decide +kernel
theorem dX1_act_148 : decode cX1_act 148 = .ok (.getfield 7, 3) := by decide +kernel
theorem dX1_act_151 : decode cX1_act 151 = .ok (.iload_n 3, 1) := by decide +kernel
theorem dX1_act_152 : decode cX1_act 152 = .ok (.laload, 1) := by decide +kernel
theorem dX1_act_153 : decode cX1_act 153 = .ok (.lneg, 1) := by decide +kernel
theorem dX1_act_154 : decode cX1_act 154 = .ok (.aload_n 0, 1) := by decide +kernel
theorem dX1_act_155 : decode cX1_act 155 = .ok (.getfield 13, 3) := by decide +kernel
theorem dX1_act_158 : decode cX1_act 158 = .ok (.iload_n 3, 1) := by decide +kernel
theorem dX1_act_159 : decode cX1_act 159 = .ok (.laload, 1) := by decide +kernel
theorem dX1_act_160 : decode cX1_act 160 = .ok (.invokevirtual 102, 3) := by decide +kernel
theorem dX1_act_163 : decode cX1_act 163 = .ok (.ireturn, 1) := by decide +kernel
set_option maxRecDepth 20000 in
theorem ggX1_over_X1_isNumber : GoodIn wsX1_over wsX1_isNumber := goodIn_r _ [9, 2, 10, 11, 8, 12, 43, 44, 45, 46, 47, 48, 49, 50, 51, 52, 53, 54, 55, 56, 57, 58, 59] (by decide +kernel) (by decide +kernel)
set_option maxRecDepth 20000 in
theorem gX1_over_X1_isNumber : GoodIn wsX1_over (wsV RX1 94 RX1 yX1_isNumber wsX1_isNumber) := goodIn_app (goodIn_of _ (by decide +kernel)) ggX1_over_X1_isNumber
set_option maxRecDepth 20000 in
theorem ggX1_over_X1_divided : GoodIn wsX1_over wsX1_divided := goodIn_r _ [16, 3, 17, 18, 19, 20, 8, 21, 4, 22, 23, 24, 25, 26, 27, 28, 29, 30, 31, 32, 33, 34, 35, 36, 37, 38, 39, 40, 41, 42, 2, 43, 44, 45, 46, 47, 48, 49, 50, 51, 52, 53, 54, 55, 56, 57, 58, 59] (by decide +kernel) (by decide +kernel)
set_option maxRecDepth 20000 in
theorem gX1_over_X1_divided : GoodIn wsX1_over (wsV RX1 98 RX1 yX1_divided wsX1_divided) := goodIn_app (goodIn_of _ (by decide +kernel)) ggX1_over_X1_divided
theorem dX1_over_0 : decode cX1_over 0 = .ok (.aload_n 0, 1) := by decide +kernel
theorem dX1_over_1 : decode cX1_over 1 = .ok (.iconst 0, 1) := by decide +kernel
theorem dX1_over_2 : decode cX1_over 2 = .ok (.putfield 43, 3) := by decide +kernel
theorem dX1_over_5 : decode cX1_over 5 = .ok (.aload_n 0, 1) := by decide +kernel
theorem dX1_over_6 : decode cX1_over 6 = .ok (.iload_n 1, 1) := by decide +kernel
theorem dX1_over_7 : decode cX1_over 7 = .ok (.invokevirtual 94, 3) := by decide +kernel
theorem dX1_over_10 : decode cX1_over 10 = .ok (.ifCond .eq 11, 3) := by decide +kernel
theorem dX1_over_13 : decode cX1_over 13 = .ok (.aload_n 0, 1) := by decide +kernel
theorem dX1_over_14 : decode cX1_over 14 = .ok (.iload_n 2, 1) := by decide +kernel
theorem dX1_over_15 : decode cX1_over 15 = .ok (.invokevirtual 94, 3) := by decide +kernel
theorem dX1_over_18 : decode cX1_over 18 = .ok (.ifCond .ne 5, 3) := by decide +kernel
theorem dX1_over_21 : decode cX1_over 21 = .ok (.iconst (-1), 1) := by decide +kernel
theorem dX1_over_22 : decode cX1_over 22 = .ok (.ireturn, 1) := by decide +kernel
theorem dX1_over_23 : decode cX1_over 23 = .ok (.aload_n 0, 1) := by decide +kernel
theorem dX1_over_24 : decode cX1_over 24 = .ok (.getfield 56, 3) := by decide +kernel
theorem dX1_over_27 : decode cX1_over 27 = .ok (.bipush 40, 2) := by decide +kernel
theorem dX1_over_29 : decode cX1_over 29 = .ok (.if_icmp .ne 6, 3) := by decide +kernel
theorem dX1_over_32 : decode cX1_over 32 = .ok (.bipush (-4), 2) := by decide +kernel
theorem dX1_over_34 : decode cX1_over 34 = .ok (.ireturn, 1) := by decide +kernel
theorem dX1_over_35 : decode cX1_over 35 = .ok (.aload_n 0, 1) := by decide +kernel
theorem dX1_over_36 : decode cX1_over 36 = .ok (.getfield 7, 3) := by decide +kernel
theorem dX1_over_39 : decode cX1_over 39 = .ok (.iload_n 2, 1) := by decide +kernel
theorem dX1_over_40 : decode cX1_over 40 = .ok (.laload, 1) := by decide +kernel
theorem dX1_over_41 : decode cX1_over 41 = .ok (.lconst 0, 1) := by decide +kernel
theorem dX1_over_42 : decode cX1_over 42 = .ok (.lcmp, 1) := by decide +kernel
theorem dX1_over_43 : decode cX1_over 43 = .ok (.ifCond .ne 10, 3) := by decide +kernel
theorem dX1_over_46 : decode cX1_over 46 = .ok (.aload_n 0, 1) := by decide +kernel
theorem dX1_over_47 : decode cX1_over 47 = .ok (.iconst 1, 1) := by decide +kernel
theorem dX1_over_48 : decode cX1_over 48 = .ok (.putfield 43, 3) := by decide +kernel
theorem dX1_over_51 : decode cX1_over 51 = .ok (.iconst 0, 1) := by decide +kernel
theorem dX1_over_52 : decode cX1_over 52 = .ok (.ireturn, 1) := by decide +kernel
theorem dX1_over_53 : decode cX1_over 53 = .ok (.aload_n 0, 1) := by decide +kernel
theorem dX1_over_54 : decode cX1_over 54 = .ok (.iconst 0, 1) := by decide +kernel
theorem dX1_over_55 : decode cX1_over 55 = .ok (.putfield 39, 3) := by decide +kernel
theorem dX1_over_58 : decode cX1_over 58 = .ok (.aload_n 0, 1) := by decide +kernel
theorem dX1_over_59 : decode cX1_over 59 = .ok (.iload_n 1, 1) := by decide +kernel
theorem dX1_over_60 : decode cX1_over 60 = .ok (.iload_n 2, 1) := by decide +kernel
theorem dX1_over_61 : decode cX1_over 61 = .ok (.invokevirtual 98, 3) := by decide +kernel
theorem dX1_over_64 : decode cX1_over 64 = .ok (.ireturn, 1) := by decide +kernel
theorem dX1_drop_0 : decode cX1_drop 0 = .ok (.aload_n 0, 1) := by decide +kernel
theorem dX1_drop_1 : decode cX1_drop 1 = .ok (.iconst 0, 1) := by decide +kernel
theorem dX1_drop_2 : decode cX1_drop 2 = .ok (.putfield 43, 3) := by decide +kernel
theorem dX1_drop_5 : decode cX1_drop 5 = .ok (.aload_n 0, 1) := by decide +kernel
theorem dX1_drop_6 : decode cX1_drop 6 = .ok (.getfield 56, 3) := by decide +kernel
theorem dX1_drop_9 : decode cX1_drop 9 = .ok (.ifCond .ne 6, 3) := by decide +kernel
theorem dX1_drop_12 : decode cX1_drop 12 = .ok (.bipush (-5), 2) := by decide +kernel
theorem dX1_drop_14 : decode cX1_drop 14 = .ok (.ireturn, 1) := by decide +kernel
theorem dX1_drop_15 : decode cX1_drop 15 = .ok (.aload_n 0, 1) := by decide +kernel
theorem dX1_drop_16 : decode cX1_drop 16 = .ok (.dup, 1) := by decide +kernel
theorem dX1_drop_17 : decode cX1_drop 17 = .ok (.getfield 56, 3) := by decide +kernel
theorem dX1_drop_20 : decode cX1_drop 20 = .ok (.iconst 1, 1) := by decide +kernel
theorem dX1_drop_21 : decode cX1_drop 21 = .ok (.isub, 1) := by decide +kernel
theorem dX1_drop_22 : decode cX1_drop 22 = .ok (.putfield 56, 3) := by decide +kernel
theorem dX1_drop_25 : decode cX1_drop 25 = .ok (.aload_n 0, 1) := by decide +kernel
theorem dX1_drop_26 : decode cX1_drop 26 = .ok (.getfield 56, 3) := by decide +kernel
theorem dX1_drop_29 : decode cX1_drop 29 = .ok (.ireturn, 1) := by decide +kernel
set_option maxRecDepth 20000 in
theorem ggX1_ordered_X1_sizeOf : GoodIn wsX1_ordered wsX1_sizeOf := goodIn_r _ [6] (by decide +kernel) (by decide +kernel)
set_option maxRecDepth 20000 in
theorem gX1_ordered_X1_sizeOf : GoodIn wsX1_ordered (va_wsS RX1 46 yX1_sizeOf wsX1_sizeOf) := goodIn_app (goodIn_of _ (by decide +kernel)) ggX1_ordered_X1_sizeOf
set_option maxRecDepth 20000 in
theorem ggX1_ordered_X1_compared : GoodIn wsX1_ordered wsX1_compared := goodIn_r _ [10, 11, 12, 13, 14, 15, 16, 17, 18, 19, 20, 21, 22, 23, 24, 25, 26, 27, 28, 29, 30] (by decide +kernel) (by decide +kernel)
set_option maxRecDepth 20000 in
theorem gX1_ordered_X1_compared : GoodIn wsX1_ordered (wsV RX1 105 RX1 yX1_compared wsX1_compared) := goodIn_app (goodIn_of _ (by decide +kernel)) ggX1_ordered_X1_compared
theorem dX1_ordered_0 : decode cX1_ordered 0 = .ok (.aload_n 0, 1) := by decide +kernel
theorem dX1_ordered_1 : decode cX1_ordered 1 = .ok (.getfield 7, 3) := by decide +kernel
theorem dX1_ordered_4 : decode cX1_ordered 4 = .ok (.iload_n 1, 1) := by decide +kernel
theorem dX1_ordered_5 : decode cX1_ordered 5 = .ok (.laload, 1) := by decide +kernel
theorem dX1_ordered_6 : decode cX1_ordered 6 = .ok (.lconst 0, 1) := by decide +kernel
theorem dX1_ordered_7 : decode cX1_ordered 7 = .ok (.lcmp, 1) := by decide +kernel
theorem dX1_ordered_8 : decode cX1_ordered 8 = .ok (.ifCond .ge 7, 3) := by decide +kernel
theorem dX1_ordered_11 : decode cX1_ordered 11 = .ok (.iconst 1, 1) := by decide +kernel
theorem dX1_ordered_12 : decode cX1_ordered 12 = .ok (.goto 4, 3) := by decide +kernel
theorem dX1_ordered_15 : decode cX1_ordered 15 = .ok (.iconst 0, 1) := by decide +kernel
theorem dX1_ordered_16 : decode cX1_ordered 16 = .ok (.istore_n 3, 1) := by decide +kernel
theorem dX1_ordered_17 : decode cX1_ordered 17 = .ok (.aload_n 0, 1) := by decide +kernel
theorem dX1_ordered_18 : decode cX1_ordered 18 = .ok (.getfield 7, 3) := by decide +kernel
theorem dX1_ordered_21 : decode cX1_ordered 21 = .ok (.iload_n 2, 1) := by decide +kernel
theorem dX1_ordered_22 : decode cX1_ordered 22 = .ok (.laload, 1) := by decide +kernel
theorem dX1_ordered_23 : decode cX1_ordered 23 = .ok (.lconst 0, 1) := by decide +kernel
theorem dX1_ordered_24 : decode cX1_ordered 24 = .ok (.lcmp, 1) := by decide +kernel
theorem dX1_ordered_25 : decode cX1_ordered 25 = .ok (.ifCond .ge 7, 3) := by decide +kernel
theorem dX1_ordered_28 : decode cX1_ordered 28 = .ok (.iconst 1, 1) := by decide +kernel
theorem dX1_ordered_29 : decode cX1_ordered 29 = .ok (.goto 4, 3) := by decide +kernel
theorem dX1_ordered_32 : decode cX1_ordered 32 = .ok (.iconst 0, 1) := by decide +kernel
theorem dX1_ordered_33 : decode cX1_ordered 33 = .ok (.istore 4, 2) := by decide +kernel
theorem dX1_ordered_35 : decode cX1_ordered 35 = .ok (.iload_n 3, 1) := by decide +kernel
theorem dX1_ordered_36 : decode cX1_ordered 36 = .ok (.iload 4, 2) := by decide +kernel
theorem dX1_ordered_38 : decode cX1_ordered 38 = .ok (.if_icmp .eq 13, 3) := by decide +kernel
theorem dX1_ordered_41 : decode cX1_ordered 41 = .ok (.iload_n 3, 1) := by decide +kernel
theorem dX1_ordered_42 : decode cX1_ordered 42 = .ok (.ifCond .eq 7, 3) := by decide +kernel
theorem dX1_ordered_45 : decode cX1_ordered 45 = .ok (.iconst (-1), 1) := by decide +kernel
theorem dX1_ordered_46 : decode cX1_ordered 46 = .ok (.goto 4, 3) := by decide +kernel
theorem dX1_ordered_49 : decode cX1_ordered 49 = .ok (.iconst 1, 1) := by decide +kernel
theorem dX1_ordered_50 : decode cX1_ordered 50 = .ok (.ireturn, 1) := by decide +kernel
theorem dX1_ordered_51 : decode cX1_ordered 51 = .ok (.aload_n 0, 1) := by decide +kernel
theorem dX1_ordered_52 : decode cX1_ordered 52 = .ok (.aload_n 0, 1) := by decide +kernel
theorem dX1_ordered_53 : decode cX1_ordered 53 = .ok (.getfield 7, 3) := by decide +kernel
theorem dX1_ordered_56 : decode cX1_ordered 56 = .ok (.iload_n 1, 1) := by decide +kernel
theorem dX1_ordered_57 : decode cX1_ordered 57 = .ok (.laload, 1) := by decide +kernel
theorem dX1_ordered_58 : decode cX1_ordered 58 = .ok (.invokestatic 46, 3) := by decide +kernel
theorem dX1_ordered_61 : decode cX1_ordered 61 = .ok (.aload_n 0, 1) := by decide +kernel
theorem dX1_ordered_62 : decode cX1_ordered 62 = .ok (.getfield 13, 3) := by decide +kernel
theorem dX1_ordered_65 : decode cX1_ordered 65 = .ok (.iload_n 2, 1) := by decide +kernel
theorem dX1_ordered_66 : decode cX1_ordered 66 = .ok (.laload, 1) := by decide +kernel
theorem dX1_ordered_67 : decode cX1_ordered 67 = .ok (.aload_n 0, 1) := by decide +kernel
theorem dX1_ordered_68 : decode cX1_ordered 68 = .ok (.getfield 7, 3) := by decide +kernel
theorem dX1_ordered_71 : decode cX1_ordered 71 = .ok (.iload_n 2, 1) := by decide +kernel
theorem dX1_ordered_72 : decode cX1_ordered 72 = .ok (.laload, 1) := by decide +kernel
theorem dX1_ordered_73 : decode cX1_ordered 73 = .ok (.invokestatic 46, 3) := by decide +kernel
theorem dX1_ordered_76 : decode cX1_ordered 76 = .ok (.aload_n 0, 1) := by decide +kernel
theorem dX1_ordered_77 : decode cX1_ordered 77 = .ok (.getfield 13, 3) := by decide +kernel
theorem dX1_ordered_80 : decode cX1_ordered 80 = .ok (.iload_n 1, 1) := by decide +kernel
theorem dX1_ordered_81 : decode cX1_ordered 81 = .ok (.laload, 1) := by decide +kernel
theorem dX1_ordered_82 : decode cX1_ordered 82 = .ok (.invokevirtual 105, 3) := by decide +kernel
theorem dX1_ordered_85 : decode cX1_ordered 85 = .ok (.istore 5, 2) := by decide +kernel
