theorem dX1_ordered_87 : decode cX1_ordered 87 = .ok (.iload_n 3, 1) := by decide +kernel
theorem dX1_ordered_88 : decode cX1_ordered 88 = .ok (.ifCond .eq 9, 3) := by decide +kernel
theorem dX1_ordered_91 : decode cX1_ordered 91 = .ok (.iload 5, 2) := by decide +kernel
theorem dX1_ordered_93 : decode cX1_ordered 93 = .ok (.ineg, 1) := by decide +kernel
theorem dX1_ordered_94 : decode cX1_ordered 94 = .ok (.goto 5, 3) := by decide +kernel
theorem dX1_ordered_97 : decode cX1_ordered 97 = .ok (.iload 5, 2) := by decide +kernel
theorem dX1_ordered_99 : decode cX1_ordered 99 = .ok (.ireturn, 1) := by decide +kernel
set_option maxRecDepth 20000 in
theorem ggX1_order_X1_isNumber : GoodIn wsX1_order wsX1_isNumber := goodIn_r _ [6, 7, 8, 9, 5, 10, 27, 28, 29, 30, 31, 32, 33, 34, 35, 36, 37, 38, 39, 40, 41, 42, 43] (by decide +kernel) (by decide +kernel)
set_option maxRecDepth 20000 in
theorem gX1_order_X1_isNumber : GoodIn wsX1_order (wsV RX1 94 RX1 yX1_isNumber wsX1_isNumber) := goodIn_app (goodIn_of _ (by decide +kernel)) ggX1_order_X1_isNumber
set_option maxRecDepth 20000 in
theorem ggX1_order_X1_ordered : GoodIn wsX1_order wsX1_ordered := goodIn_r _ [14, 15, 16, 17, 18, 5, 19, 20, 21, 22, 23, 24, 25, 26, 27, 28, 29, 30, 31, 32, 33, 34, 35, 36, 37, 38, 39, 40, 41, 42, 43] (by decide +kernel) (by decide +kernel)
set_option maxRecDepth 20000 in
theorem gX1_order_X1_ordered : GoodIn wsX1_order (wsV RX1 108 RX1 yX1_ordered wsX1_ordered) := goodIn_app (goodIn_of _ (by decide +kernel)) ggX1_order_X1_ordered
theorem dX1_order_0 : decode cX1_order 0 = .ok (.aload_n 0, 1) := by decide +kernel
theorem dX1_order_1 : decode cX1_order 1 = .ok (.iconst 0, 1) := by decide +kernel
theorem dX1_order_2 : decode cX1_order 2 = .ok (.putfield 43, 3) := by decide +kernel
theorem dX1_order_5 : decode cX1_order 5 = .ok (.aload_n 0, 1) := by decide +kernel
theorem dX1_order_6 : decode cX1_order 6 = .ok (.iload_n 1, 1) := by decide +kernel
theorem dX1_order_7 : decode cX1_order 7 = .ok (.invokevirtual 94, 3) := by decide +kernel
theorem dX1_order_10 : decode cX1_order 10 = .ok (.ifCond .eq 20, 3) := by decide +kernel
theorem dX1_order_13 : decode cX1_order 13 = .ok (.aload_n 0, 1) := by decide +kernel
theorem dX1_order_14 : decode cX1_order 14 = .ok (.iload_n 2, 1) := by decide +kernel
theorem dX1_order_15 : decode cX1_order 15 = .ok (.invokevirtual 94, 3) := by decide +kernel
theorem dX1_order_18 : decode cX1_order 18 = .ok (.ifCond .eq 12, 3) := by decide +kernel
theorem dX1_order_21 : decode cX1_order 21 = .ok (.aload_n 0, 1) := by decide +kernel
theorem dX1_order_22 : decode cX1_order 22 = .ok (.iload_n 1, 1) := by decide +kernel
theorem dX1_order_23 : decode cX1_order 23 = .ok (.iload_n 2, 1) := by decide +kernel
theorem dX1_order_24 : decode cX1_order 24 = .ok (.invokevirtual 108, 3) := by decide +kernel
theorem dX1_order_27 : decode cX1_order 27 = .ok (.goto 5, 3) := by decide +kernel
theorem dX1_order_30 : decode cX1_order 30 = .ok (.bipush (-2), 2) := by decide +kernel
theorem dX1_order_32 : decode cX1_order 32 = .ok (.ireturn, 1) := by decide +kernel
set_option maxRecDepth 20000 in
theorem ggX1_part_X1_isNumber : GoodIn wsX1_part wsX1_isNumber := goodIn_r _ [9, 10, 11, 12, 8, 13, 14, 15, 16, 17, 18, 19, 20, 21, 22, 23, 24, 25, 26, 27, 28, 29, 30] (by decide +kernel) (by decide +kernel)
set_option maxRecDepth 20000 in
theorem gX1_part_X1_isNumber : GoodIn wsX1_part (wsV RX1 94 RX1 yX1_isNumber wsX1_isNumber) := goodIn_app (goodIn_of _ (by decide +kernel)) ggX1_part_X1_isNumber
set_option maxRecDepth 20000 in
theorem ggX1_part_X1_isIn : GoodIn wsX1_part wsX1_isIn := goodIn_r _ [13] (by decide +kernel) (by decide +kernel)
set_option maxRecDepth 20000 in
theorem gX1_part_X1_isIn : GoodIn wsX1_part (va_wsS RX1 59 yX1_isIn wsX1_isIn) := goodIn_app (goodIn_of _ (by decide +kernel)) ggX1_part_X1_isIn
theorem dX1_part_0 : decode cX1_part 0 = .ok (.aload_n 0, 1) := by decide +kernel
theorem dX1_part_1 : decode cX1_part 1 = .ok (.iconst 0, 1) := by decide +kernel
theorem dX1_part_2 : decode cX1_part 2 = .ok (.putfield 43, 3) := by decide +kernel
theorem dX1_part_5 : decode cX1_part 5 = .ok (.aload_n 0, 1) := by decide +kernel
theorem dX1_part_6 : decode cX1_part 6 = .ok (.iload_n 1, 1) := by decide +kernel
theorem dX1_part_7 : decode cX1_part 7 = .ok (.invokevirtual 94, 3) := by decide +kernel
theorem dX1_part_10 : decode cX1_part 10 = .ok (.ifCond .eq 13, 3) := by decide +kernel
theorem dX1_part_13 : decode cX1_part 13 = .ok (.iload_n 2, 1) := by decide +kernel
theorem dX1_part_14 : decode cX1_part 14 = .ok (.i2l, 1) := by decide +kernel
theorem dX1_part_15 : decode cX1_part 15 = .ok (.lconst 0, 1) := by decide +kernel
theorem dX1_part_16 : decode cX1_part 16 = .ok (.lconst 1, 1) := by decide +kernel
theorem dX1_part_17 : decode cX1_part 17 = .ok (.invokestatic 59, 3) := by decide +kernel
theorem dX1_part_20 : decode cX1_part 20 = .ok (.ifCond .ne 9, 3) := by decide +kernel
theorem dX1_part_23 : decode cX1_part 23 = .ok (.ldc2_w 69, 3) := by decide +kernel
theorem dX1_part_26 : decode cX1_part 26 = .ok (.goto 22, 3) := by decide +kernel
theorem dX1_part_29 : decode cX1_part 29 = .ok (.iload_n 2, 1) := by decide +kernel
theorem dX1_part_30 : decode cX1_part 30 = .ok (.ifCond .ne 12, 3) := by decide +kernel
theorem dX1_part_33 : decode cX1_part 33 = .ok (.aload_n 0, 1) := by decide +kernel
theorem dX1_part_34 : decode cX1_part 34 = .ok (.getfield 7, 3) := by decide +kernel
theorem dX1_part_37 : decode cX1_part 37 = .ok (.iload_n 1, 1) := by decide +kernel
theorem dX1_part_38 : decode cX1_part 38 = .ok (.laload, 1) := by decide +kernel
theorem dX1_part_39 : decode cX1_part 39 = .ok (.goto 9, 3) := by decide +kernel
theorem dX1_part_42 : decode cX1_part 42 = .ok (.aload_n 0, 1) := by decide +kernel
theorem dX1_part_43 : decode cX1_part 43 = .ok (.getfield 13, 3) := by decide +kernel
theorem dX1_part_46 : decode cX1_part 46 = .ok (.iload_n 1, 1) := by decide +kernel
theorem dX1_part_47 : decode cX1_part 47 = .ok (.laload, 1) := by decide +kernel
theorem dX1_part_48 : decode cX1_part 48 = .ok (.lreturn, 1) := by decide +kernel
set_option maxRecDepth 20000 in
theorem ggX1_simplest_X1_isNumber : GoodIn wsX1_simplest wsX1_isNumber := goodIn_r _ [8, 2, 9, 10, 7, 11, 39, 40, 41, 42, 43, 44, 45, 46, 47, 48, 49, 50, 51, 52, 53, 54, 55] (by decide +kernel) (by decide +kernel)
set_option maxRecDepth 20000 in
theorem gX1_simplest_X1_isNumber : GoodIn wsX1_simplest (wsV RX1 94 RX1 yX1_isNumber wsX1_isNumber) := goodIn_app (goodIn_of _ (by decide +kernel)) ggX1_simplest_X1_isNumber
set_option maxRecDepth 20000 in
theorem ggX1_simplest_X1_ordered : GoodIn wsX1_simplest wsX1_ordered := goodIn_r _ [15, 3, 16, 17, 18, 7, 19, 20, 21, 22, 23, 24, 25, 26, 39, 40, 41, 42, 43, 44, 45, 46, 47, 48, 49, 50, 51, 52, 53, 54, 55] (by decide +kernel) (by decide +kernel)
set_option maxRecDepth 20000 in
theorem gX1_simplest_X1_ordered : GoodIn wsX1_simplest (wsV RX1 108 RX1 yX1_ordered wsX1_ordered) := goodIn_app (goodIn_of _ (by decide +kernel)) ggX1_simplest_X1_ordered
set_option maxRecDepth 20000 in
theorem ggX1_simplest_X1_kept : GoodIn wsX1_simplest wsX1_kept := goodIn_r _ [30, 31, 3, 2, 16, 32, 33, 7, 34, 17, 18, 19, 39, 40, 41, 42, 43, 44, 45, 46, 47, 48, 49, 50, 51, 52, 53, 54, 55] (by decide +kernel) (by decide +kernel)
set_option maxRecDepth 20000 in
theorem gX1_simplest_X1_kept : GoodIn wsX1_simplest (wsV RX1 71 RX1 yX1_kept wsX1_kept) := goodIn_app (goodIn_of _ (by decide +kernel)) ggX1_simplest_X1_kept
set_option maxRecDepth 20000 in
theorem ggX1_simplest_X1_between : GoodIn wsX1_simplest wsX1_between := goodIn_r _ [38, 3, 16, 17, 18, 7, 19, 27, 28, 29, 30, 31, 2, 32, 33, 34, 39, 40, 41, 42, 43, 44, 45, 46, 47, 48, 49, 50, 51, 52, 53, 54, 55] (by decide +kernel) (by decide +kernel)
set_option maxRecDepth 20000 in
theorem gX1_simplest_X1_between : GoodIn wsX1_simplest (wsV RX1 111 RX1 yX1_between wsX1_between) := goodIn_app (goodIn_of _ (by decide +kernel)) ggX1_simplest_X1_between
theorem dX1_simplest_0 : decode cX1_simplest 0 = .ok (.aload_n 0, 1) := by decide +kernel
theorem dX1_simplest_1 : decode cX1_simplest 1 = .ok (.iconst 0, 1) := by decide +kernel
theorem dX1_simplest_2 : decode cX1_simplest 2 = .ok (.putfield 43, 3) := by decide +kernel
theorem dX1_simplest_5 : decode cX1_simplest 5 = .ok (.aload_n 0, 1) := by decide +kernel
theorem dX1_simplest_6 : decode cX1_simplest 6 = .ok (.iload_n 1, 1) := by decide +kernel
theorem dX1_simplest_7 : decode cX1_simplest 7 = .ok (.invokevirtual 94, 3) := by decide +kernel
theorem dX1_simplest_10 : decode cX1_simplest 10 = .ok (.ifCond .eq 11, 3) := by decide +kernel
theorem dX1_simplest_13 : decode cX1_simplest 13 = .ok (.aload_n 0, 1) := by decide +kernel
theorem dX1_simplest_14 : decode cX1_simplest 14 = .ok (.iload_n 2, 1) := by decide +kernel
theorem dX1_simplest_15 : decode cX1_simplest 15 = .ok (.invokevirtual 94, 3) := by decide +kernel
theorem dX1_simplest_18 : decode cX1_simplest 18 = .ok (.ifCond .ne 5, 3) := by decide +kernel
theorem dX1_simplest_21 : decode cX1_simplest 21 = .ok (.iconst (-1), 1) := by decide +kernel
theorem dX1_simplest_22 : decode cX1_simplest 22 = .ok (.ireturn, 1) := by decide +kernel
theorem dX1_simplest_23 : decode cX1_simplest 23 = .ok (.aload_n 0, 1) := by decide +kernel
theorem dX1_simplest_24 : decode cX1_simplest 24 = .ok (.getfield 56, 3) := by decide +kernel
theorem dX1_simplest_27 : decode cX1_simplest 27 = .ok (.bipush 40, 2) := by decide +kernel
theorem dX1_simplest_29 : decode cX1_simplest 29 = .ok (.if_icmp .ne 6, 3) := by decide +kernel
theorem dX1_simplest_32 : decode cX1_simplest 32 = .ok (.bipush (-4), 2) := by decide +kernel
theorem dX1_simplest_34 : decode cX1_simplest 34 = .ok (.ireturn, 1) := by decide +kernel
theorem dX1_simplest_35 : decode cX1_simplest 35 = .ok (.aload_n 0, 1) := by decide +kernel
theorem dX1_simplest_36 : decode cX1_simplest 36 = .ok (.iload_n 1, 1) := by decide +kernel
theorem dX1_simplest_37 : decode cX1_simplest 37 = .ok (.iload_n 2, 1) := by decide +kernel
theorem dX1_simplest_38 : decode cX1_simplest 38 = .ok (.invokevirtual 108, 3) := by decide +kernel
theorem dX1_simplest_41 : decode cX1_simplest 41 = .ok (.ifCond .le 7, 3) := by decide +kernel
theorem dX1_simplest_44 : decode cX1_simplest 44 = .ok (.iconst 1, 1) := by decide +kernel
theorem dX1_simplest_45 : decode cX1_simplest 45 = .ok (.goto 4, 3) := by decide +kernel
theorem dX1_simplest_48 : decode cX1_simplest 48 = .ok (.iconst 0, 1) := by decide +kernel
theorem dX1_simplest_49 : decode cX1_simplest 49 = .ok (.istore_n 3, 1) := by decide +kernel
theorem dX1_simplest_50 : decode cX1_simplest 50 = .ok (.iload_n 3, 1) := by decide +kernel
theorem dX1_simplest_51 : decode cX1_simplest 51 = .ok (.ifCond .eq 7, 3) := by decide +kernel
theorem dX1_simplest_54 : decode cX1_simplest 54 = .ok (.iload_n 2, 1) := by decide +kernel
theorem dX1_simplest_55 : decode cX1_simplest 55 = .ok (.goto 4, 3) := by decide +kernel
theorem dX1_simplest_58 : decode cX1_simplest 58 = .ok (.iload_n 1, 1) := by decide +kernel
theorem dX1_simplest_59 : decode cX1_simplest 59 = .ok (.istore 4, 2) := by decide +kernel
theorem dX1_simplest_61 : decode cX1_simplest 61 = .ok (.iload_n 3, 1) := by decide +kernel
theorem dX1_simplest_62 : decode cX1_simplest 62 = .ok (.ifCond .eq 7, 3) := by decide +kernel
theorem dX1_simplest_65 : decode cX1_simplest 65 = .ok (.iload_n 1, 1) := by decide +kernel
theorem dX1_simplest_66 : decode cX1_simplest 66 = .ok (.goto 4, 3) := by decide +kernel
theorem dX1_simplest_69 : decode cX1_simplest 69 = .ok (.iload_n 2, 1) := by decide +kernel
theorem dX1_simplest_70 : decode cX1_simplest 70 = .ok (.istore 5, 2) := by decide +kernel
theorem dX1_simplest_72 : decode cX1_simplest 72 = .ok (.aload_n 0, 1) := by decide +kernel
theorem dX1_simplest_73 : decode cX1_simplest 73 = .ok (.getfield 7, 3) := by decide +kernel
theorem dX1_simplest_76 : decode cX1_simplest 76 = .ok (.iload 4, 2) := by decide +kernel
theorem dX1_simplest_78 : decode cX1_simplest 78 = .ok (.laload, 1) := by decide +kernel
theorem dX1_simplest_79 : decode cX1_simplest 79 = .ok (.lconst 0, 1) := by decide +kernel
theorem dX1_simplest_80 : decode cX1_simplest 80 = .ok (.lcmp, 1) := by decide +kernel
theorem dX1_simplest_81 : decode cX1_simplest 81 = .ok (.ifCond .gt 22, 3) := by decide +kernel
theorem dX1_simplest_84 : decode cX1_simplest 84 = .ok (.aload_n 0, 1) := by decide +kernel
theorem dX1_simplest_85 : decode cX1_simplest 85 = .ok (.getfield 7, 3) := by decide +kernel
theorem dX1_simplest_88 : decode cX1_simplest 88 = .ok (.iload 5, 2) := by decide +kernel
theorem dX1_simplest_90 : decode cX1_simplest 90 = .ok (.laload, 1) := by decide +kernel
theorem dX1_simplest_91 : decode cX1_simplest 91 = .ok (.lconst 0, 1) := by decide +kernel
theorem dX1_simplest_92 : decode cX1_simplest 92 = .ok (.lcmp, 1) := by decide +kernel
theorem dX1_simplest_93 : decode cX1_simplest 93 = .ok (.ifCond .lt 10, 3) := by decide +kernel
theorem dX1_simplest_96 : decode cX1_simplest 96 = .ok (.aload_n 0, 1) := by decide +kernel
theorem dX1_simplest_97 : decode cX1_simplest 97 = .ok (.lconst 0, 1) := by decide +kernel
theorem dX1_simplest_98 : decode cX1_simplest 98 = .ok (.lconst 1, 1) := by decide +kernel
theorem dX1_simplest_99 : decode cX1_simplest 99 = .ok (.invokevirtual 71, 3) := by decide +kernel
theorem dX1_simplest_102 : decode cX1_simplest 102 = .ok (.ireturn, 1) := by decide +kernel
theorem dX1_simplest_103 : decode cX1_simplest 103 = .ok (.aload_n 0, 1) := by decide +kernel
theorem dX1_simplest_104 : decode cX1_simplest 104 = .ok (.getfield 7, 3) := by decide +kernel
theorem dX1_simplest_107 : decode cX1_simplest 107 = .ok (.iload 5, 2) := by decide +kernel
theorem dX1_simplest_109 : decode cX1_simplest 109 = .ok (.laload, 1) := by decide +kernel
theorem dX1_simplest_110 : decode cX1_simplest 110 = .ok (.lconst 0, 1) := by decide +kernel
theorem dX1_simplest_111 : decode cX1_simplest 111 = .ok (.lcmp, 1) := by decide +kernel
theorem dX1_simplest_112 : decode cX1_simplest 112 = .ok (.ifCond .ge 7, 3) := by decide +kernel
theorem dX1_simplest_115 : decode cX1_simplest 115 = .ok (.iconst 1, 1) := by decide +kernel
theorem dX1_simplest_116 : decode cX1_simplest 116 = .ok (.goto 4, 3) := by decide +kernel
theorem dX1_simplest_119 : decode cX1_simplest 119 = .ok (.iconst 0, 1) := by decide +kernel
theorem dX1_simplest_120 : decode cX1_simplest 120 = .ok (.istore 6, 2) := by decide +kernel
theorem dX1_simplest_122 : decode cX1_simplest 122 = .ok (.aload_n 0, 1) := by decide +kernel
theorem dX1_simplest_123 : decode cX1_simplest 123 = .ok (.iload 6, 2) := by decide +kernel
theorem dX1_simplest_125 : decode cX1_simplest 125 = .ok (.ifCond .eq 8, 3) := by decide +kernel
theorem dX1_simplest_128 : decode cX1_simplest 128 = .ok (.iload 5, 2) := by decide +kernel
theorem dX1_simplest_130 : decode cX1_simplest 130 = .ok (.goto 5, 3) := by decide +kernel
theorem dX1_simplest_133 : decode cX1_simplest 133 = .ok (.iload 4, 2) := by decide +kernel
theorem dX1_simplest_135 : decode cX1_simplest 135 = .ok (.iload 6, 2) := by decide +kernel
theorem dX1_simplest_137 : decode cX1_simplest 137 = .ok (.ifCond .eq 8, 3) := by decide +kernel
theorem dX1_simplest_140 : decode cX1_simplest 140 = .ok (.iload 4, 2) := by decide +kernel
theorem dX1_simplest_142 : decode cX1_simplest 142 = .ok (.goto 5, 3) := by decide +kernel
theorem dX1_simplest_145 : decode cX1_simplest 145 = .ok (.iload 5, 2) := by decide +kernel
theorem dX1_simplest_147 : decode cX1_simplest 147 = .ok (.iload 6, 2) := by decide +kernel
theorem dX1_simplest_149 : decode cX1_simplest 149 = .ok (.invokevirtual 111, 3) := by decide +kernel
theorem dX1_simplest_152 : decode cX1_simplest 152 = .ok (.ireturn, 1) := by decide +kernel
set_option maxRecDepth 20000 in
theorem ggX1_between_X1_sizeOf : GoodIn wsX1_between wsX1_sizeOf := goodIn_r _ [6] (by decide +kernel) (by decide +kernel)
set_option maxRecDepth 20000 in
theorem gX1_between_X1_sizeOf : GoodIn wsX1_between (va_wsS RX1 46 yX1_sizeOf wsX1_sizeOf) := goodIn_app (goodIn_of _ (by decide +kernel)) ggX1_between_X1_sizeOf
set_option maxRecDepth 20000 in
theorem ggX1_between_X1_kept : GoodIn wsX1_between wsX1_kept := goodIn_r _ [10, 11, 1, 12, 2, 13, 14, 5, 15, 3, 4, 6, 16, 17, 18, 19, 20, 21, 22, 23, 24, 25, 26, 27, 28, 29, 30, 31, 32] (by decide +kernel) (by decide +kernel)
set_option maxRecDepth 20000 in
theorem gX1_between_X1_kept : GoodIn wsX1_between (wsV RX1 71 RX1 yX1_kept wsX1_kept) := goodIn_app (goodIn_of _ (by decide +kernel)) ggX1_between_X1_kept
theorem dX1_between_0 : decode cX1_between 0 = .ok (.aload_n 0, 1) := by decide +kernel
theorem dX1_between_1 : decode cX1_between 1 = .ok (.getfield 7, 3) := by decide +kernel
theorem dX1_between_4 : decode cX1_between 4 = .ok (.iload_n 1, 1) := by decide +kernel
theorem dX1_between_5 : decode cX1_between 5 = .ok (.laload, 1) := by decide +kernel
theorem dX1_between_6 : decode cX1_between 6 = .ok (.invokestatic 46, 3) := by decide +kernel
theorem dX1_between_9 : decode cX1_between 9 = .ok (.lstore 4, 2) := by decide +kernel
theorem dX1_between_11 : decode cX1_between 11 = .ok (.aload_n 0, 1) := by decide +kernel
theorem dX1_between_12 : decode cX1_between 12 = .ok (.getfield 13, 3) := by decide +kernel
theorem dX1_between_15 : decode cX1_between 15 = .ok (.iload_n 1, 1) := by decide +kernel
theorem dX1_between_16 : decode cX1_between 16 = .ok (.laload, 1) := by decide +kernel
theorem dX1_between_17 : decode cX1_between 17 = .ok (.lstore 6, 2) := by decide +kernel
theorem dX1_between_19 : decode cX1_between 19 = .ok (.aload_n 0, 1) := by decide +kernel
theorem dX1_between_20 : decode cX1_between 20 = .ok (.getfield 7, 3) := by decide +kernel
theorem dX1_between_23 : decode cX1_between 23 = .ok (.iload_n 2, 1) := by decide +kernel
theorem dX1_between_24 : decode cX1_between 24 = .ok (.laload, 1) := by decide +kernel
theorem dX1_between_25 : decode cX1_between 25 = .ok (.invokestatic 46, 3) := by decide +kernel
theorem dX1_between_28 : decode cX1_between 28 = .ok (.lstore 8, 2) := by decide +kernel
theorem dX1_between_30 : decode cX1_between 30 = .ok (.aload_n 0, 1) := by decide +kernel
theorem dX1_between_31 : decode cX1_between 31 = .ok (.getfield 13, 3) := by decide +kernel
theorem dX1_between_34 : decode cX1_between 34 = .ok (.iload_n 2, 1) := by decide +kernel
theorem dX1_between_35 : decode cX1_between 35 = .ok (.laload, 1) := by decide +kernel
theorem dX1_between_36 : decode cX1_between 36 = .ok (.lstore 10, 2) := by decide +kernel
theorem dX1_between_38 : decode cX1_between 38 = .ok (.lconst 0, 1) := by decide +kernel
theorem dX1_between_39 : decode cX1_between 39 = .ok (.lstore 12, 2) := by decide +kernel
theorem dX1_between_41 : decode cX1_between 41 = .ok (.lconst 1, 1) := by decide +kernel
theorem dX1_between_42 : decode cX1_between 42 = .ok (.lstore 14, 2) := by decide +kernel
theorem dX1_between_44 : decode cX1_between 44 = .ok (.lconst 1, 1) := by decide +kernel
theorem dX1_between_45 : decode cX1_between 45 = .ok (.lstore 16, 2) := by decide +kernel
theorem dX1_between_47 : decode cX1_between 47 = .ok (.lconst 0, 1) := by decide +kernel
theorem dX1_between_48 : decode cX1_between 48 = .ok (.lstore 18, 2) := by decide +kernel
theorem dX1_between_50 : decode cX1_between 50 = .ok (.iconst 1, 1) := by decide +kernel
theorem dX1_between_51 : decode cX1_between 51 = .ok (.istore 20, 2) := by decide +kernel
theorem dX1_between_53 : decode cX1_between 53 = .ok (.iload 20, 2) := by decide +kernel
theorem dX1_between_55 : decode cX1_between 55 = .ok (.ifCond .eq 133, 3) := by decide +kernel
theorem dX1_between_58 : decode cX1_between 58 = .ok (.lload 4, 2) := by decide +kernel
theorem dX1_between_60 : decode cX1_between 60 = .ok (.lload 6, 2) := by decide +kernel
theorem dX1_between_62 : decode cX1_between 62 = .ok (.ldiv, 1) := by decide +kernel
theorem dX1_between_63 : decode cX1_between 63 = .ok (.lstore 21, 2) := by decide +kernel
theorem dX1_between_65 : decode cX1_between 65 = .ok (.lload 4, 2) := by decide +kernel
theorem dX1_between_67 : decode cX1_between 67 = .ok (.lload 6, 2) := by decide +kernel
theorem dX1_between_69 : decode cX1_between 69 = .ok (.lrem, 1) := by decide +kernel
theorem dX1_between_70 : decode cX1_between 70 = .ok (.lconst 0, 1) := by decide +kernel
theorem dX1_between_71 : decode cX1_between 71 = .ok (.lcmp, 1) := by decide +kernel
theorem dX1_between_72 : decode cX1_between 72 = .ok (.ifCond .eq 18, 3) := by decide +kernel
theorem dX1_between_75 : decode cX1_between 75 = .ok (.lload 8, 2) := by decide +kernel
theorem dX1_between_77 : decode cX1_between 77 = .ok (.lload 10, 2) := by decide +kernel
theorem dX1_between_79 : decode cX1_between 79 = .ok (.ldiv, 1) := by decide +kernel
theorem dX1_between_80 : decode cX1_between 80 = .ok (.lload 21, 2) := by decide +kernel
theorem dX1_between_82 : decode cX1_between 82 = .ok (.lcmp, 1) := by decide +kernel
theorem dX1_between_83 : decode cX1_between 83 = .ok (.ifCond .ne 7, 3) := by decide +kernel
theorem dX1_between_86 : decode cX1_between 86 = .ok (.iconst 1, 1) := by decide +kernel
theorem dX1_between_87 : decode cX1_between 87 = .ok (.goto 4, 3) := by decide +kernel
theorem dX1_between_90 : decode cX1_between 90 = .ok (.iconst 0, 1) := by decide +kernel
theorem dX1_between_91 : decode cX1_between 91 = .ok (.istore 20, 2) := by decide +kernel
theorem dX1_between_93 : decode cX1_between 93 = .ok (.iload 20, 2) := by decide +kernel
theorem dX1_between_95 : decode cX1_between 95 = .ok (.ifCond .ne 19, 3) := by decide +kernel
theorem dX1_between_98 : decode cX1_between 98 = .ok (.lload 4, 2) := by decide +kernel
theorem dX1_between_100 : decode cX1_between 100 = .ok (.lload 6, 2) := by decide +kernel
theorem dX1_between_102 : decode cX1_between 102 = .ok (.lrem, 1) := by decide +kernel
theorem dX1_between_103 : decode cX1_between 103 = .ok (.lconst 0, 1) := by decide +kernel
theorem dX1_between_104 : decode cX1_between 104 = .ok (.lcmp, 1) := by decide +kernel
theorem dX1_between_105 : decode cX1_between 105 = .ok (.ifCond .eq 9, 3) := by decide +kernel
theorem dX1_between_108 : decode cX1_between 108 = .ok (.lload 21, 2) := by decide +kernel
theorem dX1_between_110 : decode cX1_between 110 = .ok (.lconst 1, 1) := by decide +kernel
theorem dX1_between_111 : decode cX1_between 111 = .ok (.ladd, 1) := by decide +kernel
theorem dX1_between_112 : decode cX1_between 112 = .ok (.lstore 21, 2) := by decide +kernel
theorem dX1_between_114 : decode cX1_between 114 = .ok (.lload 21, 2) := by decide +kernel
theorem dX1_between_116 : decode cX1_between 116 = .ok (.lload 16, 2) := by decide +kernel
theorem dX1_between_118 : decode cX1_between 118 = .ok (.lmul, 1) := by decide +kernel
theorem dX1_between_119 : decode cX1_between 119 = .ok (.lload 12, 2) := by decide +kernel
theorem dX1_between_121 : decode cX1_between 121 = .ok (.ladd, 1) := by decide +kernel
theorem dX1_between_122 : decode cX1_between 122 = .ok (.lstore 23, 2) := by decide +kernel
theorem dX1_between_124 : decode cX1_between 124 = .ok (.lload 21, 2) := by decide +kernel
theorem dX1_between_126 : decode cX1_between 126 = .ok (.lload 18, 2) := by decide +kernel
theorem dX1_between_128 : decode cX1_between 128 = .ok (.lmul, 1) := by decide +kernel
theorem dX1_between_129 : decode cX1_between 129 = .ok (.lload 14, 2) := by decide +kernel
theorem dX1_between_131 : decode cX1_between 131 = .ok (.ladd, 1) := by decide +kernel
theorem dX1_between_132 : decode cX1_between 132 = .ok (.lstore 25, 2) := by decide +kernel
theorem dX1_between_134 : decode cX1_between 134 = .ok (.lload 16, 2) := by decide +kernel
theorem dX1_between_136 : decode cX1_between 136 = .ok (.lstore 12, 2) := by decide +kernel
theorem dX1_between_138 : decode cX1_between 138 = .ok (.lload 18, 2) := by decide +kernel
theorem dX1_between_140 : decode cX1_between 140 = .ok (.lstore 14, 2) := by decide +kernel
theorem dX1_between_142 : decode cX1_between 142 = .ok (.lload 23, 2) := by decide +kernel
theorem dX1_between_144 : decode cX1_between 144 = .ok (.lstore 16, 2) := by decide +kernel
theorem dX1_between_146 : decode cX1_between 146 = .ok (.lload 25, 2) := by decide +kernel
theorem dX1_between_148 : decode cX1_between 148 = .ok (.lstore 18, 2) := by decide +kernel
theorem dX1_between_150 : decode cX1_between 150 = .ok (.iload 20, 2) := by decide +kernel
theorem dX1_between_152 : decode cX1_between 152 = .ok (.ifCond .eq 33, 3) := by decide +kernel
theorem dX1_between_155 : decode cX1_between 155 = .ok (.lload 4, 2) := by decide +kernel
theorem dX1_between_157 : decode cX1_between 157 = .ok (.lload 6, 2) := by decide +kernel
theorem dX1_between_159 : decode cX1_between 159 = .ok (.lrem, 1) := by decide +kernel
theorem dX1_between_160 : decode cX1_between 160 = .ok (.lstore 27, 2) := by decide +kernel
theorem dX1_between_162 : decode cX1_between 162 = .ok (.lload 8, 2) := by decide +kernel
theorem dX1_between_164 : decode cX1_between 164 = .ok (.lload 10, 2) := by decide +kernel
theorem dX1_between_166 : decode cX1_between 166 = .ok (.lrem, 1) := by decide +kernel
theorem dX1_between_167 : decode cX1_between 167 = .ok (.lstore 29, 2) := by decide +kernel
theorem dX1_between_169 : decode cX1_between 169 = .ok (.lload 10, 2) := by decide +kernel
theorem dX1_between_171 : decode cX1_between 171 = .ok (.lstore 4, 2) := by decide +kernel
theorem dX1_between_173 : decode cX1_between 173 = .ok (.lload 6, 2) := by decide +kernel
theorem dX1_between_175 : decode cX1_between 175 = .ok (.lstore 8, 2) := by decide +kernel
theorem dX1_between_177 : decode cX1_between 177 = .ok (.lload 29, 2) := by decide +kernel
theorem dX1_between_179 : decode cX1_between 179 = .ok (.lstore 6, 2) := by decide +kernel
theorem dX1_between_181 : decode cX1_between 181 = .ok (.lload 27, 2) := by decide +kernel
theorem dX1_between_183 : decode cX1_between 183 = .ok (.lstore 10, 2) := by decide +kernel
theorem dX1_between_185 : decode cX1_between 185 = .ok (.goto (-132), 3) := by decide +kernel
theorem dX1_between_188 : decode cX1_between 188 = .ok (.aload_n 0, 1) := by decide +kernel
theorem dX1_between_189 : decode cX1_between 189 = .ok (.iload_n 3, 1) := by decide +kernel
theorem dX1_between_190 : decode cX1_between 190 = .ok (.ifCond .eq 9, 3) := by decide +kernel
theorem dX1_between_193 : decode cX1_between 193 = .ok (.lload 16, 2) := by decide +kernel
theorem dX1_between_195 : decode cX1_between 195 = .ok (.lneg, 1) := by decide +kernel
theorem dX1_between_196 : decode cX1_between 196 = .ok (.goto 5, 3) := by decide +kernel
theorem dX1_between_199 : decode cX1_between 199 = .ok (.lload 16, 2) := by decide +kernel
theorem dX1_between_201 : decode cX1_between 201 = .ok (.lload 18, 2) := by decide +kernel
theorem dX1_between_203 : decode cX1_between 203 = .ok (.invokevirtual 71, 3) := by decide +kernel
theorem dX1_between_206 : decode cX1_between 206 = .ok (.ireturn, 1) := by decide +kernel
set_option maxRecDepth 20000 in
theorem ggX1_near_X1_isNumber : GoodIn wsX1_near wsX1_isNumber := goodIn_r _ [10, 3, 11, 12, 9, 13, 35, 36, 37, 38, 39, 40, 41, 42, 43, 44, 45, 46, 47, 48, 49, 50, 51] (by decide +kernel) (by decide +kernel)
set_option maxRecDepth 20000 in
theorem gX1_near_X1_isNumber : GoodIn wsX1_near (wsV RX1 94 RX1 yX1_isNumber wsX1_isNumber) := goodIn_app (goodIn_of _ (by decide +kernel)) ggX1_near_X1_isNumber
set_option maxRecDepth 20000 in
theorem ggX1_near_X1_isIn : GoodIn wsX1_near wsX1_isIn := goodIn_r _ [13] (by decide +kernel) (by decide +kernel)
set_option maxRecDepth 20000 in
theorem gX1_near_X1_isIn : GoodIn wsX1_near (va_wsS RX1 59 yX1_isIn wsX1_isIn) := goodIn_app (goodIn_of _ (by decide +kernel)) ggX1_near_X1_isIn
set_option maxRecDepth 20000 in
theorem ggX1_near_X1_kept : GoodIn wsX1_near wsX1_kept := goodIn_r _ [17, 18, 5, 3, 4, 19, 20, 9, 21, 22, 23, 24, 35, 36, 37, 38, 39, 40, 41, 42, 43, 44, 45, 46, 47, 48, 49, 50, 51] (by decide +kernel) (by decide +kernel)
set_option maxRecDepth 20000 in
theorem gX1_near_X1_kept : GoodIn wsX1_near (wsV RX1 71 RX1 yX1_kept wsX1_kept) := goodIn_app (goodIn_of _ (by decide +kernel)) ggX1_near_X1_kept
set_option maxRecDepth 20000 in
theorem ggX1_near_X1_floor : GoodIn wsX1_near wsX1_floor := goodIn_r _ [27] (by decide +kernel) (by decide +kernel)
set_option maxRecDepth 20000 in
theorem gX1_near_X1_floor : GoodIn wsX1_near (va_wsS RX1 117 yX1_floor wsX1_floor) := goodIn_app (goodIn_of _ (by decide +kernel)) ggX1_near_X1_floor
set_option maxRecDepth 20000 in
theorem ggX1_near_X1_compared : GoodIn wsX1_near wsX1_compared := goodIn_r _ [31, 32, 33, 34, 35, 36, 37, 38, 39, 40, 41, 42, 43, 44, 45, 46, 47, 48, 49, 50, 51] (by decide +kernel) (by decide +kernel)
set_option maxRecDepth 20000 in
theorem gX1_near_X1_compared : GoodIn wsX1_near (wsV RX1 105 RX1 yX1_compared wsX1_compared) := goodIn_app (goodIn_of _ (by decide +kernel)) ggX1_near_X1_compared
theorem dX1_near_0 : decode cX1_near 0 = .ok (.aload_n 0, 1) := by decide +kernel
theorem dX1_near_1 : decode cX1_near 1 = .ok (.iconst 0, 1) := by decide +kernel
theorem dX1_near_2 : decode cX1_near 2 = .ok (.putfield 43, 3) := by decide +kernel
theorem dX1_near_5 : decode cX1_near 5 = .ok (.aload_n 0, 1) := by decide +kernel
theorem dX1_near_6 : decode cX1_near 6 = .ok (.iload_n 1, 1) := by decide +kernel
theorem dX1_near_7 : decode cX1_near 7 = .ok (.invokevirtual 94, 3) := by decide +kernel
theorem dX1_near_10 : decode cX1_near 10 = .ok (.ifCond .eq 15, 3) := by decide +kernel
theorem dX1_near_13 : decode cX1_near 13 = .ok (.iload_n 2, 1) := by decide +kernel
theorem dX1_near_14 : decode cX1_near 14 = .ok (.i2l, 1) := by decide +kernel
theorem dX1_near_15 : decode cX1_near 15 = .ok (.lconst 1, 1) := by decide +kernel
theorem dX1_near_16 : decode cX1_near 16 = .ok (.ldc2_w 115, 3) := by decide +kernel
theorem dX1_near_19 : decode cX1_near 19 = .ok (.invokestatic 59, 3) := by decide +kernel
theorem dX1_near_22 : decode cX1_near 22 = .ok (.ifCond .ne 5, 3) := by decide +kernel
theorem dX1_near_25 : decode cX1_near 25 = .ok (.iconst (-1), 1) := by decide +kernel
theorem dX1_near_26 : decode cX1_near 26 = .ok (.ireturn, 1) := by decide +kernel
theorem dX1_near_27 : decode cX1_near 27 = .ok (.aload_n 0, 1) := by decide +kernel
theorem dX1_near_28 : decode cX1_near 28 = .ok (.getfield 56, 3) := by decide +kernel
theorem dX1_near_31 : decode cX1_near 31 = .ok (.bipush 40, 2) := by decide +kernel
theorem dX1_near_33 : decode cX1_near 33 = .ok (.if_icmp .ne 6, 3) := by decide +kernel
theorem dX1_near_36 : decode cX1_near 36 = .ok (.bipush (-4), 2) := by decide +kernel
theorem dX1_near_38 : decode cX1_near 38 = .ok (.ireturn, 1) := by decide +kernel
theorem dX1_near_39 : decode cX1_near 39 = .ok (.aload_n 0, 1) := by decide +kernel
theorem dX1_near_40 : decode cX1_near 40 = .ok (.getfield 13, 3) := by decide +kernel
theorem dX1_near_43 : decode cX1_near 43 = .ok (.iload_n 1, 1) := by decide +kernel
theorem dX1_near_44 : decode cX1_near 44 = .ok (.laload, 1) := by decide +kernel
theorem dX1_near_45 : decode cX1_near 45 = .ok (.iload_n 2, 1) := by decide +kernel
theorem dX1_near_46 : decode cX1_near 46 = .ok (.i2l, 1) := by decide +kernel
theorem dX1_near_47 : decode cX1_near 47 = .ok (.lcmp, 1) := by decide +kernel
theorem dX1_near_48 : decode cX1_near 48 = .ok (.ifCond .gt 20, 3) := by decide +kernel
theorem dX1_near_51 : decode cX1_near 51 = .ok (.aload_n 0, 1) := by decide +kernel
theorem dX1_near_52 : decode cX1_near 52 = .ok (.aload_n 0, 1) := by decide +kernel
theorem dX1_near_53 : decode cX1_near 53 = .ok (.getfield 7, 3) := by decide +kernel
theorem dX1_near_56 : decode cX1_near 56 = .ok (.iload_n 1, 1) := by decide +kernel
theorem dX1_near_57 : decode cX1_near 57 = .ok (.laload, 1) := by decide +kernel
theorem dX1_near_58 : decode cX1_near 58 = .ok (.aload_n 0, 1) := by decide +kernel
theorem dX1_near_59 : decode cX1_near 59 = .ok (.getfield 13, 3) := by decide +kernel
theorem dX1_near_62 : decode cX1_near 62 = .ok (.iload_n 1, 1) := by decide +kernel
theorem dX1_near_63 : decode cX1_near 63 = .ok (.laload, 1) := by decide +kernel
theorem dX1_near_64 : decode cX1_near 64 = .ok (.invokevirtual 71, 3) := by decide +kernel
theorem dX1_near_67 : decode cX1_near 67 = .ok (.ireturn, 1) := by decide +kernel
theorem dX1_near_68 : decode cX1_near 68 = .ok (.aload_n 0, 1) := by decide +kernel
theorem dX1_near_69 : decode cX1_near 69 = .ok (.getfield 7, 3) := by decide +kernel
theorem dX1_near_72 : decode cX1_near 72 = .ok (.iload_n 1, 1) := by decide +kernel
theorem dX1_near_73 : decode cX1_near 73 = .ok (.laload, 1) := by decide +kernel
theorem dX1_near_74 : decode cX1_near 74 = .ok (.aload_n 0, 1) := by decide +kernel
theorem dX1_near_75 : decode cX1_near 75 = .ok (.getfield 13, 3) := by decide +kernel
theorem dX1_near_78 : decode cX1_near 78 = .ok (.iload_n 1, 1) := by decide +kernel
theorem dX1_near_79 : decode cX1_near 79 = .ok (.laload, 1) := by decide +kernel
theorem dX1_near_80 : decode cX1_near 80 = .ok (.invokestatic 117, 3) := by decide +kernel
theorem dX1_near_83 : decode cX1_near 83 = .ok (.lstore_n 3, 1) := by decide +kernel
theorem dX1_near_84 : decode cX1_near 84 = .ok (.aload_n 0, 1) := by decide +kernel
theorem dX1_near_85 : decode cX1_near 85 = .ok (.getfield 7, 3) := by decide +kernel
theorem dX1_near_88 : decode cX1_near 88 = .ok (.iload_n 1, 1) := by decide +kernel
theorem dX1_near_89 : decode cX1_near 89 = .ok (.laload, 1) := by decide +kernel
theorem dX1_near_90 : decode cX1_near 90 = .ok (.lload_n 3, 1) := by decide +kernel
theorem dX1_near_91 : decode cX1_near 91 = .ok (.aload_n 0, 1) := by decide +kernel
theorem dX1_near_92 : decode cX1_near 92 = .ok (.getfield 13, 3) := by decide +kernel
theorem dX1_near_95 : decode cX1_near 95 = .ok (.iload_n 1, 1) := by decide +kernel
theorem dX1_near_96 : decode cX1_near 96 = .ok (.laload, 1) := by decide +kernel
theorem dX1_near_97 : decode cX1_near 97 = .ok (.lmul, 1) := by decide +kernel
theorem dX1_near_98 : decode cX1_near 98 = .ok (.lsub, 1) := by decide +kernel
theorem dX1_near_99 : decode cX1_near 99 = .ok (.lstore 5, 2) := by decide +kernel
theorem dX1_near_101 : decode cX1_near 101 = .ok (.aload_n 0, 1) := by decide +kernel
theorem dX1_near_102 : decode cX1_near 102 = .ok (.getfield 13, 3) := by decide +kernel
theorem dX1_near_105 : decode cX1_near 105 = .ok (.iload_n 1, 1) := by decide +kernel
theorem dX1_near_106 : decode cX1_near 106 = .ok (.laload, 1) := by decide +kernel
theorem dX1_near_107 : decode cX1_near 107 = .ok (.lload 5, 2) := by decide +kernel
theorem dX1_near_109 : decode cX1_near 109 = .ok (.lsub, 1) := by decide +kernel
theorem dX1_near_110 : decode cX1_near 110 = .ok (.lstore 7, 2) := by decide +kernel
theorem dX1_near_112 : decode cX1_near 112 = .ok (.lconst 0, 1) := by decide +kernel
theorem dX1_near_113 : decode cX1_near 113 = .ok (.lstore 9, 2) := by decide +kernel
theorem dX1_near_115 : decode cX1_near 115 = .ok (.lconst 1, 1) := by decide +kernel
theorem dX1_near_116 : decode cX1_near 116 = .ok (.lstore 11, 2) := by decide +kernel
theorem dX1_near_118 : decode cX1_near 118 = .ok (.lconst 1, 1) := by decide +kernel
theorem dX1_near_119 : decode cX1_near 119 = .ok (.lstore 13, 2) := by decide +kernel
theorem dX1_near_121 : decode cX1_near 121 = .ok (.lconst 1, 1) := by decide +kernel
theorem dX1_near_122 : decode cX1_near 122 = .ok (.lstore 15, 2) := by decide +kernel
theorem dX1_near_124 : decode cX1_near 124 = .ok (.lload 11, 2) := by decide +kernel
theorem dX1_near_126 : decode cX1_near 126 = .ok (.lload 15, 2) := by decide +kernel
theorem dX1_near_128 : decode cX1_near 128 = .ok (.ladd, 1) := by decide +kernel
theorem dX1_near_129 : decode cX1_near 129 = .ok (.iload_n 2, 1) := by decide +kernel
theorem dX1_near_130 : decode cX1_near 130 = .ok (.i2l, 1) := by decide +kernel
theorem dX1_near_131 : decode cX1_near 131 = .ok (.lcmp, 1) := by decide +kernel
theorem dX1_near_132 : decode cX1_near 132 = .ok (.ifCond .gt 145, 3) := by decide +kernel
theorem dX1_near_135 : decode cX1_near 135 = .ok (.lload 5, 2) := by decide +kernel
theorem dX1_near_137 : decode cX1_near 137 = .ok (.lload 7, 2) := by decide +kernel
theorem dX1_near_139 : decode cX1_near 139 = .ok (.lcmp, 1) := by decide +kernel
theorem dX1_near_140 : decode cX1_near 140 = .ok (.ifCond .lt 70, 3) := by decide +kernel
theorem dX1_near_143 : decode cX1_near 143 = .ok (.lload 5, 2) := by decide +kernel
theorem dX1_near_145 : decode cX1_near 145 = .ok (.lload 7, 2) := by decide +kernel
theorem dX1_near_147 : decode cX1_near 147 = .ok (.ldiv, 1) := by decide +kernel
theorem dX1_near_148 : decode cX1_near 148 = .ok (.lstore 17, 2) := by decide +kernel
theorem dX1_near_150 : decode cX1_near 150 = .ok (.iload_n 2, 1) := by decide +kernel
theorem dX1_near_151 : decode cX1_near 151 = .ok (.i2l, 1) := by decide +kernel
theorem dX1_near_152 : decode cX1_near 152 = .ok (.lload 11, 2) := by decide +kernel
theorem dX1_near_154 : decode cX1_near 154 = .ok (.lsub, 1) := by decide +kernel
theorem dX1_near_155 : decode cX1_near 155 = .ok (.lload 15, 2) := by decide +kernel
theorem dX1_near_157 : decode cX1_near 157 = .ok (.ldiv, 1) := by decide +kernel
theorem dX1_near_158 : decode cX1_near 158 = .ok (.lstore 19, 2) := by decide +kernel
theorem dX1_near_160 : decode cX1_near 160 = .ok (.lload 17, 2) := by decide +kernel
theorem dX1_near_162 : decode cX1_near 162 = .ok (.lload 19, 2) := by decide +kernel
theorem dX1_near_164 : decode cX1_near 164 = .ok (.lcmp, 1) := by decide +kernel
theorem dX1_near_165 : decode cX1_near 165 = .ok (.ifCond .ge 8, 3) := by decide +kernel
theorem dX1_near_168 : decode cX1_near 168 = .ok (.lload 17, 2) := by decide +kernel
theorem dX1_near_170 : decode cX1_near 170 = .ok (.goto 5, 3) := by decide +kernel
theorem dX1_near_173 : decode cX1_near 173 = .ok (.lload 19, 2) := by decide +kernel
theorem dX1_near_175 : decode cX1_near 175 = .ok (.lstore 17, 2) := by decide +kernel
theorem dX1_near_177 : decode cX1_near 177 = .ok (.lload 9, 2) := by decide +kernel
theorem dX1_near_179 : decode cX1_near 179 = .ok (.lload 17, 2) := by decide +kernel
theorem dX1_near_181 : decode cX1_near 181 = .ok (.lload 13, 2) := by decide +kernel
theorem dX1_near_183 : decode cX1_near 183 = .ok (.lmul, 1) := by decide +kernel
theorem dX1_near_184 : decode cX1_near 184 = .ok (.ladd, 1) := by decide +kernel
theorem dX1_near_185 : decode cX1_near 185 = .ok (.lstore 9, 2) := by decide +kernel
theorem dX1_near_187 : decode cX1_near 187 = .ok (.lload 11, 2) := by decide +kernel
theorem dX1_near_189 : decode cX1_near 189 = .ok (.lload 17, 2) := by decide +kernel
theorem dX1_near_191 : decode cX1_near 191 = .ok (.lload 15, 2) := by decide +kernel
theorem dX1_near_193 : decode cX1_near 193 = .ok (.lmul, 1) := by decide +kernel
theorem dX1_near_194 : decode cX1_near 194 = .ok (.ladd, 1) := by decide +kernel
theorem dX1_near_195 : decode cX1_near 195 = .ok (.lstore 11, 2) := by decide +kernel
theorem dX1_near_197 : decode cX1_near 197 = .ok (.lload 5, 2) := by decide +kernel
theorem dX1_near_199 : decode cX1_near 199 = .ok (.lload 17, 2) := by decide +kernel
theorem dX1_near_201 : decode cX1_near 201 = .ok (.lload 7, 2) := by decide +kernel
theorem dX1_near_203 : decode cX1_near 203 = .ok (.lmul, 1) := by decide +kernel
theorem dX1_near_204 : decode cX1_near 204 = .ok (.lsub, 1) := by decide +kernel
theorem dX1_near_205 : decode cX1_near 205 = .ok (.lstore 5, 2) := by decide +kernel
theorem dX1_near_207 : decode cX1_near 207 = .ok (.goto (-83), 3) := by decide +kernel
theorem dX1_near_210 : decode cX1_near 210 = .ok (.lload 7, 2) := by decide +kernel
theorem dX1_near_212 : decode cX1_near 212 = .ok (.lload 5, 2) := by decide +kernel
theorem dX1_near_214 : decode cX1_near 214 = .ok (.ldiv, 1) := by decide +kernel
theorem dX1_near_215 : decode cX1_near 215 = .ok (.lstore 17, 2) := by decide +kernel
theorem dX1_near_217 : decode cX1_near 217 = .ok (.iload_n 2, 1) := by decide +kernel
theorem dX1_near_218 : decode cX1_near 218 = .ok (.i2l, 1) := by decide +kernel
theorem dX1_near_219 : decode cX1_near 219 = .ok (.lload 15, 2) := by decide +kernel
theorem dX1_near_221 : decode cX1_near 221 = .ok (.lsub, 1) := by decide +kernel
theorem dX1_near_222 : decode cX1_near 222 = .ok (.lload 11, 2) := by decide +kernel
theorem dX1_near_224 : decode cX1_near 224 = .ok (.ldiv, 1) := by decide +kernel
theorem dX1_near_225 : decode cX1_near 225 = .ok (.lstore 19, 2) := by decide +kernel
theorem dX1_near_227 : decode cX1_near 227 = .ok (.lload 17, 2) := by decide +kernel
theorem dX1_near_229 : decode cX1_near 229 = .ok (.lload 19, 2) := by decide +kernel
theorem dX1_near_231 : decode cX1_near 231 = .ok (.lcmp, 1) := by decide +kernel
theorem dX1_near_232 : decode cX1_near 232 = .ok (.ifCond .ge 8, 3) := by decide +kernel
theorem dX1_near_235 : decode cX1_near 235 = .ok (.lload 17, 2) := by decide +kernel
theorem dX1_near_237 : decode cX1_near 237 = .ok (.goto 5, 3) := by decide +kernel
theorem dX1_near_240 : decode cX1_near 240 = .ok (.lload 19, 2) := by decide +kernel
theorem dX1_near_242 : decode cX1_near 242 = .ok (.lstore 17, 2) := by decide +kernel
theorem dX1_near_244 : decode cX1_near 244 = .ok (.lload 13, 2) := by decide +kernel
theorem dX1_near_246 : decode cX1_near 246 = .ok (.lload 17, 2) := by decide +kernel
theorem dX1_near_248 : decode cX1_near 248 = .ok (.lload 9, 2) := by decide +kernel
theorem dX1_near_250 : decode cX1_near 250 = .ok (.lmul, 1) := by decide +kernel
theorem dX1_near_251 : decode cX1_near 251 = .ok (.ladd, 1) := by decide +kernel
theorem dX1_near_252 : decode cX1_near 252 = .ok (.lstore 13, 2) := by decide +kernel
theorem dX1_near_254 : decode cX1_near 254 = .ok (.lload 15, 2) := by decide +kernel
theorem dX1_near_256 : decode cX1_near 256 = .ok (.lload 17, 2) := by decide +kernel
theorem dX1_near_258 : decode cX1_near 258 = .ok (.lload 11, 2) := by decide +kernel
theorem dX1_near_260 : decode cX1_near 260 = .ok (.lmul, 1) := by decide +kernel
theorem dX1_near_261 : decode cX1_near 261 = .ok (.ladd, 1) := by decide +kernel
theorem dX1_near_262 : decode cX1_near 262 = .ok (.lstore 15, 2) := by decide +kernel
theorem dX1_near_264 : decode cX1_near 264 = .ok (.lload 7, 2) := by decide +kernel
theorem dX1_near_266 : decode cX1_near 266 = .ok (.lload 17, 2) := by decide +kernel
theorem dX1_near_268 : decode cX1_near 268 = .ok (.lload 5, 2) := by decide +kernel
theorem dX1_near_270 : decode cX1_near 270 = .ok (.lmul, 1) := by decide +kernel
theorem dX1_near_271 : decode cX1_near 271 = .ok (.lsub, 1) := by decide +kernel
theorem dX1_near_272 : decode cX1_near 272 = .ok (.lstore 7, 2) := by decide +kernel
theorem dX1_near_274 : decode cX1_near 274 = .ok (.goto (-150), 3) := by decide +kernel
theorem dX1_near_277 : decode cX1_near 277 = .ok (.aload_n 0, 1) := by decide +kernel
theorem dX1_near_278 : decode cX1_near 278 = .ok (.lload 5, 2) := by decide +kernel
theorem dX1_near_280 : decode cX1_near 280 = .ok (.lload 15, 2) := by decide +kernel
theorem dX1_near_282 : decode cX1_near 282 = .ok (.lload 7, 2) := by decide +kernel
theorem dX1_near_284 : decode cX1_near 284 = .ok (.lload 11, 2) := by decide +kernel
theorem dX1_near_286 : decode cX1_near 286 = .ok (.invokevirtual 105, 3) := by decide +kernel
theorem dX1_near_289 : decode cX1_near 289 = .ok (.istore 17, 2) := by decide +kernel
theorem dX1_near_291 : decode cX1_near 291 = .ok (.iload 17, 2) := by decide +kernel
theorem dX1_near_293 : decode cX1_near 293 = .ok (.ifCond .lt 16, 3) := by decide +kernel
theorem dX1_near_296 : decode cX1_near 296 = .ok (.iload 17, 2) := by decide +kernel
theorem dX1_near_298 : decode cX1_near 298 = .ok (.ifCond .ne 15, 3) := by decide +kernel
theorem dX1_near_301 : decode cX1_near 301 = .ok (.lload 11, 2) := by decide +kernel
theorem dX1_near_303 : decode cX1_near 303 = .ok (.lload 15, 2) := by decide +kernel
theorem dX1_near_305 : decode cX1_near 305 = .ok (.lcmp, 1) := by decide +kernel
theorem dX1_near_306 : decode cX1_near 306 = .ok (.ifCond .gt 7, 3) := by decide +kernel
theorem dX1_near_309 : decode cX1_near 309 = .ok (.iconst 1, 1) := by decide +kernel
theorem dX1_near_310 : decode cX1_near 310 = .ok (.goto 4, 3) := by decide +kernel
theorem dX1_near_313 : decode cX1_near 313 = .ok (.iconst 0, 1) := by decide +kernel
theorem dX1_near_314 : decode cX1_near 314 = .ok (.istore 18, 2) := by decide +kernel
theorem dX1_near_316 : decode cX1_near 316 = .ok (.iload 18, 2) := by decide +kernel
theorem dX1_near_318 : decode cX1_near 318 = .ok (.ifCond .eq 19, 3) := by decide +kernel
theorem dX1_near_321 : decode cX1_near 321 = .ok (.aload_n 0, 1) := by decide +kernel
theorem dX1_near_322 : decode cX1_near 322 = .ok (.lload_n 3, 1) := by decide +kernel
theorem dX1_near_323 : decode cX1_near 323 = .ok (.lload 11, 2) := by decide +kernel
theorem dX1_near_325 : decode cX1_near 325 = .ok (.lmul, 1) := by decide +kernel
theorem dX1_near_326 : decode cX1_near 326 = .ok (.lload 9, 2) := by decide +kernel
theorem dX1_near_328 : decode cX1_near 328 = .ok (.ladd, 1) := by decide +kernel
theorem dX1_near_329 : decode cX1_near 329 = .ok (.lload 11, 2) := by decide +kernel
theorem dX1_near_331 : decode cX1_near 331 = .ok (.invokevirtual 71, 3) := by decide +kernel
theorem dX1_near_334 : decode cX1_near 334 = .ok (.goto 16, 3) := by decide +kernel
theorem dX1_near_337 : decode cX1_near 337 = .ok (.aload_n 0, 1) := by decide +kernel
theorem dX1_near_338 : decode cX1_near 338 = .ok (.lload_n 3, 1) := by decide +kernel
theorem dX1_near_339 : decode cX1_near 339 = .ok (.lload 15, 2) := by decide +kernel
theorem dX1_near_341 : decode cX1_near 341 = .ok (.lmul, 1) := by decide +kernel
theorem dX1_near_342 : decode cX1_near 342 = .ok (.lload 13, 2) := by decide +kernel
theorem dX1_near_344 : decode cX1_near 344 = .ok (.ladd, 1) := by decide +kernel
theorem dX1_near_345 : decode cX1_near 345 = .ok (.lload 15, 2) := by decide +kernel
theorem dX1_near_347 : decode cX1_near 347 = .ok (.invokevirtual 71, 3) := by decide +kernel
theorem dX1_near_350 : decode cX1_near 350 = .ok (.ireturn, 1) := by decide +kernel
set_option maxRecDepth 20000 in
theorem ggX1_cut_X1_isNumber : GoodIn wsX1_cut wsX1_isNumber := goodIn_r _ [12, 13, 14, 15, 11, 16, 28, 29, 30, 31, 32, 33, 34, 35, 36, 37, 38, 39, 40, 41, 42, 43, 44] (by decide +kernel) (by decide +kernel)
set_option maxRecDepth 20000 in
theorem gX1_cut_X1_isNumber : GoodIn wsX1_cut (wsV RX1 94 RX1 yX1_isNumber wsX1_isNumber) := goodIn_app (goodIn_of _ (by decide +kernel)) ggX1_cut_X1_isNumber
set_option maxRecDepth 20000 in
theorem ggX1_cut_X1_isIn : GoodIn wsX1_cut wsX1_isIn := goodIn_r _ [16] (by decide +kernel) (by decide +kernel)
set_option maxRecDepth 20000 in
theorem gX1_cut_X1_isIn : GoodIn wsX1_cut (va_wsS RX1 59 yX1_isIn wsX1_isIn) := goodIn_app (goodIn_of _ (by decide +kernel)) ggX1_cut_X1_isIn
set_option maxRecDepth 20000 in
theorem ggX1_cut_X1_times : GoodIn wsX1_cut wsX1_times := goodIn_r _ [20, 21, 4, 22, 23, 11, 24, 28, 29, 30, 31, 32, 33, 34, 35, 36, 37, 38, 39, 40, 41, 42, 43, 44] (by decide +kernel) (by decide +kernel)
set_option maxRecDepth 20000 in
theorem gX1_cut_X1_times : GoodIn wsX1_cut (wsV RX1 75 RX1 yX1_times wsX1_times) := goodIn_app (goodIn_of _ (by decide +kernel)) ggX1_cut_X1_times
set_option maxRecDepth 20000 in
theorem ggX1_cut_X1_floor : GoodIn wsX1_cut wsX1_floor := goodIn_r _ [27] (by decide +kernel) (by decide +kernel)
set_option maxRecDepth 20000 in
theorem gX1_cut_X1_floor : GoodIn wsX1_cut (va_wsS RX1 117 yX1_floor wsX1_floor) := goodIn_app (goodIn_of _ (by decide +kernel)) ggX1_cut_X1_floor
theorem dX1_cut_0 : decode cX1_cut 0 = .ok (.aload_n 0, 1) := by decide +kernel
theorem dX1_cut_1 : decode cX1_cut 1 = .ok (.iconst 0, 1) := by decide +kernel
theorem dX1_cut_2 : decode cX1_cut 2 = .ok (.putfield 43, 3) := by decide +kernel
theorem dX1_cut_5 : decode cX1_cut 5 = .ok (.aload_n 0, 1) := by decide +kernel
theorem dX1_cut_6 : decode cX1_cut 6 = .ok (.iload_n 1, 1) := by decide +kernel
theorem dX1_cut_7 : decode cX1_cut 7 = .ok (.invokevirtual 94, 3) := by decide +kernel
theorem dX1_cut_10 : decode cX1_cut 10 = .ok (.ifCond .eq 15, 3) := by decide +kernel
theorem dX1_cut_13 : decode cX1_cut 13 = .ok (.iload_n 2, 1) := by decide +kernel
theorem dX1_cut_14 : decode cX1_cut 14 = .ok (.i2l, 1) := by decide +kernel
theorem dX1_cut_15 : decode cX1_cut 15 = .ok (.lconst 0, 1) := by decide +kernel
theorem dX1_cut_16 : decode cX1_cut 16 = .ok (.ldc2_w 120, 3) := by decide +kernel
theorem dX1_cut_19 : decode cX1_cut 19 = .ok (.invokestatic 59, 3) := by decide +kernel
theorem dX1_cut_22 : decode cX1_cut 22 = .ok (.ifCond .ne 7, 3) := by decide +kernel
theorem dX1_cut_25 : decode cX1_cut 25 = .ok (.ldc2_w 69, 3) := by decide +kernel
theorem dX1_cut_28 : decode cX1_cut 28 = .ok (.lreturn, 1) := by decide +kernel
theorem dX1_cut_29 : decode cX1_cut 29 = .ok (.aload_n 0, 1) := by decide +kernel
theorem dX1_cut_30 : decode cX1_cut 30 = .ok (.iconst 0, 1) := by decide +kernel
theorem dX1_cut_31 : decode cX1_cut 31 = .ok (.putfield 39, 3) := by decide +kernel
theorem dX1_cut_34 : decode cX1_cut 34 = .ok (.aload_n 0, 1) := by decide +kernel
theorem dX1_cut_35 : decode cX1_cut 35 = .ok (.getfield 7, 3) := by decide +kernel
theorem dX1_cut_38 : decode cX1_cut 38 = .ok (.iload_n 1, 1) := by decide +kernel
theorem dX1_cut_39 : decode cX1_cut 39 = .ok (.laload, 1) := by decide +kernel
theorem dX1_cut_40 : decode cX1_cut 40 = .ok (.lstore 4, 2) := by decide +kernel
theorem dX1_cut_42 : decode cX1_cut 42 = .ok (.iconst 0, 1) := by decide +kernel
theorem dX1_cut_43 : decode cX1_cut 43 = .ok (.istore 6, 2) := by decide +kernel
theorem dX1_cut_45 : decode cX1_cut 45 = .ok (.iload 6, 2) := by decide +kernel
theorem dX1_cut_47 : decode cX1_cut 47 = .ok (.iload_n 2, 1) := by decide +kernel
theorem dX1_cut_48 : decode cX1_cut 48 = .ok (.if_icmp .ge 20, 3) := by decide +kernel
theorem dX1_cut_51 : decode cX1_cut 51 = .ok (.aload_n 0, 1) := by decide +kernel
theorem dX1_cut_52 : decode cX1_cut 52 = .ok (.lload 4, 2) := by decide +kernel
theorem dX1_cut_54 : decode cX1_cut 54 = .ok (.ldc2_w 122, 3) := by decide +kernel
theorem dX1_cut_57 : decode cX1_cut 57 = .ok (.invokevirtual 75, 3) := by decide +kernel
theorem dX1_cut_60 : decode cX1_cut 60 = .ok (.lstore 4, 2) := by decide +kernel
theorem dX1_cut_62 : decode cX1_cut 62 = .ok (.iinc 6 1, 3) := by decide +kernel
theorem dX1_cut_65 : decode cX1_cut 65 = .ok (.goto (-20), 3) := by decide +kernel
theorem dX1_cut_68 : decode cX1_cut 68 = .ok (.aload_n 0, 1) := by decide +kernel
theorem dX1_cut_69 : decode cX1_cut 69 = .ok (.getfield 39, 3) := by decide +kernel
theorem dX1_cut_72 : decode cX1_cut 72 = .ok (.ifCond .eq 7, 3) := by decide +kernel
theorem dX1_cut_75 : decode cX1_cut 75 = .ok (.ldc2_w 69, 3) := by decide +kernel
theorem dX1_cut_78 : decode cX1_cut 78 = .ok (.lreturn, 1) := by decide +kernel
theorem dX1_cut_79 : decode cX1_cut 79 = .ok (.lload 4, 2) := by decide +kernel
theorem dX1_cut_81 : decode cX1_cut 81 = .ok (.aload_n 0, 1) := by decide +kernel
theorem dX1_cut_82 : decode cX1_cut 82 = .ok (.getfield 13, 3) := by decide +kernel
theorem dX1_cut_85 : decode cX1_cut 85 = .ok (.iload_n 1, 1) := by decide +kernel
theorem dX1_cut_86 : decode cX1_cut 86 = .ok (.laload, 1) := by decide +kernel
theorem dX1_cut_87 : decode cX1_cut 87 = .ok (.invokestatic 117, 3) := by decide +kernel
theorem dX1_cut_90 : decode cX1_cut 90 = .ok (.lstore 6, 2) := by decide +kernel
theorem dX1_cut_92 : decode cX1_cut 92 = .ok (.iload_n 3, 1) := by decide +kernel
theorem dX1_cut_93 : decode cX1_cut 93 = .ok (.ifCond .eq 24, 3) := by decide +kernel
theorem dX1_cut_96 : decode cX1_cut 96 = .ok (.lload 4, 2) := by decide +kernel
theorem dX1_cut_98 : decode cX1_cut 98 = .ok (.aload_n 0, 1) := by decide +kernel
theorem dX1_cut_99 : decode cX1_cut 99 = .ok (.getfield 13, 3) := by decide +kernel
theorem dX1_cut_102 : decode cX1_cut 102 = .ok (.iload_n 1, 1) := by decide +kernel
theorem dX1_cut_103 : decode cX1_cut 103 = .ok (.laload, 1) := by decide +kernel
theorem dX1_cut_104 : decode cX1_cut 104 = .ok (.lrem, 1) := by decide +kernel
theorem dX1_cut_105 : decode cX1_cut 105 = .ok (.lconst 0, 1) := by decide +kernel
theorem dX1_cut_106 : decode cX1_cut 106 = .ok (.lcmp, 1) := by decide +kernel
theorem dX1_cut_107 : decode cX1_cut 107 = .ok (.ifCond .eq 10, 3) := by decide +kernel
theorem dX1_cut_110 : decode cX1_cut 110 = .ok (.lload 6, 2) := by decide +kernel
theorem dX1_cut_112 : decode cX1_cut 112 = .ok (.lconst 1, 1) := by decide +kernel
theorem dX1_cut_113 : decode cX1_cut 113 = .ok (.ladd, 1) := by decide +kernel
theorem dX1_cut_114 : decode cX1_cut 114 = .ok (.goto 5, 3) := by decide +kernel
theorem dX1_cut_117 : decode cX1_cut 117 = .ok (.lload 6, 2) := by decide +kernel
theorem dX1_cut_119 : decode cX1_cut 119 = .ok (.lreturn, 1) := by decide +kernel
set_option maxRecDepth 20000 in
theorem ggX1_isRow_X1_isIn : GoodIn wsX1_isRow wsX1_isIn := goodIn_r _ [5] (by decide +kernel) (by decide +kernel)
set_option maxRecDepth 20000 in
theorem gX1_isRow_X1_isIn : GoodIn wsX1_isRow (va_wsS RX1 59 yX1_isIn wsX1_isIn) := goodIn_app (goodIn_of _ (by decide +kernel)) ggX1_isRow_X1_isIn
theorem dX1_isRow_0 : decode cX1_isRow 0 = .ok (.iload_n 0, 1) := by decide +kernel
theorem dX1_isRow_1 : decode cX1_isRow 1 = .ok (.i2l, 1) := by decide +kernel
theorem dX1_isRow_2 : decode cX1_isRow 2 = .ok (.lconst 0, 1) := by decide +kernel
theorem dX1_isRow_3 : decode cX1_isRow 3 = .ok (.ldc2_w 92, 3) := by decide +kernel
theorem dX1_isRow_6 : decode cX1_isRow 6 = .ok (.invokestatic 59, 3) := by decide +kernel
theorem dX1_isRow_9 : decode cX1_isRow 9 = .ok (.ireturn, 1) := by decide +kernel
set_option maxRecDepth 20000 in
theorem ggX1_into_X1_isRow : GoodIn wsX1_into wsX1_isRow := goodIn_r _ [8, 9, 10, 11, 7, 12] (by decide +kernel) (by decide +kernel)
set_option maxRecDepth 20000 in
theorem gX1_into_X1_isRow : GoodIn wsX1_into (va_wsS RX1 124 yX1_isRow wsX1_isRow) := goodIn_app (goodIn_of _ (by decide +kernel)) ggX1_into_X1_isRow
set_option maxRecDepth 20000 in
theorem ggX1_into_X1_isIn : GoodIn wsX1_into wsX1_isIn := goodIn_r _ [12] (by decide +kernel) (by decide +kernel)
set_option maxRecDepth 20000 in
theorem gX1_into_X1_isIn : GoodIn wsX1_into (va_wsS RX1 59 yX1_isIn wsX1_isIn) := goodIn_app (goodIn_of _ (by decide +kernel)) ggX1_into_X1_isIn
theorem dX1_into_0 : decode cX1_into 0 = .ok (.aload_n 0, 1) := by decide +kernel
theorem dX1_into_1 : decode cX1_into 1 = .ok (.iconst 0, 1) := by decide +kernel
theorem dX1_into_2 : decode cX1_into 2 = .ok (.putfield 43, 3) := by decide +kernel
theorem dX1_into_5 : decode cX1_into 5 = .ok (.iload_n 1, 1) := by decide +kernel
theorem dX1_into_6 : decode cX1_into 6 = .ok (.invokestatic 124, 3) := by decide +kernel
theorem dX1_into_9 : decode cX1_into 9 = .ok (.ifCond .eq 14, 3) := by decide +kernel
theorem dX1_into_12 : decode cX1_into 12 = .ok (.lload_n 2, 1) := by decide +kernel
theorem dX1_into_13 : decode cX1_into 13 = .ok (.lconst 0, 1) := by decide +kernel
theorem dX1_into_14 : decode cX1_into 14 = .ok (.ldc2_w 115, 3) := by decide +kernel
theorem dX1_into_17 : decode cX1_into 17 = .ok (.invokestatic 59, 3) := by decide +kernel
theorem dX1_into_20 : decode cX1_into 20 = .ok (.ifCond .ne 5, 3) := by decide +kernel
theorem dX1_into_23 : decode cX1_into 23 = .ok (.iconst (-1), 1) := by decide +kernel
theorem dX1_into_24 : decode cX1_into 24 = .ok (.ireturn, 1) := by decide +kernel
theorem dX1_into_25 : decode cX1_into 25 = .ok (.aload_n 0, 1) := by decide +kernel
theorem dX1_into_26 : decode cX1_into 26 = .ok (.getfield 19, 3) := by decide +kernel
theorem dX1_into_29 : decode cX1_into 29 = .ok (.iload_n 1, 1) := by decide +kernel
theorem dX1_into_30 : decode cX1_into 30 = .ok (.iaload, 1) := by decide +kernel
theorem dX1_into_31 : decode cX1_into 31 = .ok (.bipush 8, 2) := by decide +kernel
theorem dX1_into_33 : decode cX1_into 33 = .ok (.if_icmp .ne 6, 3) := by decide +kernel
theorem dX1_into_36 : decode cX1_into 36 = .ok (.bipush (-4), 2) := by decide +kernel
theorem dX1_into_38 : decode cX1_into 38 = .ok (.ireturn, 1) := by decide +kernel
theorem dX1_into_39 : decode cX1_into 39 = .ok (.aload_n 0, 1) := by decide +kernel
theorem dX1_into_40 : decode cX1_into 40 = .ok (.getfield 16, 3) := by decide +kernel
theorem dX1_into_43 : decode cX1_into 43 = .ok (.bipush 8, 2) := by decide +kernel
theorem dX1_into_45 : decode cX1_into 45 = .ok (.iload_n 1, 1) := by decide +kernel
theorem dX1_into_46 : decode cX1_into 46 = .ok (.imul, 1) := by decide +kernel
theorem dX1_into_47 : decode cX1_into 47 = .ok (.aload_n 0, 1) := by decide +kernel
theorem dX1_into_48 : decode cX1_into 48 = .ok (.getfield 19, 3) := by decide +kernel
theorem dX1_into_51 : decode cX1_into 51 = .ok (.iload_n 1, 1) := by decide +kernel
theorem dX1_into_52 : decode cX1_into 52 = .ok (.iaload, 1) := by decide +kernel
theorem dX1_into_53 : decode cX1_into 53 = .ok (.iadd, 1) := by decide +kernel
theorem dX1_into_54 : decode cX1_into 54 = .ok (.lload_n 2, 1) := by decide +kernel
theorem dX1_into_55 : decode cX1_into 55 = .ok (.lastore, 1) := by decide +kernel
theorem dX1_into_56 : decode cX1_into 56 = .ok (.aload_n 0, 1) := by decide +kernel
theorem dX1_into_57 : decode cX1_into 57 = .ok (.getfield 19, 3) := by decide +kernel
theorem dX1_into_60 : decode cX1_into 60 = .ok (.iload_n 1, 1) := by decide +kernel
theorem dX1_into_61 : decode cX1_into 61 = .ok (.dup2, 1) := by decide +kernel
theorem dX1_into_62 : decode cX1_into 62 = .ok (.iaload, 1) := by decide +kernel
theorem dX1_into_63 : decode cX1_into 63 = .ok (.iconst 1, 1) := by decide +kernel
theorem dX1_into_64 : decode cX1_into 64 = .ok (.iadd, 1) := by decide +kernel
theorem dX1_into_65 : decode cX1_into 65 = .ok (.iastore, 1) := by decide +kernel
theorem dX1_into_66 : decode cX1_into 66 = .ok (.aload_n 0, 1) := by decide +kernel
theorem dX1_into_67 : decode cX1_into 67 = .ok (.getfield 19, 3) := by decide +kernel
theorem dX1_into_70 : decode cX1_into 70 = .ok (.iload_n 1, 1) := by decide +kernel
theorem dX1_into_71 : decode cX1_into 71 = .ok (.iaload, 1) := by decide +kernel
theorem dX1_into_72 : decode cX1_into 72 = .ok (.ireturn, 1) := by decide +kernel
set_option maxRecDepth 20000 in
theorem ggX1_empty_X1_isRow : GoodIn wsX1_empty wsX1_isRow := goodIn_r _ [6, 7, 8, 9, 5, 10] (by decide +kernel) (by decide +kernel)
set_option maxRecDepth 20000 in
theorem gX1_empty_X1_isRow : GoodIn wsX1_empty (va_wsS RX1 124 yX1_isRow wsX1_isRow) := goodIn_app (goodIn_of _ (by decide +kernel)) ggX1_empty_X1_isRow
theorem dX1_empty_0 : decode cX1_empty 0 = .ok (.aload_n 0, 1) := by decide +kernel
theorem dX1_empty_1 : decode cX1_empty 1 = .ok (.iconst 0, 1) := by decide +kernel
theorem dX1_empty_2 : decode cX1_empty 2 = .ok (.putfield 43, 3) := by decide +kernel
theorem dX1_empty_5 : decode cX1_empty 5 = .ok (.iload_n 1, 1) := by decide +kernel
theorem dX1_empty_6 : decode cX1_empty 6 = .ok (.invokestatic 124, 3) := by decide +kernel
theorem dX1_empty_9 : decode cX1_empty 9 = .ok (.ifCond .ne 5, 3) := by decide +kernel
theorem dX1_empty_12 : decode cX1_empty 12 = .ok (.iconst (-1), 1) := by decide +kernel
theorem dX1_empty_13 : decode cX1_empty 13 = .ok (.ireturn, 1) := by decide +kernel
theorem dX1_empty_14 : decode cX1_empty 14 = .ok (.aload_n 0, 1) := by decide +kernel
theorem dX1_empty_15 : decode cX1_empty 15 = .ok (.getfield 19, 3) := by decide +kernel
theorem dX1_empty_18 : decode cX1_empty 18 = .ok (.iload_n 1, 1) := by decide +kernel
theorem dX1_empty_19 : decode cX1_empty 19 = .ok (.iaload, 1) := by decide +kernel
theorem dX1_empty_20 : decode cX1_empty 20 = .ok (.istore_n 2, 1) := by decide +kernel
theorem dX1_empty_21 : decode cX1_empty 21 = .ok (.aload_n 0, 1) := by decide +kernel
theorem dX1_empty_22 : decode cX1_empty 22 = .ok (.getfield 19, 3) := by decide +kernel
theorem dX1_empty_25 : decode cX1_empty 25 = .ok (.iload_n 1, 1) := by decide +kernel
theorem dX1_empty_26 : decode cX1_empty 26 = .ok (.iconst 0, 1) := by decide +kernel
theorem dX1_empty_27 : decode cX1_empty 27 = .ok (.iastore, 1) := by decide +kernel
theorem dX1_empty_28 : decode cX1_empty 28 = .ok (.iload_n 2, 1) := by decide +kernel
theorem dX1_empty_29 : decode cX1_empty 29 = .ok (.ireturn, 1) := by decide +kernel
set_option maxRecDepth 20000 in
theorem ggX1_at_X1_isRow : GoodIn wsX1_at wsX1_isRow := goodIn_r _ [8, 9, 10, 11, 7, 12] (by decide +kernel) (by decide +kernel)
set_option maxRecDepth 20000 in
theorem gX1_at_X1_isRow : GoodIn wsX1_at (va_wsS RX1 124 yX1_isRow wsX1_isRow) := goodIn_app (goodIn_of _ (by decide +kernel)) ggX1_at_X1_isRow
set_option maxRecDepth 20000 in
theorem ggX1_at_X1_isIn : GoodIn wsX1_at wsX1_isIn := goodIn_r _ [12] (by decide +kernel) (by decide +kernel)
set_option maxRecDepth 20000 in
theorem gX1_at_X1_isIn : GoodIn wsX1_at (va_wsS RX1 59 yX1_isIn wsX1_isIn) := goodIn_app (goodIn_of _ (by decide +kernel)) ggX1_at_X1_isIn
theorem dX1_at_0 : decode cX1_at 0 = .ok (.aload_n 0, 1) := by decide +kernel
theorem dX1_at_1 : decode cX1_at 1 = .ok (.iconst 0, 1) := by decide +kernel
theorem dX1_at_2 : decode cX1_at 2 = .ok (.putfield 43, 3) := by decide +kernel
theorem dX1_at_5 : decode cX1_at 5 = .ok (.iload_n 1, 1) := by decide +kernel
theorem dX1_at_6 : decode cX1_at 6 = .ok (.invokestatic 124, 3) := by decide +kernel
theorem dX1_at_9 : decode cX1_at 9 = .ok (.ifCond .eq 35, 3) := by decide +kernel
theorem dX1_at_12 : decode cX1_at 12 = .ok (.iload_n 2, 1) := by decide +kernel
theorem dX1_at_13 : decode cX1_at 13 = .ok (.i2l, 1) := by decide +kernel
theorem dX1_at_14 : decode cX1_at 14 = .ok (.lconst 0, 1) := by decide +kernel
theorem dX1_at_15 : decode cX1_at 15 = .ok (.aload_n 0, 1) := by decide +kernel
theorem dX1_at_16 : decode cX1_at 16 = .ok (.getfield 19, 3) := by decide +kernel
theorem dX1_at_19 : decode cX1_at 19 = .ok (.iload_n 1, 1) := by decide +kernel
theorem dX1_at_20 : decode cX1_at 20 = .ok (.iaload, 1) := by decide +kernel
theorem dX1_at_21 : decode cX1_at 21 = .ok (.iconst 1, 1) := by decide +kernel
theorem dX1_at_22 : decode cX1_at 22 = .ok (.isub, 1) := by decide +kernel
theorem dX1_at_23 : decode cX1_at 23 = .ok (.i2l, 1) := by decide +kernel
theorem dX1_at_24 : decode cX1_at 24 = .ok (.invokestatic 59, 3) := by decide +kernel
theorem dX1_at_27 : decode cX1_at 27 = .ok (.ifCond .eq 17, 3) := by decide +kernel
theorem dX1_at_30 : decode cX1_at 30 = .ok (.aload_n 0, 1) := by decide +kernel
theorem dX1_at_31 : decode cX1_at 31 = .ok (.getfield 16, 3) := by decide +kernel
theorem dX1_at_34 : decode cX1_at 34 = .ok (.bipush 8, 2) := by decide +kernel
theorem dX1_at_36 : decode cX1_at 36 = .ok (.iload_n 1, 1) := by decide +kernel
theorem dX1_at_37 : decode cX1_at 37 = .ok (.imul, 1) := by decide +kernel
theorem dX1_at_38 : decode cX1_at 38 = .ok (.iload_n 2, 1) := by decide +kernel
theorem dX1_at_39 : decode cX1_at 39 = .ok (.iadd, 1) := by decide +kernel
theorem dX1_at_40 : decode cX1_at 40 = .ok (.laload, 1) := by decide +kernel
theorem dX1_at_41 : decode cX1_at 41 = .ok (.goto 6, 3) := by decide +kernel
theorem dX1_at_44 : decode cX1_at 44 = .ok (.ldc2_w 67, 3) := by decide +kernel
theorem dX1_at_47 : decode cX1_at 47 = .ok (.lreturn, 1) := by decide +kernel
theorem dX1_sumOf_0 : decode cX1_sumOf 0 = .ok (.lconst 0, 1) := by decide +kernel
theorem dX1_sumOf_1 : decode cX1_sumOf 1 = .ok (.lstore_n 2, 1) := by decide +kernel
theorem dX1_sumOf_2 : decode cX1_sumOf 2 = .ok (.iconst 0, 1) := by decide +kernel
theorem dX1_sumOf_3 : decode cX1_sumOf 3 = .ok (.istore 4, 2) := by decide +kernel
theorem dX1_sumOf_5 : decode cX1_sumOf 5 = .ok (.iload 4, 2) := by decide +kernel
theorem dX1_sumOf_7 : decode cX1_sumOf 7 = .ok (.aload_n 0, 1) := by decide +kernel
theorem dX1_sumOf_8 : decode cX1_sumOf 8 = .ok (.getfield 19, 3) := by decide +kernel
theorem dX1_sumOf_11 : decode cX1_sumOf 11 = .ok (.iload_n 1, 1) := by decide +kernel
theorem dX1_sumOf_12 : decode cX1_sumOf 12 = .ok (.iaload, 1) := by decide +kernel
theorem dX1_sumOf_13 : decode cX1_sumOf 13 = .ok (.if_icmp .ge 24, 3) := by decide +kernel
theorem dX1_sumOf_16 : decode cX1_sumOf 16 = .ok (.lload_n 2, 1) := by decide +kernel
theorem dX1_sumOf_17 : decode cX1_sumOf 17 = .ok (.aload_n 0, 1) := by decide +kernel
theorem dX1_sumOf_18 : decode cX1_sumOf 18 = .ok (.getfield 16, 3) := by decide +kernel
theorem dX1_sumOf_21 : decode cX1_sumOf 21 = .ok (.bipush 8, 2) := by decide +kernel
theorem dX1_sumOf_23 : decode cX1_sumOf 23 = .ok (.iload_n 1, 1) := by decide +kernel
theorem dX1_sumOf_24 : decode cX1_sumOf 24 = .ok (.imul, 1) := by decide +kernel
theorem dX1_sumOf_25 : decode cX1_sumOf 25 = .ok (.iload 4, 2) := by decide +kernel
theorem dX1_sumOf_27 : decode cX1_sumOf 27 = .ok (.iadd, 1) := by decide +kernel
theorem dX1_sumOf_28 : decode cX1_sumOf 28 = .ok (.laload, 1) := by decide +kernel
theorem dX1_sumOf_29 : decode cX1_sumOf 29 = .ok (.ladd, 1) := by decide +kernel
theorem dX1_sumOf_30 : decode cX1_sumOf 30 = .ok (.lstore_n 2, 1) := by decide +kernel
theorem dX1_sumOf_31 : decode cX1_sumOf 31 = .ok (.iinc 4 1, 3) := by decide +kernel
theorem dX1_sumOf_34 : decode cX1_sumOf 34 = .ok (.goto (-29), 3) := by decide +kernel
theorem dX1_sumOf_37 : decode cX1_sumOf 37 = .ok (.lload_n 2, 1) := by decide +kernel
theorem dX1_sumOf_38 : decode cX1_sumOf 38 = .ok (.lreturn, 1) := by decide +kernel
set_option maxRecDepth 20000 in
theorem ggX1_share_X1_isRow : GoodIn wsX1_share wsX1_isRow := goodIn_r _ [8, 9, 10, 11, 7, 12] (by decide +kernel) (by decide +kernel)
set_option maxRecDepth 20000 in
theorem gX1_share_X1_isRow : GoodIn wsX1_share (va_wsS RX1 124 yX1_isRow wsX1_isRow) := goodIn_app (goodIn_of _ (by decide +kernel)) ggX1_share_X1_isRow
set_option maxRecDepth 20000 in
theorem ggX1_share_X1_isIn : GoodIn wsX1_share wsX1_isIn := goodIn_r _ [12] (by decide +kernel) (by decide +kernel)
set_option maxRecDepth 20000 in
theorem gX1_share_X1_isIn : GoodIn wsX1_share (va_wsS RX1 59 yX1_isIn wsX1_isIn) := goodIn_app (goodIn_of _ (by decide +kernel)) ggX1_share_X1_isIn
set_option maxRecDepth 20000 in
theorem ggX1_share_X1_sumOf : GoodIn wsX1_share wsX1_sumOf := goodIn_r _ [16, 2, 4, 30, 31, 32, 33, 34, 35, 36, 37, 38, 39, 40, 41, 42, 43, 44, 45, 46] (by decide +kernel) (by decide +kernel)
set_option maxRecDepth 20000 in
theorem gX1_share_X1_sumOf : GoodIn wsX1_share (wsV RX1 127 RX1 yX1_sumOf wsX1_sumOf) := goodIn_app (goodIn_of _ (by decide +kernel)) ggX1_share_X1_sumOf
set_option maxRecDepth 20000 in
theorem ggX1_share_X1_kept : GoodIn wsX1_share wsX1_kept := goodIn_r _ [20, 21, 22, 3, 23, 24, 25, 7, 26, 27, 28, 29, 30, 31, 32, 33, 34, 35, 36, 37, 38, 39, 40, 41, 42, 43, 44, 45, 46] (by decide +kernel) (by decide +kernel)
set_option maxRecDepth 20000 in
theorem gX1_share_X1_kept : GoodIn wsX1_share (wsV RX1 71 RX1 yX1_kept wsX1_kept) := goodIn_app (goodIn_of _ (by decide +kernel)) ggX1_share_X1_kept
theorem dX1_share_0 : decode cX1_share 0 = .ok (.aload_n 0, 1) := by decide +kernel
theorem dX1_share_1 : decode cX1_share 1 = .ok (.iconst 0, 1) := by decide +kernel
theorem dX1_share_2 : decode cX1_share 2 = .ok (.putfield 43, 3) := by decide +kernel
theorem dX1_share_5 : decode cX1_share 5 = .ok (.iload_n 1, 1) := by decide +kernel
theorem dX1_share_6 : decode cX1_share 6 = .ok (.invokestatic 124, 3) := by decide +kernel
theorem dX1_share_9 : decode cX1_share 9 = .ok (.ifCond .eq 21, 3) := by decide +kernel
theorem dX1_share_12 : decode cX1_share 12 = .ok (.iload_n 2, 1) := by decide +kernel
theorem dX1_share_13 : decode cX1_share 13 = .ok (.i2l, 1) := by decide +kernel
theorem dX1_share_14 : decode cX1_share 14 = .ok (.lconst 0, 1) := by decide +kernel
theorem dX1_share_15 : decode cX1_share 15 = .ok (.aload_n 0, 1) := by decide +kernel
theorem dX1_share_16 : decode cX1_share 16 = .ok (.getfield 19, 3) := by decide +kernel
theorem dX1_share_19 : decode cX1_share 19 = .ok (.iload_n 1, 1) := by decide +kernel
theorem dX1_share_20 : decode cX1_share 20 = .ok (.iaload, 1) := by decide +kernel
theorem dX1_share_21 : decode cX1_share 21 = .ok (.iconst 1, 1) := by decide +kernel
theorem dX1_share_22 : decode cX1_share 22 = .ok (.isub, 1) := by decide +kernel
theorem dX1_share_23 : decode cX1_share 23 = .ok (.i2l, 1) := by decide +kernel
theorem dX1_share_24 : decode cX1_share 24 = .ok (.invokestatic 59, 3) := by decide +kernel
theorem dX1_share_27 : decode cX1_share 27 = .ok (.ifCond .ne 5, 3) := by decide +kernel
theorem dX1_share_30 : decode cX1_share 30 = .ok (.iconst (-1), 1) := by decide +kernel
theorem dX1_share_31 : decode cX1_share 31 = .ok (.ireturn, 1) := by decide +kernel
theorem dX1_share_32 : decode cX1_share 32 = .ok (.aload_n 0, 1) := by decide +kernel
theorem dX1_share_33 : decode cX1_share 33 = .ok (.getfield 56, 3) := by decide +kernel
theorem dX1_share_36 : decode cX1_share 36 = .ok (.bipush 40, 2) := by decide +kernel
theorem dX1_share_38 : decode cX1_share 38 = .ok (.if_icmp .ne 6, 3) := by decide +kernel
theorem dX1_share_41 : decode cX1_share 41 = .ok (.bipush (-4), 2) := by decide +kernel
theorem dX1_share_43 : decode cX1_share 43 = .ok (.ireturn, 1) := by decide +kernel
theorem dX1_share_44 : decode cX1_share 44 = .ok (.aload_n 0, 1) := by decide +kernel
theorem dX1_share_45 : decode cX1_share 45 = .ok (.iload_n 1, 1) := by decide +kernel
theorem dX1_share_46 : decode cX1_share 46 = .ok (.invokevirtual 127, 3) := by decide +kernel
theorem dX1_share_49 : decode cX1_share 49 = .ok (.lstore_n 3, 1) := by decide +kernel
theorem dX1_share_50 : decode cX1_share 50 = .ok (.lload_n 3, 1) := by decide +kernel
theorem dX1_share_51 : decode cX1_share 51 = .ok (.lconst 0, 1) := by decide +kernel
theorem dX1_share_52 : decode cX1_share 52 = .ok (.lcmp, 1) := by decide +kernel
theorem dX1_share_53 : decode cX1_share 53 = .ok (.ifCond .ne 10, 3) := by decide +kernel
theorem dX1_share_56 : decode cX1_share 56 = .ok (.aload_n 0, 1) := by decide +kernel
theorem dX1_share_57 : decode cX1_share 57 = .ok (.iconst 1, 1) := by decide +kernel
theorem dX1_share_58 : decode cX1_share 58 = .ok (.putfield 43, 3) := by decide +kernel
theorem dX1_share_61 : decode cX1_share 61 = .ok (.iconst 0, 1) := by decide +kernel
theorem dX1_share_62 : decode cX1_share 62 = .ok (.ireturn, 1) := by decide +kernel
theorem dX1_share_63 : decode cX1_share 63 = .ok (.aload_n 0, 1) := by decide +kernel
theorem dX1_share_64 : decode cX1_share 64 = .ok (.aload_n 0, 1) := by decide +kernel
theorem dX1_share_65 : decode cX1_share 65 = .ok (.getfield 16, 3) := by decide +kernel
theorem dX1_share_68 : decode cX1_share 68 = .ok (.bipush 8, 2) := by decide +kernel
theorem dX1_share_70 : decode cX1_share 70 = .ok (.iload_n 1, 1) := by decide +kernel
theorem dX1_share_71 : decode cX1_share 71 = .ok (.imul, 1) := by decide +kernel
theorem dX1_share_72 : decode cX1_share 72 = .ok (.iload_n 2, 1) := by decide +kernel
theorem dX1_share_73 : decode cX1_share 73 = .ok (.iadd, 1) := by decide +kernel
theorem dX1_share_74 : decode cX1_share 74 = .ok (.laload, 1) := by decide +kernel
theorem dX1_share_75 : decode cX1_share 75 = .ok (.lload_n 3, 1) := by decide +kernel
theorem dX1_share_76 : decode cX1_share 76 = .ok (.invokevirtual 71, 3) := by decide +kernel
theorem dX1_share_79 : decode cX1_share 79 = .ok (.ireturn, 1) := by decide +kernel
set_option maxRecDepth 20000 in
theorem ggX1_seats_X1_isRow : GoodIn wsX1_seats wsX1_isRow := goodIn_r _ [13, 14, 15, 16, 12, 17] (by decide +kernel) (by decide +kernel)
set_option maxRecDepth 20000 in
theorem gX1_seats_X1_isRow : GoodIn wsX1_seats (va_wsS RX1 124 yX1_isRow wsX1_isRow) := goodIn_app (goodIn_of _ (by decide +kernel)) ggX1_seats_X1_isRow
set_option maxRecDepth 20000 in
theorem ggX1_seats_X1_isIn : GoodIn wsX1_seats wsX1_isIn := goodIn_r _ [17] (by decide +kernel) (by decide +kernel)
set_option maxRecDepth 20000 in
theorem gX1_seats_X1_isIn : GoodIn wsX1_seats (va_wsS RX1 59 yX1_isIn wsX1_isIn) := goodIn_app (goodIn_of _ (by decide +kernel)) ggX1_seats_X1_isIn
set_option maxRecDepth 20000 in
theorem ggX1_seats_X1_sumOf : GoodIn wsX1_seats wsX1_sumOf := goodIn_r _ [21, 4, 7, 22, 23, 24, 25, 26, 27, 28, 29, 30, 31, 32, 33, 34, 35, 36, 37, 38] (by decide +kernel) (by decide +kernel)
set_option maxRecDepth 20000 in
theorem gX1_seats_X1_sumOf : GoodIn wsX1_seats (wsV RX1 127 RX1 yX1_sumOf wsX1_sumOf) := goodIn_app (goodIn_of _ (by decide +kernel)) ggX1_seats_X1_sumOf
theorem dX1_seats_0 : decode cX1_seats 0 = .ok (.aload_n 0, 1) := by decide +kernel
theorem dX1_seats_1 : decode cX1_seats 1 = .ok (.iconst 0, 1) := by decide +kernel
theorem dX1_seats_2 : decode cX1_seats 2 = .ok (.putfield 43, 3) := by decide +kernel
theorem dX1_seats_5 : decode cX1_seats 5 = .ok (.iload_n 1, 1) := by decide +kernel
theorem dX1_seats_6 : decode cX1_seats 6 = .ok (.invokestatic 124, 3) := by decide +kernel
theorem dX1_seats_9 : decode cX1_seats 9 = .ok (.ifCond .eq 27, 3) := by decide +kernel
theorem dX1_seats_12 : decode cX1_seats 12 = .ok (.iload_n 2, 1) := by decide +kernel
theorem dX1_seats_13 : decode cX1_seats 13 = .ok (.i2l, 1) := by decide +kernel
theorem dX1_seats_14 : decode cX1_seats 14 = .ok (.lconst 0, 1) := by decide +kernel
theorem dX1_seats_15 : decode cX1_seats 15 = .ok (.ldc2_w 131, 3) := by decide +kernel
theorem dX1_seats_18 : decode cX1_seats 18 = .ok (.invokestatic 59, 3) := by decide +kernel
theorem dX1_seats_21 : decode cX1_seats 21 = .ok (.ifCond .eq 15, 3) := by decide +kernel
theorem dX1_seats_24 : decode cX1_seats 24 = .ok (.iload_n 3, 1) := by decide +kernel
theorem dX1_seats_25 : decode cX1_seats 25 = .ok (.i2l, 1) := by decide +kernel
theorem dX1_seats_26 : decode cX1_seats 26 = .ok (.lconst 0, 1) := by decide +kernel
theorem dX1_seats_27 : decode cX1_seats 27 = .ok (.ldc2_w 133, 3) := by decide +kernel
theorem dX1_seats_30 : decode cX1_seats 30 = .ok (.invokestatic 59, 3) := by decide +kernel
theorem dX1_seats_33 : decode cX1_seats 33 = .ok (.ifCond .ne 5, 3) := by decide +kernel
theorem dX1_seats_36 : decode cX1_seats 36 = .ok (.iconst (-1), 1) := by decide +kernel
theorem dX1_seats_37 : decode cX1_seats 37 = .ok (.ireturn, 1) := by decide +kernel
theorem dX1_seats_38 : decode cX1_seats 38 = .ok (.aload_n 0, 1) := by decide +kernel
theorem dX1_seats_39 : decode cX1_seats 39 = .ok (.iload_n 1, 1) := by decide +kernel
theorem dX1_seats_40 : decode cX1_seats 40 = .ok (.invokevirtual 127, 3) := by decide +kernel
theorem dX1_seats_43 : decode cX1_seats 43 = .ok (.lstore 4, 2) := by decide +kernel
theorem dX1_seats_45 : decode cX1_seats 45 = .ok (.lload 4, 2) := by decide +kernel
theorem dX1_seats_47 : decode cX1_seats 47 = .ok (.lconst 0, 1) := by decide +kernel
theorem dX1_seats_48 : decode cX1_seats 48 = .ok (.lcmp, 1) := by decide +kernel
theorem dX1_seats_49 : decode cX1_seats 49 = .ok (.ifCond .ne 6, 3) := by decide +kernel
theorem dX1_seats_52 : decode cX1_seats 52 = .ok (.bipush (-2), 2) := by decide +kernel
theorem dX1_seats_54 : decode cX1_seats 54 = .ok (.ireturn, 1) := by decide +kernel
theorem dX1_seats_55 : decode cX1_seats 55 = .ok (.aload_n 0, 1) := by decide +kernel
theorem dX1_seats_56 : decode cX1_seats 56 = .ok (.aload_n 0, 1) := by decide +kernel
theorem dX1_seats_57 : decode cX1_seats 57 = .ok (.getfield 19, 3) := by decide +kernel
theorem dX1_seats_60 : decode cX1_seats 60 = .ok (.iload_n 1, 1) := by decide +kernel
theorem dX1_seats_61 : decode cX1_seats 61 = .ok (.iaload, 1) := by decide +kernel
theorem dX1_seats_62 : decode cX1_seats 62 = .ok (.putfield 23, 3) := by decide +kernel
theorem dX1_seats_65 : decode cX1_seats 65 = .ok (.iload_n 2, 1) := by decide +kernel
theorem dX1_seats_66 : decode cX1_seats 66 = .ok (.istore 6, 2) := by decide +kernel
theorem dX1_seats_68 : decode cX1_seats 68 = .ok (.iconst 0, 1) := by decide +kernel
theorem dX1_seats_69 : decode cX1_seats 69 = .ok (.istore 7, 2) := by decide +kernel
theorem dX1_seats_71 : decode cX1_seats 71 = .ok (.iload 7, 2) := by decide +kernel
