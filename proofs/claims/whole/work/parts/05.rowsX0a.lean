theorem dX0_init_0 : decode cX0_init 0 = .ok (.aload_n 0, 1) := by decide +kernel
theorem dX0_init_1 : decode cX0_init 1 = .ok (.invokespecial 3, 3) := by decide +kernel
theorem dX0_init_4 : decode cX0_init 4 = .ok (.aload_n 0, 1) := by decide +kernel
theorem dX0_init_5 : decode cX0_init 5 = .ok (.bipush 40, 2) := by decide +kernel
theorem dX0_init_7 : decode cX0_init 7 = .ok (.newarray .long, 2) := by decide +kernel
theorem dX0_init_9 : decode cX0_init 9 = .ok (.putfield 11, 3) := by decide +kernel
theorem dX0_init_12 : decode cX0_init 12 = .ok (.aload_n 0, 1) := by decide +kernel
theorem dX0_init_13 : decode cX0_init 13 = .ok (.bipush 40, 2) := by decide +kernel
theorem dX0_init_15 : decode cX0_init 15 = .ok (.newarray .long, 2) := by decide +kernel
theorem dX0_init_17 : decode cX0_init 17 = .ok (.putfield 15, 3) := by decide +kernel
theorem dX0_init_20 : decode cX0_init 20 = .ok (.aload_n 0, 1) := by decide +kernel
theorem dX0_init_21 : decode cX0_init 21 = .ok (.iconst 4, 1) := by decide +kernel
theorem dX0_init_22 : decode cX0_init 22 = .ok (.bipush 8, 2) := by decide +kernel
theorem dX0_init_24 : decode cX0_init 24 = .ok (.multianewarray 18 2, 4) := by decide +kernel
theorem dX0_init_28 : decode cX0_init 28 = .ok (.putfield 20, 3) := by decide +kernel
theorem dX0_init_31 : decode cX0_init 31 = .ok (.aload_n 0, 1) := by decide +kernel
theorem dX0_init_32 : decode cX0_init 32 = .ok (.iconst 4, 1) := by decide +kernel
theorem dX0_init_33 : decode cX0_init 33 = .ok (.newarray .int, 2) := by decide +kernel
theorem dX0_init_35 : decode cX0_init 35 = .ok (.putfield 23, 3) := by decide +kernel
theorem dX0_init_38 : decode cX0_init 38 = .ok (.aload_n 0, 1) := by decide +kernel
theorem dX0_init_39 : decode cX0_init 39 = .ok (.bipush 8, 2) := by decide +kernel
theorem dX0_init_41 : decode cX0_init 41 = .ok (.newarray .int, 2) := by decide +kernel
theorem dX0_init_43 : decode cX0_init 43 = .ok (.putfield 27, 3) := by decide +kernel
theorem dX0_init_46 : decode cX0_init 46 = .ok (.aload_n 0, 1) := by decide +kernel
theorem dX0_init_47 : decode cX0_init 47 = .ok (.bipush 8, 2) := by decide +kernel
theorem dX0_init_49 : decode cX0_init 49 = .ok (.newarray .long, 2) := by decide +kernel
theorem dX0_init_51 : decode cX0_init 51 = .ok (.putfield 30, 3) := by decide +kernel
theorem dX0_init_54 : decode cX0_init 54 = .ok (.aload_n 0, 1) := by decide +kernel
theorem dX0_init_55 : decode cX0_init 55 = .ok (.bipush 16, 2) := by decide +kernel
theorem dX0_init_57 : decode cX0_init 57 = .ok (.newarray .long, 2) := by decide +kernel
theorem dX0_init_59 : decode cX0_init 59 = .ok (.putfield 33, 3) := by decide +kernel
theorem dX0_init_62 : decode cX0_init 62 = .ok (.return_, 1) := by decide +kernel
set_option maxRecDepth 20000 in
theorem ggX0_value_X0_keep : GoodIn wsX0_value wsX0_keep := goodIn_r _ [6, 7, 8, 9, 10, 11, 12, 5, 13, 14, 15, 16, 17, 18, 19, 20, 21, 22, 23, 24, 25, 26, 27, 28, 29, 30, 31, 32, 33, 34, 35, 36] (by decide +kernel) (by decide +kernel)
set_option maxRecDepth 20000 in
theorem gX0_value_X0_keep : GoodIn wsX0_value (wsV RX0 38 RX0 yX0_keep wsX0_keep) := goodIn_app (goodIn_of _ (by decide +kernel)) ggX0_value_X0_keep
theorem dX0_value_0 : decode cX0_value 0 = .ok (.lload_n 3, 1) := by decide +kernel
theorem dX0_value_1 : decode cX0_value 1 = .ok (.lconst 0, 1) := by decide +kernel
theorem dX0_value_2 : decode cX0_value 2 = .ok (.lcmp, 1) := by decide +kernel
theorem dX0_value_3 : decode cX0_value 3 = .ok (.ifCond .ne 6, 3) := by decide +kernel
theorem dX0_value_6 : decode cX0_value 6 = .ok (.bipush (-2), 2) := by decide +kernel
theorem dX0_value_8 : decode cX0_value 8 = .ok (.ireturn, 1) := by decide +kernel
theorem dX0_value_9 : decode cX0_value 9 = .ok (.lload_n 1, 1) := by decide +kernel
theorem dX0_value_10 : decode cX0_value 10 = .ok (.ldc2_w 36, 3) := by decide +kernel
theorem dX0_value_13 : decode cX0_value 13 = .ok (.lcmp, 1) := by decide +kernel
theorem dX0_value_14 : decode cX0_value 14 = .ok (.ifCond .eq 11, 3) := by decide +kernel
theorem dX0_value_17 : decode cX0_value 17 = .ok (.lload_n 3, 1) := by decide +kernel
theorem dX0_value_18 : decode cX0_value 18 = .ok (.ldc2_w 36, 3) := by decide +kernel
theorem dX0_value_21 : decode cX0_value 21 = .ok (.lcmp, 1) := by decide +kernel
theorem dX0_value_22 : decode cX0_value 22 = .ok (.ifCond .ne 6, 3) := by decide +kernel
theorem dX0_value_25 : decode cX0_value 25 = .ok (.bipush (-3), 2) := by decide +kernel
theorem dX0_value_27 : decode cX0_value 27 = .ok (.ireturn, 1) := by decide +kernel
theorem dX0_value_28 : decode cX0_value 28 = .ok (.lload_n 3, 1) := by decide +kernel
theorem dX0_value_29 : decode cX0_value 29 = .ok (.lconst 0, 1) := by decide +kernel
theorem dX0_value_30 : decode cX0_value 30 = .ok (.lcmp, 1) := by decide +kernel
theorem dX0_value_31 : decode cX0_value 31 = .ok (.ifCond .ge 14, 3) := by decide +kernel
theorem dX0_value_34 : decode cX0_value 34 = .ok (.aload_n 0, 1) := by decide +kernel
theorem dX0_value_35 : decode cX0_value 35 = .ok (.lload_n 1, 1) := by decide +kernel
theorem dX0_value_36 : decode cX0_value 36 = .ok (.lneg, 1) := by decide +kernel
theorem dX0_value_37 : decode cX0_value 37 = .ok (.lload_n 3, 1) := by decide +kernel
theorem dX0_value_38 : decode cX0_value 38 = .ok (.lneg, 1) := by decide +kernel
theorem dX0_value_39 : decode cX0_value 39 = .ok (.invokevirtual 38, 3) := by decide +kernel
theorem dX0_value_42 : decode cX0_value 42 = .ok (.goto 9, 3) := by decide +kernel
theorem dX0_value_45 : decode cX0_value 45 = .ok (.aload_n 0, 1) := by decide +kernel
theorem dX0_value_46 : decode cX0_value 46 = .ok (.lload_n 1, 1) := by decide +kernel
theorem dX0_value_47 : decode cX0_value 47 = .ok (.lload_n 3, 1) := by decide +kernel
theorem dX0_value_48 : decode cX0_value 48 = .ok (.invokevirtual 38, 3) := by decide +kernel
theorem dX0_value_51 : decode cX0_value 51 = .ok (.ireturn, 1) := by decide +kernel
set_option maxRecDepth 20000 in
theorem ggX0_act_X0_isNumber : GoodIn wsX0_act wsX0_isNumber := goodIn_r _ [7, 8, 52, 53, 54, 55, 56, 57, 58, 59, 60, 61, 62, 63, 64] (by decide +kernel) (by decide +kernel)
set_option maxRecDepth 20000 in
theorem gX0_act_X0_isNumber : GoodIn wsX0_act (wsV RX0 42 RX0 yX0_isNumber wsX0_isNumber) := goodIn_app (goodIn_of _ (by decide +kernel)) ggX0_act_X0_isNumber
set_option maxRecDepth 20000 in
theorem ggX0_act_X0_isFull : GoodIn wsX0_act wsX0_isFull := goodIn_r _ [12, 8, 52, 53, 54, 55, 56, 57, 58, 59, 60, 61, 62, 63, 64] (by decide +kernel) (by decide +kernel)
set_option maxRecDepth 20000 in
theorem gX0_act_X0_isFull : GoodIn wsX0_act (wsV RX0 46 RX0 yX0_isFull wsX0_isFull) := goodIn_app (goodIn_of _ (by decide +kernel)) ggX0_act_X0_isFull
set_option maxRecDepth 20000 in
theorem ggX0_act_X0_keepSum : GoodIn wsX0_act wsX0_keepSum := goodIn_r _ [16, 17, 18, 6, 19, 20, 21, 22, 23, 24, 25, 26, 27, 28, 29, 30, 31, 32, 33, 34, 35, 36, 37, 38, 39, 40, 41, 42, 43, 1, 8, 2, 9, 10, 11, 12, 52, 53, 54, 55, 56, 57, 58, 59, 60, 61, 62, 63, 64] (by decide +kernel) (by decide +kernel)
set_option maxRecDepth 20000 in
theorem gX0_act_X0_keepSum : GoodIn wsX0_act (wsV RX0 50 RX0 yX0_keepSum wsX0_keepSum) := goodIn_app (goodIn_of _ (by decide +kernel)) ggX0_act_X0_keepSum
set_option maxRecDepth 20000 in
theorem ggX0_act_X0_keepProduct : GoodIn wsX0_act wsX0_keepProduct := goodIn_r _ [47, 17, 18, 6, 19, 20, 21, 22, 23, 24, 25, 26, 27, 28, 29, 30, 31, 35, 36, 37, 38, 39, 40, 41, 42, 43, 1, 8, 2, 9, 10, 11, 12, 52, 53, 54, 55, 56, 57, 58, 59, 60, 61, 62, 63, 64] (by decide +kernel) (by decide +kernel)
set_option maxRecDepth 20000 in
theorem gX0_act_X0_keepProduct : GoodIn wsX0_act (wsV RX0 54 RX0 yX0_keepProduct wsX0_keepProduct) := goodIn_app (goodIn_of _ (by decide +kernel)) ggX0_act_X0_keepProduct
set_option maxRecDepth 20000 in
theorem ggX0_act_X0_keepQuotient : GoodIn wsX0_act wsX0_keepQuotient := goodIn_r _ [51, 1, 2, 44, 45, 46, 6, 47, 17, 18, 19, 20, 21, 22, 23, 24, 25, 26, 27, 28, 29, 30, 31, 35, 36, 37, 38, 39, 40, 41, 42, 43, 8, 9, 10, 11, 12, 52, 53, 54, 55, 56, 57, 58, 59, 60, 61, 62, 63, 64] (by decide +kernel) (by decide +kernel)
set_option maxRecDepth 20000 in
theorem gX0_act_X0_keepQuotient : GoodIn wsX0_act (wsV RX0 57 RX0 yX0_keepQuotient wsX0_keepQuotient) := goodIn_app (goodIn_of _ (by decide +kernel)) ggX0_act_X0_keepQuotient
theorem dX0_act_0 : decode cX0_act 0 = .ok (.iload_n 1, 1) := by decide +kernel
theorem dX0_act_1 : decode cX0_act 1 = .ok (.ifCond .lt 24, 3) := by decide +kernel
theorem dX0_act_4 : decode cX0_act 4 = .ok (.iload_n 1, 1) := by decide +kernel
theorem dX0_act_5 : decode cX0_act 5 = .ok (.iconst 3, 1) := by decide +kernel
theorem dX0_act_6 : decode cX0_act 6 = .ok (.if_icmp .gt 19, 3) := by decide +kernel
theorem dX0_act_9 : decode cX0_act 9 = .ok (.aload_n 0, 1) := by decide +kernel
theorem dX0_act_10 : decode cX0_act 10 = .ok (.iload_n 2, 1) := by decide +kernel
theorem dX0_act_11 : decode cX0_act 11 = .ok (.invokevirtual 42, 3) := by decide +kernel
theorem dX0_act_14 : decode cX0_act 14 = .ok (.ifCond .eq 11, 3) := by decide +kernel
theorem dX0_act_17 : decode cX0_act 17 = .ok (.aload_n 0, 1) := by decide +kernel
theorem dX0_act_18 : decode cX0_act 18 = .ok (.iload_n 3, 1) := by decide +kernel
theorem dX0_act_19 : decode cX0_act 19 = .ok (.invokevirtual 42, 3) := by decide +kernel
theorem dX0_act_22 : decode cX0_act 22 = .ok (.ifCond .ne 5, 3) := by decide +kernel
theorem dX0_act_25 : decode cX0_act 25 = .ok (.iconst (-1), 1) := by decide +kernel
theorem dX0_act_26 : decode cX0_act 26 = .ok (.ireturn, 1) := by decide +kernel
theorem dX0_act_27 : decode cX0_act 27 = .ok (.aload_n 0, 1) := by decide +kernel
theorem dX0_act_28 : decode cX0_act 28 = .ok (.invokevirtual 46, 3) := by decide +kernel
theorem dX0_act_31 : decode cX0_act 31 = .ok (.ifCond .eq 6, 3) := by decide +kernel
theorem dX0_act_34 : decode cX0_act 34 = .ok (.bipush (-4), 2) := by decide +kernel
theorem dX0_act_36 : decode cX0_act 36 = .ok (.ireturn, 1) := by decide +kernel
theorem dX0_act_37 : decode cX0_act 37 = .ok (.iload_n 1, 1) := by decide +kernel
theorem dX0_act_38 : decode cX0_act 38 = .ok (.tableswitch 114 0 2 #[26, 55, 85], 26) := by decide +kernel
theorem dX0_act_64 : decode cX0_act 64 = .ok (.aload_n 0, 1) := by decide +kernel
theorem dX0_act_65 : decode cX0_act 65 = .ok (.aload_n 0, 1) := by decide +kernel
theorem dX0_act_66 : decode cX0_act 66 = .ok (.getfield 11, 3) := by decide +kernel
theorem dX0_act_69 : decode cX0_act 69 = .ok (.iload_n 2, 1) := by decide +kernel
theorem dX0_act_70 : decode cX0_act 70 = .ok (.laload, 1) := by decide +kernel
theorem dX0_act_71 : decode cX0_act 71 = .ok (.aload_n 0, 1) := by decide +kernel
theorem dX0_act_72 : decode cX0_act 72 = .ok (.getfield 15, 3) := by decide +kernel
theorem dX0_act_75 : decode cX0_act 75 = .ok (.iload_n 2, 1) := by decide +kernel
theorem dX0_act_76 : decode cX0_act 76 = .ok (.laload, 1) := by decide +kernel
theorem dX0_act_77 : decode cX0_act 77 = .ok (.aload_n 0, 1) := by decide +kernel
theorem dX0_act_78 : decode cX0_act 78 = .ok (.getfield 11, 3) := by decide +kernel
theorem dX0_act_81 : decode cX0_act 81 = .ok (.iload_n 3, 1) := by decide +kernel
theorem dX0_act_82 : decode cX0_act 82 = .ok (.laload, 1) := by decide +kernel
theorem dX0_act_83 : decode cX0_act 83 = .ok (.aload_n 0, 1) := by decide +kernel
theorem dX0_act_84 : decode cX0_act 84 = .ok (.getfield 15, 3) := by decide +kernel
theorem dX0_act_87 : decode cX0_act 87 = .ok (.iload_n 3, 1) := by decide +kernel
theorem dX0_act_88 : decode cX0_act 88 = .ok (.laload, 1) := by decide +kernel
theorem dX0_act_89 : decode cX0_act 89 = .ok (.invokevirtual 50, 3) := by decide +kernel
theorem dX0_act_92 : decode cX0_act 92 = .ok (.ireturn, 1) := by decide +kernel
theorem dX0_act_93 : decode cX0_act 93 = .ok (.aload_n 0, 1) := by decide +kernel
theorem dX0_act_94 : decode cX0_act 94 = .ok (.aload_n 0, 1) := by decide +kernel
theorem dX0_act_95 : decode cX0_act 95 = .ok (.getfield 11, 3) := by decide +kernel
theorem dX0_act_98 : decode cX0_act 98 = .ok (.iload_n 2, 1) := by decide +kernel
theorem dX0_act_99 : decode cX0_act 99 = .ok (.laload, 1) := by decide +kernel
theorem dX0_act_100 : decode cX0_act 100 = .ok (.aload_n 0, 1) := by decide +kernel
theorem dX0_act_101 : decode cX0_act 101 = .ok (.getfield 15, 3) := by decide +kernel
theorem dX0_act_104 : decode cX0_act 104 = .ok (.iload_n 2, 1) := by decide +kernel
theorem dX0_act_105 : decode cX0_act 105 = .ok (.laload, 1) := by decide +kernel
theorem dX0_act_106 : decode cX0_act 106 = .ok (.aload_n 0, 1) := by decide +kernel
theorem dX0_act_107 : decode cX0_act 107 = .ok (.getfield 11, 3) := by decide +kernel
theorem dX0_act_110 : decode cX0_act 110 = .ok (.iload_n 3, 1) := by decide +kernel
theorem dX0_act_111 : decode cX0_act 111 = .ok (.laload, 1) := by decide +kernel
theorem dX0_act_112 : decode cX0_act 112 = .ok (.lneg, 1) := by decide +kernel
theorem dX0_act_113 : decode cX0_act 113 = .ok (.aload_n 0, 1) := by decide +kernel
theorem dX0_act_114 : decode cX0_act 114 = .ok (.getfield 15, 3) := by decide +kernel
theorem dX0_act_117 : decode cX0_act 117 = .ok (.iload_n 3, 1) := by decide +kernel
theorem dX0_act_118 : decode cX0_act 118 = .ok (.laload, 1) := by decide +kernel
theorem dX0_act_119 : decode cX0_act 119 = .ok (.invokevirtual 50, 3) := by decide +kernel
theorem dX0_act_122 : decode cX0_act 122 = .ok (.ireturn, 1) := by decide +kernel
theorem dX0_act_123 : decode cX0_act 123 = .ok (.aload_n 0, 1) := by decide +kernel
theorem dX0_act_124 : decode cX0_act 124 = .ok (.aload_n 0, 1) := by decide +kernel
theorem dX0_act_125 : decode cX0_act 125 = .ok (.getfield 11, 3) := by decide +kernel
theorem dX0_act_128 : decode cX0_act 128 = .ok (.iload_n 2, 1) := by decide +kernel
theorem dX0_act_129 : decode cX0_act 129 = .ok (.laload, 1) := by decide +kernel
theorem dX0_act_130 : decode cX0_act 130 = .ok (.aload_n 0, 1) := by decide +kernel
theorem dX0_act_131 : decode cX0_act 131 = .ok (.getfield 15, 3) := by decide +kernel
theorem dX0_act_134 : decode cX0_act 134 = .ok (.iload_n 2, 1) := by decide +kernel
theorem dX0_act_135 : decode cX0_act 135 = .ok (.laload, 1) := by decide +kernel
theorem dX0_act_136 : decode cX0_act 136 = .ok (.aload_n 0, 1) := by decide +kernel
theorem dX0_act_137 : decode cX0_act 137 = .ok (.getfield 11, 3) := by decide +kernel
theorem dX0_act_140 : decode cX0_act 140 = .ok (.iload_n 3, 1) := by decide +kernel
theorem dX0_act_141 : decode cX0_act 141 = .ok (.laload, 1) := by decide +kernel
theorem dX0_act_142 : decode cX0_act 142 = .ok (.aload_n 0, 1) := by decide +kernel
theorem dX0_act_143 : decode cX0_act 143 = .ok (.getfield 15, 3) := by decide +kernel
theorem dX0_act_146 : decode cX0_act 146 = .ok (.iload_n 3, 1) := by decide +kernel
theorem dX0_act_147 : decode cX0_act 147 = .ok (.laload, 1) := by decide +kernel
theorem dX0_act_148 : decode cX0_act 148 = .ok (.invokevirtual 54, 3) := by decide +kernel
theorem dX0_act_151 : decode cX0_act 151 = .ok (.ireturn, 1) := by decide +kernel
theorem dX0_act_152 : decode cX0_act 152 = .ok (.aload_n 0, 1) := by decide +kernel
theorem dX0_act_153 : decode cX0_act 153 = .ok (.getfield 11, 3) := by decide +kernel
theorem dX0_act_156 : decode cX0_act 156 = .ok (.iload_n 3, 1) := by decide +kernel
theorem dX0_act_157 : decode cX0_act 157 = .ok (.laload, 1) := by decide +kernel
theorem dX0_act_158 : decode cX0_act 158 = .ok (.lconst 0, 1) := by decide +kernel
theorem dX0_act_159 : decode cX0_act 159 = .ok (.lcmp, 1) := by decide +kernel
theorem dX0_act_160 : decode cX0_act 160 = .ok (.ifCond .ne 8, 3) := by decide +kernel
theorem dX0_act_163 : decode cX0_act 163 = .ok (.bipush (-2), 2) := by decide +kernel
theorem dX0_act_165 : decode cX0_act 165 = .ok (.goto 9, 3) := by decide +kernel
theorem dX0_act_168 : decode cX0_act 168 = .ok (.aload_n 0, 1) := by decide +kernel
theorem dX0_act_169 : decode cX0_act 169 = .ok (.iload_n 2, 1) := by decide +kernel
theorem dX0_act_170 : decode cX0_act 170 = .ok (.iload_n 3, 1) := by decide +kernel
theorem dX0_act_171 : decode cX0_act 171 = .ok (.invokevirtual 57, 3) := by decide +kernel
theorem dX0_act_174 : decode cX0_act 174 = .ok (.ireturn, 1) := by decide +kernel
set_option maxRecDepth 20000 in
theorem ggX0_over_X0_isNumber : GoodIn wsX0_over wsX0_isNumber := goodIn_r _ [8, 9, 47, 48, 49, 50, 51, 52, 53, 54, 55, 56, 57, 58, 59] (by decide +kernel) (by decide +kernel)
set_option maxRecDepth 20000 in
theorem gX0_over_X0_isNumber : GoodIn wsX0_over (wsV RX0 42 RX0 yX0_isNumber wsX0_isNumber) := goodIn_app (goodIn_of _ (by decide +kernel)) ggX0_over_X0_isNumber
set_option maxRecDepth 20000 in
theorem ggX0_over_X0_isFull : GoodIn wsX0_over wsX0_isFull := goodIn_r _ [13, 9, 47, 48, 49, 50, 51, 52, 53, 54, 55, 56, 57, 58, 59] (by decide +kernel) (by decide +kernel)
set_option maxRecDepth 20000 in
theorem gX0_over_X0_isFull : GoodIn wsX0_over (wsV RX0 46 RX0 yX0_isFull wsX0_isFull) := goodIn_app (goodIn_of _ (by decide +kernel)) ggX0_over_X0_isFull
set_option maxRecDepth 20000 in
theorem ggX0_over_X0_keepQuotient : GoodIn wsX0_over wsX0_keepQuotient := goodIn_r _ [17, 3, 18, 19, 20, 21, 7, 22, 23, 24, 25, 26, 27, 28, 29, 30, 31, 32, 33, 34, 35, 36, 37, 38, 39, 40, 41, 42, 43, 44, 45, 46, 9, 10, 11, 12, 13, 47, 48, 49, 50, 51, 52, 53, 54, 55, 56, 57, 58, 59] (by decide +kernel) (by decide +kernel)
set_option maxRecDepth 20000 in
theorem gX0_over_X0_keepQuotient : GoodIn wsX0_over (wsV RX0 57 RX0 yX0_keepQuotient wsX0_keepQuotient) := goodIn_app (goodIn_of _ (by decide +kernel)) ggX0_over_X0_keepQuotient
theorem dX0_over_0 : decode cX0_over 0 = .ok (.aload_n 0, 1) := by decide +kernel
theorem dX0_over_1 : decode cX0_over 1 = .ok (.iload_n 1, 1) := by decide +kernel
theorem dX0_over_2 : decode cX0_over 2 = .ok (.invokevirtual 42, 3) := by decide +kernel
theorem dX0_over_5 : decode cX0_over 5 = .ok (.ifCond .eq 11, 3) := by decide +kernel
theorem dX0_over_8 : decode cX0_over 8 = .ok (.aload_n 0, 1) := by decide +kernel
theorem dX0_over_9 : decode cX0_over 9 = .ok (.iload_n 2, 1) := by decide +kernel
theorem dX0_over_10 : decode cX0_over 10 = .ok (.invokevirtual 42, 3) := by decide +kernel
theorem dX0_over_13 : decode cX0_over 13 = .ok (.ifCond .ne 5, 3) := by decide +kernel
theorem dX0_over_16 : decode cX0_over 16 = .ok (.iconst (-1), 1) := by decide +kernel
theorem dX0_over_17 : decode cX0_over 17 = .ok (.ireturn, 1) := by decide +kernel
theorem dX0_over_18 : decode cX0_over 18 = .ok (.aload_n 0, 1) := by decide +kernel
theorem dX0_over_19 : decode cX0_over 19 = .ok (.invokevirtual 46, 3) := by decide +kernel
theorem dX0_over_22 : decode cX0_over 22 = .ok (.ifCond .eq 6, 3) := by decide +kernel
theorem dX0_over_25 : decode cX0_over 25 = .ok (.bipush (-4), 2) := by decide +kernel
theorem dX0_over_27 : decode cX0_over 27 = .ok (.ireturn, 1) := by decide +kernel
theorem dX0_over_28 : decode cX0_over 28 = .ok (.aload_n 0, 1) := by decide +kernel
theorem dX0_over_29 : decode cX0_over 29 = .ok (.getfield 11, 3) := by decide +kernel
theorem dX0_over_32 : decode cX0_over 32 = .ok (.iload_n 2, 1) := by decide +kernel
theorem dX0_over_33 : decode cX0_over 33 = .ok (.laload, 1) := by decide +kernel
theorem dX0_over_34 : decode cX0_over 34 = .ok (.lconst 0, 1) := by decide +kernel
theorem dX0_over_35 : decode cX0_over 35 = .ok (.lcmp, 1) := by decide +kernel
theorem dX0_over_36 : decode cX0_over 36 = .ok (.ifCond .ne 13, 3) := by decide +kernel
theorem dX0_over_39 : decode cX0_over 39 = .ok (.new 61, 3) := by decide +kernel
theorem dX0_over_42 : decode cX0_over 42 = .ok (.dup, 1) := by decide +kernel
theorem dX0_over_43 : decode cX0_over 43 = .ok (.ldc 63, 2) := by decide +kernel
theorem dX0_over_45 : decode cX0_over 45 = .ok (.invokespecial 65, 3) := by decide +kernel
theorem dX0_over_48 : decode cX0_over 48 = .ok (.athrow, 1) := by decide +kernel
theorem dX0_over_49 : decode cX0_over 49 = .ok (.aload_n 0, 1) := by decide +kernel
theorem dX0_over_50 : decode cX0_over 50 = .ok (.iload_n 1, 1) := by decide +kernel
theorem dX0_over_51 : decode cX0_over 51 = .ok (.iload_n 2, 1) := by decide +kernel
theorem dX0_over_52 : decode cX0_over 52 = .ok (.invokevirtual 57, 3) := by decide +kernel
theorem dX0_over_55 : decode cX0_over 55 = .ok (.ireturn, 1) := by decide +kernel
theorem dX0_drop_0 : decode cX0_drop 0 = .ok (.aload_n 0, 1) := by decide +kernel
theorem dX0_drop_1 : decode cX0_drop 1 = .ok (.getfield 68, 3) := by decide +kernel
theorem dX0_drop_4 : decode cX0_drop 4 = .ok (.ifCond .ne 6, 3) := by decide +kernel
theorem dX0_drop_7 : decode cX0_drop 7 = .ok (.bipush (-5), 2) := by decide +kernel
theorem dX0_drop_9 : decode cX0_drop 9 = .ok (.ireturn, 1) := by decide +kernel
theorem dX0_drop_10 : decode cX0_drop 10 = .ok (.aload_n 0, 1) := by decide +kernel
theorem dX0_drop_11 : decode cX0_drop 11 = .ok (.dup, 1) := by decide +kernel
theorem dX0_drop_12 : decode cX0_drop 12 = .ok (.getfield 68, 3) := by decide +kernel
theorem dX0_drop_15 : decode cX0_drop 15 = .ok (.iconst 1, 1) := by decide +kernel
theorem dX0_drop_16 : decode cX0_drop 16 = .ok (.isub, 1) := by decide +kernel
theorem dX0_drop_17 : decode cX0_drop 17 = .ok (.putfield 68, 3) := by decide +kernel
theorem dX0_drop_20 : decode cX0_drop 20 = .ok (.aload_n 0, 1) := by decide +kernel
theorem dX0_drop_21 : decode cX0_drop 21 = .ok (.getfield 68, 3) := by decide +kernel
theorem dX0_drop_24 : decode cX0_drop 24 = .ok (.ireturn, 1) := by decide +kernel
set_option maxRecDepth 20000 in
theorem ggX0_order_X0_isNumber : GoodIn wsX0_order wsX0_isNumber := goodIn_r _ [7, 8, 16, 17, 18, 19, 20, 21, 22, 23, 24, 25, 26, 27, 28] (by decide +kernel) (by decide +kernel)
set_option maxRecDepth 20000 in
theorem gX0_order_X0_isNumber : GoodIn wsX0_order (wsV RX0 42 RX0 yX0_isNumber wsX0_isNumber) := goodIn_app (goodIn_of _ (by decide +kernel)) ggX0_order_X0_isNumber
set_option maxRecDepth 20000 in
theorem ggX0_order_X0_compared : GoodIn wsX0_order wsX0_compared := goodIn_r _ [11, 12, 13, 14, 15] (by decide +kernel) (by decide +kernel)
set_option maxRecDepth 20000 in
theorem gX0_order_X0_compared : GoodIn wsX0_order (va_wsS RX0 72 yX0_compared wsX0_compared) := goodIn_app (goodIn_of _ (by decide +kernel)) ggX0_order_X0_compared
theorem dX0_order_0 : decode cX0_order 0 = .ok (.aload_n 0, 1) := by decide +kernel
theorem dX0_order_1 : decode cX0_order 1 = .ok (.iload_n 1, 1) := by decide +kernel
theorem dX0_order_2 : decode cX0_order 2 = .ok (.invokevirtual 42, 3) := by decide +kernel
theorem dX0_order_5 : decode cX0_order 5 = .ok (.ifCond .eq 11, 3) := by decide +kernel
theorem dX0_order_8 : decode cX0_order 8 = .ok (.aload_n 0, 1) := by decide +kernel
theorem dX0_order_9 : decode cX0_order 9 = .ok (.iload_n 2, 1) := by decide +kernel
theorem dX0_order_10 : decode cX0_order 10 = .ok (.invokevirtual 42, 3) := by decide +kernel
theorem dX0_order_13 : decode cX0_order 13 = .ok (.ifCond .ne 6, 3) := by decide +kernel
theorem dX0_order_16 : decode cX0_order 16 = .ok (.bipush (-2), 2) := by decide +kernel
theorem dX0_order_18 : decode cX0_order 18 = .ok (.ireturn, 1) := by decide +kernel
theorem dX0_order_19 : decode cX0_order 19 = .ok (.aload_n 0, 1) := by decide +kernel
theorem dX0_order_20 : decode cX0_order 20 = .ok (.getfield 11, 3) := by decide +kernel
theorem dX0_order_23 : decode cX0_order 23 = .ok (.iload_n 1, 1) := by decide +kernel
theorem dX0_order_24 : decode cX0_order 24 = .ok (.laload, 1) := by decide +kernel
theorem dX0_order_25 : decode cX0_order 25 = .ok (.aload_n 0, 1) := by decide +kernel
theorem dX0_order_26 : decode cX0_order 26 = .ok (.getfield 15, 3) := by decide +kernel
theorem dX0_order_29 : decode cX0_order 29 = .ok (.iload_n 1, 1) := by decide +kernel
theorem dX0_order_30 : decode cX0_order 30 = .ok (.laload, 1) := by decide +kernel
theorem dX0_order_31 : decode cX0_order 31 = .ok (.aload_n 0, 1) := by decide +kernel
theorem dX0_order_32 : decode cX0_order 32 = .ok (.getfield 11, 3) := by decide +kernel
theorem dX0_order_35 : decode cX0_order 35 = .ok (.iload_n 2, 1) := by decide +kernel
theorem dX0_order_36 : decode cX0_order 36 = .ok (.laload, 1) := by decide +kernel
theorem dX0_order_37 : decode cX0_order 37 = .ok (.aload_n 0, 1) := by decide +kernel
theorem dX0_order_38 : decode cX0_order 38 = .ok (.getfield 15, 3) := by decide +kernel
theorem dX0_order_41 : decode cX0_order 41 = .ok (.iload_n 2, 1) := by decide +kernel
theorem dX0_order_42 : decode cX0_order 42 = .ok (.laload, 1) := by decide +kernel
theorem dX0_order_43 : decode cX0_order 43 = .ok (.invokestatic 72, 3) := by decide +kernel
theorem dX0_order_46 : decode cX0_order 46 = .ok (.ireturn, 1) := by decide +kernel
set_option maxRecDepth 20000 in
theorem ggX0_part_X0_isNumber : GoodIn wsX0_part wsX0_isNumber := goodIn_r _ [8, 9, 10, 11, 12, 13, 14, 15, 16, 17, 18, 19, 20, 21, 22] (by decide +kernel) (by decide +kernel)
set_option maxRecDepth 20000 in
theorem gX0_part_X0_isNumber : GoodIn wsX0_part (wsV RX0 42 RX0 yX0_isNumber wsX0_isNumber) := goodIn_app (goodIn_of _ (by decide +kernel)) ggX0_part_X0_isNumber
theorem dX0_part_0 : decode cX0_part 0 = .ok (.aload_n 0, 1) := by decide +kernel
theorem dX0_part_1 : decode cX0_part 1 = .ok (.iload_n 1, 1) := by decide +kernel
theorem dX0_part_2 : decode cX0_part 2 = .ok (.invokevirtual 42, 3) := by decide +kernel
theorem dX0_part_5 : decode cX0_part 5 = .ok (.ifCond .eq 12, 3) := by decide +kernel
theorem dX0_part_8 : decode cX0_part 8 = .ok (.iload_n 2, 1) := by decide +kernel
theorem dX0_part_9 : decode cX0_part 9 = .ok (.ifCond .lt 8, 3) := by decide +kernel
theorem dX0_part_12 : decode cX0_part 12 = .ok (.iload_n 2, 1) := by decide +kernel
theorem dX0_part_13 : decode cX0_part 13 = .ok (.iconst 1, 1) := by decide +kernel
theorem dX0_part_14 : decode cX0_part 14 = .ok (.if_icmp .le 7, 3) := by decide +kernel
theorem dX0_part_17 : decode cX0_part 17 = .ok (.ldc2_w 36, 3) := by decide +kernel
theorem dX0_part_20 : decode cX0_part 20 = .ok (.lreturn, 1) := by decide +kernel
theorem dX0_part_21 : decode cX0_part 21 = .ok (.iload_n 2, 1) := by decide +kernel
theorem dX0_part_22 : decode cX0_part 22 = .ok (.ifCond .ne 12, 3) := by decide +kernel
theorem dX0_part_25 : decode cX0_part 25 = .ok (.aload_n 0, 1) := by decide +kernel
theorem dX0_part_26 : decode cX0_part 26 = .ok (.getfield 11, 3) := by decide +kernel
theorem dX0_part_29 : decode cX0_part 29 = .ok (.iload_n 1, 1) := by decide +kernel
theorem dX0_part_30 : decode cX0_part 30 = .ok (.laload, 1) := by decide +kernel
theorem dX0_part_31 : decode cX0_part 31 = .ok (.goto 9, 3) := by decide +kernel
theorem dX0_part_34 : decode cX0_part 34 = .ok (.aload_n 0, 1) := by decide +kernel
theorem dX0_part_35 : decode cX0_part 35 = .ok (.getfield 15, 3) := by decide +kernel
theorem dX0_part_38 : decode cX0_part 38 = .ok (.iload_n 1, 1) := by decide +kernel
theorem dX0_part_39 : decode cX0_part 39 = .ok (.laload, 1) := by decide +kernel
theorem dX0_part_40 : decode cX0_part 40 = .ok (.lreturn, 1) := by decide +kernel
set_option maxRecDepth 20000 in
theorem ggX0_simplest_X0_isNumber : GoodIn wsX0_simplest wsX0_isNumber := goodIn_r _ [7, 8, 38, 39, 40, 41, 42, 43, 44, 45, 46, 47, 48, 49, 50] (by decide +kernel) (by decide +kernel)
set_option maxRecDepth 20000 in
theorem gX0_simplest_X0_isNumber : GoodIn wsX0_simplest (wsV RX0 42 RX0 yX0_isNumber wsX0_isNumber) := goodIn_app (goodIn_of _ (by decide +kernel)) ggX0_simplest_X0_isNumber
set_option maxRecDepth 20000 in
theorem ggX0_simplest_X0_compared : GoodIn wsX0_simplest wsX0_compared := goodIn_r _ [11, 12, 13, 14, 15] (by decide +kernel) (by decide +kernel)
set_option maxRecDepth 20000 in
theorem gX0_simplest_X0_compared : GoodIn wsX0_simplest (va_wsS RX0 72 yX0_compared wsX0_compared) := goodIn_app (goodIn_of _ (by decide +kernel)) ggX0_simplest_X0_compared
set_option maxRecDepth 20000 in
theorem ggX0_simplest_X0_keepSimplest : GoodIn wsX0_simplest wsX0_keepSimplest := goodIn_r _ [19, 20, 21, 22, 6, 23, 1, 8, 2, 24, 25, 26, 27, 28, 29, 30, 31, 32, 33, 34, 35, 36, 37, 38, 39, 40, 41, 42, 43, 44, 45, 46, 47, 48, 49, 50] (by decide +kernel) (by decide +kernel)
set_option maxRecDepth 20000 in
theorem gX0_simplest_X0_keepSimplest : GoodIn wsX0_simplest (wsV RX0 75 RX0 yX0_keepSimplest wsX0_keepSimplest) := goodIn_app (goodIn_of _ (by decide +kernel)) ggX0_simplest_X0_keepSimplest
set_option maxRecDepth 20000 in
theorem ggX0_simplest_X0_keep : GoodIn wsX0_simplest wsX0_keep := goodIn_r _ [23, 1, 8, 2, 24, 25, 26, 6, 27, 28, 29, 30, 31, 32, 33, 34, 35, 36, 37, 38, 39, 40, 41, 42, 43, 44, 45, 46, 47, 48, 49, 50] (by decide +kernel) (by decide +kernel)
set_option maxRecDepth 20000 in
theorem gX0_simplest_X0_keep : GoodIn wsX0_simplest (wsV RX0 38 RX0 yX0_keep wsX0_keep) := goodIn_app (goodIn_of _ (by decide +kernel)) ggX0_simplest_X0_keep
theorem dX0_simplest_0 : decode cX0_simplest 0 = .ok (.aload_n 0, 1) := by decide +kernel
theorem dX0_simplest_1 : decode cX0_simplest 1 = .ok (.iload_n 1, 1) := by decide +kernel
theorem dX0_simplest_2 : decode cX0_simplest 2 = .ok (.invokevirtual 42, 3) := by decide +kernel
theorem dX0_simplest_5 : decode cX0_simplest 5 = .ok (.ifCond .eq 11, 3) := by decide +kernel
theorem dX0_simplest_8 : decode cX0_simplest 8 = .ok (.aload_n 0, 1) := by decide +kernel
theorem dX0_simplest_9 : decode cX0_simplest 9 = .ok (.iload_n 2, 1) := by decide +kernel
theorem dX0_simplest_10 : decode cX0_simplest 10 = .ok (.invokevirtual 42, 3) := by decide +kernel
theorem dX0_simplest_13 : decode cX0_simplest 13 = .ok (.ifCond .ne 5, 3) := by decide +kernel
theorem dX0_simplest_16 : decode cX0_simplest 16 = .ok (.iconst (-1), 1) := by decide +kernel
theorem dX0_simplest_17 : decode cX0_simplest 17 = .ok (.ireturn, 1) := by decide +kernel
theorem dX0_simplest_18 : decode cX0_simplest 18 = .ok (.aload_n 0, 1) := by decide +kernel
theorem dX0_simplest_19 : decode cX0_simplest 19 = .ok (.getfield 11, 3) := by decide +kernel
theorem dX0_simplest_22 : decode cX0_simplest 22 = .ok (.iload_n 1, 1) := by decide +kernel
theorem dX0_simplest_23 : decode cX0_simplest 23 = .ok (.laload, 1) := by decide +kernel
theorem dX0_simplest_24 : decode cX0_simplest 24 = .ok (.aload_n 0, 1) := by decide +kernel
theorem dX0_simplest_25 : decode cX0_simplest 25 = .ok (.getfield 15, 3) := by decide +kernel
theorem dX0_simplest_28 : decode cX0_simplest 28 = .ok (.iload_n 1, 1) := by decide +kernel
theorem dX0_simplest_29 : decode cX0_simplest 29 = .ok (.laload, 1) := by decide +kernel
theorem dX0_simplest_30 : decode cX0_simplest 30 = .ok (.aload_n 0, 1) := by decide +kernel
theorem dX0_simplest_31 : decode cX0_simplest 31 = .ok (.getfield 11, 3) := by decide +kernel
theorem dX0_simplest_34 : decode cX0_simplest 34 = .ok (.iload_n 2, 1) := by decide +kernel
theorem dX0_simplest_35 : decode cX0_simplest 35 = .ok (.laload, 1) := by decide +kernel
theorem dX0_simplest_36 : decode cX0_simplest 36 = .ok (.aload_n 0, 1) := by decide +kernel
theorem dX0_simplest_37 : decode cX0_simplest 37 = .ok (.getfield 15, 3) := by decide +kernel
theorem dX0_simplest_40 : decode cX0_simplest 40 = .ok (.iload_n 2, 1) := by decide +kernel
theorem dX0_simplest_41 : decode cX0_simplest 41 = .ok (.laload, 1) := by decide +kernel
theorem dX0_simplest_42 : decode cX0_simplest 42 = .ok (.invokestatic 72, 3) := by decide +kernel
theorem dX0_simplest_45 : decode cX0_simplest 45 = .ok (.ifCond .gt 7, 3) := by decide +kernel
theorem dX0_simplest_48 : decode cX0_simplest 48 = .ok (.iconst 1, 1) := by decide +kernel
theorem dX0_simplest_49 : decode cX0_simplest 49 = .ok (.goto 4, 3) := by decide +kernel
theorem dX0_simplest_52 : decode cX0_simplest 52 = .ok (.iconst 0, 1) := by decide +kernel
theorem dX0_simplest_53 : decode cX0_simplest 53 = .ok (.istore_n 3, 1) := by decide +kernel
theorem dX0_simplest_54 : decode cX0_simplest 54 = .ok (.iload_n 3, 1) := by decide +kernel
theorem dX0_simplest_55 : decode cX0_simplest 55 = .ok (.ifCond .eq 7, 3) := by decide +kernel
theorem dX0_simplest_58 : decode cX0_simplest 58 = .ok (.iload_n 1, 1) := by decide +kernel
theorem dX0_simplest_59 : decode cX0_simplest 59 = .ok (.goto 4, 3) := by decide +kernel
theorem dX0_simplest_62 : decode cX0_simplest 62 = .ok (.iload_n 2, 1) := by decide +kernel
theorem dX0_simplest_63 : decode cX0_simplest 63 = .ok (.istore 4, 2) := by decide +kernel
theorem dX0_simplest_65 : decode cX0_simplest 65 = .ok (.iload_n 3, 1) := by decide +kernel
theorem dX0_simplest_66 : decode cX0_simplest 66 = .ok (.ifCond .eq 7, 3) := by decide +kernel
theorem dX0_simplest_69 : decode cX0_simplest 69 = .ok (.iload_n 2, 1) := by decide +kernel
theorem dX0_simplest_70 : decode cX0_simplest 70 = .ok (.goto 4, 3) := by decide +kernel
theorem dX0_simplest_73 : decode cX0_simplest 73 = .ok (.iload_n 1, 1) := by decide +kernel
theorem dX0_simplest_74 : decode cX0_simplest 74 = .ok (.istore 5, 2) := by decide +kernel
theorem dX0_simplest_76 : decode cX0_simplest 76 = .ok (.aload_n 0, 1) := by decide +kernel
theorem dX0_simplest_77 : decode cX0_simplest 77 = .ok (.getfield 11, 3) := by decide +kernel
theorem dX0_simplest_80 : decode cX0_simplest 80 = .ok (.iload 4, 2) := by decide +kernel
theorem dX0_simplest_82 : decode cX0_simplest 82 = .ok (.laload, 1) := by decide +kernel
theorem dX0_simplest_83 : decode cX0_simplest 83 = .ok (.lconst 0, 1) := by decide +kernel
theorem dX0_simplest_84 : decode cX0_simplest 84 = .ok (.lcmp, 1) := by decide +kernel
theorem dX0_simplest_85 : decode cX0_simplest 85 = .ok (.ifCond .le 37, 3) := by decide +kernel
theorem dX0_simplest_88 : decode cX0_simplest 88 = .ok (.aload_n 0, 1) := by decide +kernel
theorem dX0_simplest_89 : decode cX0_simplest 89 = .ok (.aload_n 0, 1) := by decide +kernel
theorem dX0_simplest_90 : decode cX0_simplest 90 = .ok (.getfield 11, 3) := by decide +kernel
theorem dX0_simplest_93 : decode cX0_simplest 93 = .ok (.iload 4, 2) := by decide +kernel
theorem dX0_simplest_95 : decode cX0_simplest 95 = .ok (.laload, 1) := by decide +kernel
theorem dX0_simplest_96 : decode cX0_simplest 96 = .ok (.aload_n 0, 1) := by decide +kernel
theorem dX0_simplest_97 : decode cX0_simplest 97 = .ok (.getfield 15, 3) := by decide +kernel
theorem dX0_simplest_100 : decode cX0_simplest 100 = .ok (.iload 4, 2) := by decide +kernel
theorem dX0_simplest_102 : decode cX0_simplest 102 = .ok (.laload, 1) := by decide +kernel
theorem dX0_simplest_103 : decode cX0_simplest 103 = .ok (.aload_n 0, 1) := by decide +kernel
theorem dX0_simplest_104 : decode cX0_simplest 104 = .ok (.getfield 11, 3) := by decide +kernel
theorem dX0_simplest_107 : decode cX0_simplest 107 = .ok (.iload 5, 2) := by decide +kernel
theorem dX0_simplest_109 : decode cX0_simplest 109 = .ok (.laload, 1) := by decide +kernel
theorem dX0_simplest_110 : decode cX0_simplest 110 = .ok (.aload_n 0, 1) := by decide +kernel
theorem dX0_simplest_111 : decode cX0_simplest 111 = .ok (.getfield 15, 3) := by decide +kernel
theorem dX0_simplest_114 : decode cX0_simplest 114 = .ok (.iload 5, 2) := by decide +kernel
theorem dX0_simplest_116 : decode cX0_simplest 116 = .ok (.laload, 1) := by decide +kernel
theorem dX0_simplest_117 : decode cX0_simplest 117 = .ok (.iconst 1, 1) := by decide +kernel
theorem dX0_simplest_118 : decode cX0_simplest 118 = .ok (.invokevirtual 75, 3) := by decide +kernel
theorem dX0_simplest_121 : decode cX0_simplest 121 = .ok (.ireturn, 1) := by decide +kernel
theorem dX0_simplest_122 : decode cX0_simplest 122 = .ok (.aload_n 0, 1) := by decide +kernel
theorem dX0_simplest_123 : decode cX0_simplest 123 = .ok (.getfield 11, 3) := by decide +kernel
theorem dX0_simplest_126 : decode cX0_simplest 126 = .ok (.iload 5, 2) := by decide +kernel
theorem dX0_simplest_128 : decode cX0_simplest 128 = .ok (.laload, 1) := by decide +kernel
theorem dX0_simplest_129 : decode cX0_simplest 129 = .ok (.lconst 0, 1) := by decide +kernel
theorem dX0_simplest_130 : decode cX0_simplest 130 = .ok (.lcmp, 1) := by decide +kernel
theorem dX0_simplest_131 : decode cX0_simplest 131 = .ok (.ifCond .ge 39, 3) := by decide +kernel
theorem dX0_simplest_134 : decode cX0_simplest 134 = .ok (.aload_n 0, 1) := by decide +kernel
theorem dX0_simplest_135 : decode cX0_simplest 135 = .ok (.aload_n 0, 1) := by decide +kernel
theorem dX0_simplest_136 : decode cX0_simplest 136 = .ok (.getfield 11, 3) := by decide +kernel
theorem dX0_simplest_139 : decode cX0_simplest 139 = .ok (.iload 5, 2) := by decide +kernel
theorem dX0_simplest_141 : decode cX0_simplest 141 = .ok (.laload, 1) := by decide +kernel
theorem dX0_simplest_142 : decode cX0_simplest 142 = .ok (.lneg, 1) := by decide +kernel
theorem dX0_simplest_143 : decode cX0_simplest 143 = .ok (.aload_n 0, 1) := by decide +kernel
theorem dX0_simplest_144 : decode cX0_simplest 144 = .ok (.getfield 15, 3) := by decide +kernel
theorem dX0_simplest_147 : decode cX0_simplest 147 = .ok (.iload 5, 2) := by decide +kernel
theorem dX0_simplest_149 : decode cX0_simplest 149 = .ok (.laload, 1) := by decide +kernel
theorem dX0_simplest_150 : decode cX0_simplest 150 = .ok (.aload_n 0, 1) := by decide +kernel
theorem dX0_simplest_151 : decode cX0_simplest 151 = .ok (.getfield 11, 3) := by decide +kernel
theorem dX0_simplest_154 : decode cX0_simplest 154 = .ok (.iload 4, 2) := by decide +kernel
theorem dX0_simplest_156 : decode cX0_simplest 156 = .ok (.laload, 1) := by decide +kernel
theorem dX0_simplest_157 : decode cX0_simplest 157 = .ok (.lneg, 1) := by decide +kernel
theorem dX0_simplest_158 : decode cX0_simplest 158 = .ok (.aload_n 0, 1) := by decide +kernel
theorem dX0_simplest_159 : decode cX0_simplest 159 = .ok (.getfield 15, 3) := by decide +kernel
theorem dX0_simplest_162 : decode cX0_simplest 162 = .ok (.iload 4, 2) := by decide +kernel
theorem dX0_simplest_164 : decode cX0_simplest 164 = .ok (.laload, 1) := by decide +kernel
theorem dX0_simplest_165 : decode cX0_simplest 165 = .ok (.iconst (-1), 1) := by decide +kernel
theorem dX0_simplest_166 : decode cX0_simplest 166 = .ok (.invokevirtual 75, 3) := by decide +kernel
theorem dX0_simplest_169 : decode cX0_simplest 169 = .ok (.ireturn, 1) := by decide +kernel
theorem dX0_simplest_170 : decode cX0_simplest 170 = .ok (.aload_n 0, 1) := by decide +kernel
theorem dX0_simplest_171 : decode cX0_simplest 171 = .ok (.lconst 0, 1) := by decide +kernel
theorem dX0_simplest_172 : decode cX0_simplest 172 = .ok (.lconst 1, 1) := by decide +kernel
theorem dX0_simplest_173 : decode cX0_simplest 173 = .ok (.invokevirtual 38, 3) := by decide +kernel
theorem dX0_simplest_176 : decode cX0_simplest 176 = .ok (.ireturn, 1) := by decide +kernel
set_option maxRecDepth 20000 in
theorem ggX0_near_X0_isNumber : GoodIn wsX0_near wsX0_isNumber := goodIn_r _ [8, 9, 42, 43, 44, 45, 46, 47, 48, 49, 50, 51, 52, 53, 54] (by decide +kernel) (by decide +kernel)
set_option maxRecDepth 20000 in
theorem gX0_near_X0_isNumber : GoodIn wsX0_near (wsV RX0 42 RX0 yX0_isNumber wsX0_isNumber) := goodIn_app (goodIn_of _ (by decide +kernel)) ggX0_near_X0_isNumber
set_option maxRecDepth 20000 in
theorem ggX0_near_X0_keep : GoodIn wsX0_near wsX0_keep := goodIn_r _ [13, 3, 9, 2, 14, 15, 16, 7, 17, 18, 19, 20, 21, 22, 23, 24, 25, 26, 27, 42, 43, 44, 45, 46, 47, 48, 49, 50, 51, 52, 53, 54] (by decide +kernel) (by decide +kernel)
set_option maxRecDepth 20000 in
theorem gX0_near_X0_keep : GoodIn wsX0_near (wsV RX0 38 RX0 yX0_keep wsX0_keep) := goodIn_app (goodIn_of _ (by decide +kernel)) ggX0_near_X0_keep
set_option maxRecDepth 20000 in
theorem ggX0_near_X0_keepNearest : GoodIn wsX0_near wsX0_keepNearest := goodIn_r _ [31, 32, 33, 34, 35, 36, 37, 7, 38, 39, 40, 23, 41, 10, 11, 12, 13, 3, 9, 2, 14, 15, 16, 17, 18, 19, 20, 21, 22, 24, 25, 26, 27, 42, 43, 44, 45, 46, 47, 48, 49, 50, 51, 52, 53, 54] (by decide +kernel) (by decide +kernel)
set_option maxRecDepth 20000 in
theorem gX0_near_X0_keepNearest : GoodIn wsX0_near (wsV RX0 80 RX0 yX0_keepNearest wsX0_keepNearest) := goodIn_app (goodIn_of _ (by decide +kernel)) ggX0_near_X0_keepNearest
theorem dX0_near_0 : decode cX0_near 0 = .ok (.aload_n 0, 1) := by decide +kernel
theorem dX0_near_1 : decode cX0_near 1 = .ok (.iload_n 1, 1) := by decide +kernel
theorem dX0_near_2 : decode cX0_near 2 = .ok (.invokevirtual 42, 3) := by decide +kernel
theorem dX0_near_5 : decode cX0_near 5 = .ok (.ifCond .eq 14, 3) := by decide +kernel
theorem dX0_near_8 : decode cX0_near 8 = .ok (.iload_n 2, 1) := by decide +kernel
theorem dX0_near_9 : decode cX0_near 9 = .ok (.iconst 1, 1) := by decide +kernel
theorem dX0_near_10 : decode cX0_near 10 = .ok (.if_icmp .lt 9, 3) := by decide +kernel
theorem dX0_near_13 : decode cX0_near 13 = .ok (.iload_n 2, 1) := by decide +kernel
theorem dX0_near_14 : decode cX0_near 14 = .ok (.ldc 79, 2) := by decide +kernel
theorem dX0_near_16 : decode cX0_near 16 = .ok (.if_icmp .le 5, 3) := by decide +kernel
theorem dX0_near_19 : decode cX0_near 19 = .ok (.iconst (-1), 1) := by decide +kernel
theorem dX0_near_20 : decode cX0_near 20 = .ok (.ireturn, 1) := by decide +kernel
theorem dX0_near_21 : decode cX0_near 21 = .ok (.aload_n 0, 1) := by decide +kernel
theorem dX0_near_22 : decode cX0_near 22 = .ok (.getfield 15, 3) := by decide +kernel
theorem dX0_near_25 : decode cX0_near 25 = .ok (.iload_n 1, 1) := by decide +kernel
theorem dX0_near_26 : decode cX0_near 26 = .ok (.laload, 1) := by decide +kernel
theorem dX0_near_27 : decode cX0_near 27 = .ok (.iload_n 2, 1) := by decide +kernel
theorem dX0_near_28 : decode cX0_near 28 = .ok (.i2l, 1) := by decide +kernel
theorem dX0_near_29 : decode cX0_near 29 = .ok (.lcmp, 1) := by decide +kernel
theorem dX0_near_30 : decode cX0_near 30 = .ok (.ifCond .gt 20, 3) := by decide +kernel
theorem dX0_near_33 : decode cX0_near 33 = .ok (.aload_n 0, 1) := by decide +kernel
theorem dX0_near_34 : decode cX0_near 34 = .ok (.aload_n 0, 1) := by decide +kernel
theorem dX0_near_35 : decode cX0_near 35 = .ok (.getfield 11, 3) := by decide +kernel
theorem dX0_near_38 : decode cX0_near 38 = .ok (.iload_n 1, 1) := by decide +kernel
theorem dX0_near_39 : decode cX0_near 39 = .ok (.laload, 1) := by decide +kernel
theorem dX0_near_40 : decode cX0_near 40 = .ok (.aload_n 0, 1) := by decide +kernel
theorem dX0_near_41 : decode cX0_near 41 = .ok (.getfield 15, 3) := by decide +kernel
theorem dX0_near_44 : decode cX0_near 44 = .ok (.iload_n 1, 1) := by decide +kernel
theorem dX0_near_45 : decode cX0_near 45 = .ok (.laload, 1) := by decide +kernel
theorem dX0_near_46 : decode cX0_near 46 = .ok (.invokevirtual 38, 3) := by decide +kernel
theorem dX0_near_49 : decode cX0_near 49 = .ok (.ireturn, 1) := by decide +kernel
theorem dX0_near_50 : decode cX0_near 50 = .ok (.aload_n 0, 1) := by decide +kernel
theorem dX0_near_51 : decode cX0_near 51 = .ok (.aload_n 0, 1) := by decide +kernel
theorem dX0_near_52 : decode cX0_near 52 = .ok (.getfield 11, 3) := by decide +kernel
theorem dX0_near_55 : decode cX0_near 55 = .ok (.iload_n 1, 1) := by decide +kernel
theorem dX0_near_56 : decode cX0_near 56 = .ok (.laload, 1) := by decide +kernel
theorem dX0_near_57 : decode cX0_near 57 = .ok (.aload_n 0, 1) := by decide +kernel
theorem dX0_near_58 : decode cX0_near 58 = .ok (.getfield 15, 3) := by decide +kernel
theorem dX0_near_61 : decode cX0_near 61 = .ok (.iload_n 1, 1) := by decide +kernel
theorem dX0_near_62 : decode cX0_near 62 = .ok (.laload, 1) := by decide +kernel
theorem dX0_near_63 : decode cX0_near 63 = .ok (.iload_n 2, 1) := by decide +kernel
theorem dX0_near_64 : decode cX0_near 64 = .ok (.invokevirtual 80, 3) := by decide +kernel
theorem dX0_near_67 : decode cX0_near 67 = .ok (.ireturn, 1) := by decide +kernel
set_option maxRecDepth 20000 in
theorem ggX0_cut_X0_isNumber : GoodIn wsX0_cut wsX0_isNumber := goodIn_r _ [9, 10, 26, 27, 28, 29, 30, 31, 32, 33, 34, 35, 36, 37, 38] (by decide +kernel) (by decide +kernel)
set_option maxRecDepth 20000 in
theorem gX0_cut_X0_isNumber : GoodIn wsX0_cut (wsV RX0 42 RX0 yX0_isNumber wsX0_isNumber) := goodIn_app (goodIn_of _ (by decide +kernel)) ggX0_cut_X0_isNumber
set_option maxRecDepth 20000 in
theorem ggX0_cut_X0_power : GoodIn wsX0_cut wsX0_power := goodIn_r _ [13, 14, 15, 8, 16, 1, 17, 18, 19, 20, 21] (by decide +kernel) (by decide +kernel)
set_option maxRecDepth 20000 in
theorem gX0_cut_X0_power : GoodIn wsX0_cut (va_wsS RX0 86 yX0_power wsX0_power) := goodIn_app (goodIn_of _ (by decide +kernel)) ggX0_cut_X0_power
set_option maxRecDepth 20000 in
theorem ggX0_cut_X0_times : GoodIn wsX0_cut wsX0_times := goodIn_r _ [16, 1, 17, 18, 19, 20, 21] (by decide +kernel) (by decide +kernel)
set_option maxRecDepth 20000 in
theorem gX0_cut_X0_times : GoodIn wsX0_cut (va_wsS RX0 90 yX0_times wsX0_times) := goodIn_app (goodIn_of _ (by decide +kernel)) ggX0_cut_X0_times
set_option maxRecDepth 20000 in
theorem ggX0_cut_J9_floorDiv_f86c9 : GoodIn wsX0_cut wsJ9_floorDiv_f86c9 := goodIn_r _ [25] (by decide +kernel) (by decide +kernel)
set_option maxRecDepth 20000 in
theorem gX0_cut_J9_floorDiv_f86c9 : GoodIn wsX0_cut (va_wsS RX0 94 yJ9_floorDiv_f86c9 wsJ9_floorDiv_f86c9) := goodIn_app (goodIn_of _ (by decide +kernel)) ggX0_cut_J9_floorDiv_f86c9
theorem dX0_cut_0 : decode cX0_cut 0 = .ok (.aload_n 0, 1) := by decide +kernel
theorem dX0_cut_1 : decode cX0_cut 1 = .ok (.iload_n 1, 1) := by decide +kernel
theorem dX0_cut_2 : decode cX0_cut 2 = .ok (.invokevirtual 42, 3) := by decide +kernel
theorem dX0_cut_5 : decode cX0_cut 5 = .ok (.ifCond .eq 13, 3) := by decide +kernel
theorem dX0_cut_8 : decode cX0_cut 8 = .ok (.iload_n 2, 1) := by decide +kernel
theorem dX0_cut_9 : decode cX0_cut 9 = .ok (.ifCond .lt 9, 3) := by decide +kernel
theorem dX0_cut_12 : decode cX0_cut 12 = .ok (.iload_n 2, 1) := by decide +kernel
theorem dX0_cut_13 : decode cX0_cut 13 = .ok (.bipush 15, 2) := by decide +kernel
theorem dX0_cut_15 : decode cX0_cut 15 = .ok (.if_icmp .le 7, 3) := by decide +kernel
theorem dX0_cut_18 : decode cX0_cut 18 = .ok (.ldc2_w 36, 3) := by decide +kernel
theorem dX0_cut_21 : decode cX0_cut 21 = .ok (.lreturn, 1) := by decide +kernel
theorem dX0_cut_22 : decode cX0_cut 22 = .ok (.aload_n 0, 1) := by decide +kernel
theorem dX0_cut_23 : decode cX0_cut 23 = .ok (.getfield 11, 3) := by decide +kernel
theorem dX0_cut_26 : decode cX0_cut 26 = .ok (.iload_n 1, 1) := by decide +kernel
theorem dX0_cut_27 : decode cX0_cut 27 = .ok (.laload, 1) := by decide +kernel
theorem dX0_cut_28 : decode cX0_cut 28 = .ok (.ldc2_w 84, 3) := by decide +kernel
theorem dX0_cut_31 : decode cX0_cut 31 = .ok (.iload_n 2, 1) := by decide +kernel
theorem dX0_cut_32 : decode cX0_cut 32 = .ok (.invokestatic 86, 3) := by decide +kernel
theorem dX0_cut_35 : decode cX0_cut 35 = .ok (.invokestatic 90, 3) := by decide +kernel
theorem dX0_cut_38 : decode cX0_cut 38 = .ok (.lstore 4, 2) := by decide +kernel
theorem dX0_cut_40 : decode cX0_cut 40 = .ok (.lload 4, 2) := by decide +kernel
theorem dX0_cut_42 : decode cX0_cut 42 = .ok (.ldc2_w 36, 3) := by decide +kernel
theorem dX0_cut_45 : decode cX0_cut 45 = .ok (.lcmp, 1) := by decide +kernel
theorem dX0_cut_46 : decode cX0_cut 46 = .ok (.ifCond .eq 14, 3) := by decide +kernel
theorem dX0_cut_49 : decode cX0_cut 49 = .ok (.aload_n 0, 1) := by decide +kernel
theorem dX0_cut_50 : decode cX0_cut 50 = .ok (.getfield 15, 3) := by decide +kernel
theorem dX0_cut_53 : decode cX0_cut 53 = .ok (.iload_n 1, 1) := by decide +kernel
theorem dX0_cut_54 : decode cX0_cut 54 = .ok (.laload, 1) := by decide +kernel
theorem dX0_cut_55 : decode cX0_cut 55 = .ok (.lconst 1, 1) := by decide +kernel
theorem dX0_cut_56 : decode cX0_cut 56 = .ok (.lcmp, 1) := by decide +kernel
theorem dX0_cut_57 : decode cX0_cut 57 = .ok (.ifCond .ge 7, 3) := by decide +kernel
theorem dX0_cut_60 : decode cX0_cut 60 = .ok (.ldc2_w 36, 3) := by decide +kernel
theorem dX0_cut_63 : decode cX0_cut 63 = .ok (.lreturn, 1) := by decide +kernel
theorem dX0_cut_64 : decode cX0_cut 64 = .ok (.iload_n 3, 1) := by decide +kernel
theorem dX0_cut_65 : decode cX0_cut 65 = .ok (.ifCond .eq 19, 3) := by decide +kernel
theorem dX0_cut_68 : decode cX0_cut 68 = .ok (.lload 4, 2) := by decide +kernel
theorem dX0_cut_70 : decode cX0_cut 70 = .ok (.lneg, 1) := by decide +kernel
theorem dX0_cut_71 : decode cX0_cut 71 = .ok (.aload_n 0, 1) := by decide +kernel
theorem dX0_cut_72 : decode cX0_cut 72 = .ok (.getfield 15, 3) := by decide +kernel
theorem dX0_cut_75 : decode cX0_cut 75 = .ok (.iload_n 1, 1) := by decide +kernel
theorem dX0_cut_76 : decode cX0_cut 76 = .ok (.laload, 1) := by decide +kernel
theorem dX0_cut_77 : decode cX0_cut 77 = .ok (.invokestatic 94, 3) := by decide +kernel
theorem dX0_cut_80 : decode cX0_cut 80 = .ok (.lneg, 1) := by decide +kernel
theorem dX0_cut_81 : decode cX0_cut 81 = .ok (.goto 14, 3) := by decide +kernel
theorem dX0_cut_84 : decode cX0_cut 84 = .ok (.lload 4, 2) := by decide +kernel
theorem dX0_cut_86 : decode cX0_cut 86 = .ok (.aload_n 0, 1) := by decide +kernel
theorem dX0_cut_87 : decode cX0_cut 87 = .ok (.getfield 15, 3) := by decide +kernel
theorem dX0_cut_90 : decode cX0_cut 90 = .ok (.iload_n 1, 1) := by decide +kernel
theorem dX0_cut_91 : decode cX0_cut 91 = .ok (.laload, 1) := by decide +kernel
theorem dX0_cut_92 : decode cX0_cut 92 = .ok (.invokestatic 94, 3) := by decide +kernel
theorem dX0_cut_95 : decode cX0_cut 95 = .ok (.lreturn, 1) := by decide +kernel
set_option maxRecDepth 20000 in
theorem ggX0_into_X0_isRow : GoodIn wsX0_into wsX0_isRow := goodIn_r _ [7] (by decide +kernel) (by decide +kernel)
set_option maxRecDepth 20000 in
theorem gX0_into_X0_isRow : GoodIn wsX0_into (va_wsS RX0 99 yX0_isRow wsX0_isRow) := goodIn_app (goodIn_of _ (by decide +kernel)) ggX0_into_X0_isRow
theorem dX0_into_0 : decode cX0_into 0 = .ok (.iload_n 1, 1) := by decide +kernel
theorem dX0_into_1 : decode cX0_into 1 = .ok (.invokestatic 99, 3) := by decide +kernel
theorem dX0_into_4 : decode cX0_into 4 = .ok (.ifCond .eq 17, 3) := by decide +kernel
theorem dX0_into_7 : decode cX0_into 7 = .ok (.lload_n 2, 1) := by decide +kernel
theorem dX0_into_8 : decode cX0_into 8 = .ok (.lconst 0, 1) := by decide +kernel
theorem dX0_into_9 : decode cX0_into 9 = .ok (.lcmp, 1) := by decide +kernel
theorem dX0_into_10 : decode cX0_into 10 = .ok (.ifCond .lt 11, 3) := by decide +kernel
theorem dX0_into_13 : decode cX0_into 13 = .ok (.lload_n 2, 1) := by decide +kernel
theorem dX0_into_14 : decode cX0_into 14 = .ok (.ldc2_w 102, 3) := by decide +kernel
theorem dX0_into_17 : decode cX0_into 17 = .ok (.lcmp, 1) := by decide +kernel
theorem dX0_into_18 : decode cX0_into 18 = .ok (.ifCond .le 5, 3) := by decide +kernel
theorem dX0_into_21 : decode cX0_into 21 = .ok (.iconst (-1), 1) := by decide +kernel
theorem dX0_into_22 : decode cX0_into 22 = .ok (.ireturn, 1) := by decide +kernel
theorem dX0_into_23 : decode cX0_into 23 = .ok (.aload_n 0, 1) := by decide +kernel
theorem dX0_into_24 : decode cX0_into 24 = .ok (.getfield 23, 3) := by decide +kernel
theorem dX0_into_27 : decode cX0_into 27 = .ok (.iload_n 1, 1) := by decide +kernel
theorem dX0_into_28 : decode cX0_into 28 = .ok (.iaload, 1) := by decide +kernel
theorem dX0_into_29 : decode cX0_into 29 = .ok (.bipush 8, 2) := by decide +kernel
theorem dX0_into_31 : decode cX0_into 31 = .ok (.if_icmp .lt 6, 3) := by decide +kernel
theorem dX0_into_34 : decode cX0_into 34 = .ok (.bipush (-4), 2) := by decide +kernel
theorem dX0_into_36 : decode cX0_into 36 = .ok (.ireturn, 1) := by decide +kernel
theorem dX0_into_37 : decode cX0_into 37 = .ok (.aload_n 0, 1) := by decide +kernel
theorem dX0_into_38 : decode cX0_into 38 = .ok (.getfield 20, 3) := by decide +kernel
theorem dX0_into_41 : decode cX0_into 41 = .ok (.iload_n 1, 1) := by decide +kernel
theorem dX0_into_42 : decode cX0_into 42 = .ok (.aaload, 1) := by decide +kernel
theorem dX0_into_43 : decode cX0_into 43 = .ok (.aload_n 0, 1) := by decide +kernel
theorem dX0_into_44 : decode cX0_into 44 = .ok (.getfield 23, 3) := by decide +kernel
theorem dX0_into_47 : decode cX0_into 47 = .ok (.iload_n 1, 1) := by decide +kernel
theorem dX0_into_48 : decode cX0_into 48 = .ok (.iaload, 1) := by decide +kernel
theorem dX0_into_49 : decode cX0_into 49 = .ok (.lload_n 2, 1) := by decide +kernel
theorem dX0_into_50 : decode cX0_into 50 = .ok (.lastore, 1) := by decide +kernel
theorem dX0_into_51 : decode cX0_into 51 = .ok (.aload_n 0, 1) := by decide +kernel
theorem dX0_into_52 : decode cX0_into 52 = .ok (.getfield 23, 3) := by decide +kernel
theorem dX0_into_55 : decode cX0_into 55 = .ok (.iload_n 1, 1) := by decide +kernel
theorem dX0_into_56 : decode cX0_into 56 = .ok (.dup2, 1) := by decide +kernel
theorem dX0_into_57 : decode cX0_into 57 = .ok (.iaload, 1) := by decide +kernel
theorem dX0_into_58 : decode cX0_into 58 = .ok (.iconst 1, 1) := by decide +kernel
theorem dX0_into_59 : decode cX0_into 59 = .ok (.iadd, 1) := by decide +kernel
theorem dX0_into_60 : decode cX0_into 60 = .ok (.iastore, 1) := by decide +kernel
theorem dX0_into_61 : decode cX0_into 61 = .ok (.aload_n 0, 1) := by decide +kernel
theorem dX0_into_62 : decode cX0_into 62 = .ok (.getfield 23, 3) := by decide +kernel
theorem dX0_into_65 : decode cX0_into 65 = .ok (.iload_n 1, 1) := by decide +kernel
theorem dX0_into_66 : decode cX0_into 66 = .ok (.iaload, 1) := by decide +kernel
theorem dX0_into_67 : decode cX0_into 67 = .ok (.ireturn, 1) := by decide +kernel
set_option maxRecDepth 20000 in
theorem ggX0_empty_X0_isRow : GoodIn wsX0_empty wsX0_isRow := goodIn_r _ [5] (by decide +kernel) (by decide +kernel)
set_option maxRecDepth 20000 in
theorem gX0_empty_X0_isRow : GoodIn wsX0_empty (va_wsS RX0 99 yX0_isRow wsX0_isRow) := goodIn_app (goodIn_of _ (by decide +kernel)) ggX0_empty_X0_isRow
theorem dX0_empty_0 : decode cX0_empty 0 = .ok (.iload_n 1, 1) := by decide +kernel
theorem dX0_empty_1 : decode cX0_empty 1 = .ok (.invokestatic 99, 3) := by decide +kernel
theorem dX0_empty_4 : decode cX0_empty 4 = .ok (.ifCond .ne 5, 3) := by decide +kernel
theorem dX0_empty_7 : decode cX0_empty 7 = .ok (.iconst (-1), 1) := by decide +kernel
theorem dX0_empty_8 : decode cX0_empty 8 = .ok (.ireturn, 1) := by decide +kernel
theorem dX0_empty_9 : decode cX0_empty 9 = .ok (.aload_n 0, 1) := by decide +kernel
theorem dX0_empty_10 : decode cX0_empty 10 = .ok (.getfield 23, 3) := by decide +kernel
theorem dX0_empty_13 : decode cX0_empty 13 = .ok (.iload_n 1, 1) := by decide +kernel
theorem dX0_empty_14 : decode cX0_empty 14 = .ok (.iaload, 1) := by decide +kernel
theorem dX0_empty_15 : decode cX0_empty 15 = .ok (.istore_n 2, 1) := by decide +kernel
theorem dX0_empty_16 : decode cX0_empty 16 = .ok (.aload_n 0, 1) := by decide +kernel
theorem dX0_empty_17 : decode cX0_empty 17 = .ok (.getfield 23, 3) := by decide +kernel
theorem dX0_empty_20 : decode cX0_empty 20 = .ok (.iload_n 1, 1) := by decide +kernel
theorem dX0_empty_21 : decode cX0_empty 21 = .ok (.iconst 0, 1) := by decide +kernel
theorem dX0_empty_22 : decode cX0_empty 22 = .ok (.iastore, 1) := by decide +kernel
theorem dX0_empty_23 : decode cX0_empty 23 = .ok (.iload_n 2, 1) := by decide +kernel
theorem dX0_empty_24 : decode cX0_empty 24 = .ok (.ireturn, 1) := by decide +kernel
set_option maxRecDepth 20000 in
theorem ggX0_at_X0_isValue : GoodIn wsX0_at wsX0_isValue := goodIn_r _ [7, 8, 9, 10, 6, 11, 12, 13, 14, 15, 16, 17, 18, 19, 20, 21, 22, 23, 24] (by decide +kernel) (by decide +kernel)
set_option maxRecDepth 20000 in
theorem gX0_at_X0_isValue : GoodIn wsX0_at (wsV RX0 104 RX0 yX0_isValue wsX0_isValue) := goodIn_app (goodIn_of _ (by decide +kernel)) ggX0_at_X0_isValue
theorem dX0_at_0 : decode cX0_at 0 = .ok (.aload_n 0, 1) := by decide +kernel
theorem dX0_at_1 : decode cX0_at 1 = .ok (.iload_n 1, 1) := by decide +kernel
theorem dX0_at_2 : decode cX0_at 2 = .ok (.iload_n 2, 1) := by decide +kernel
theorem dX0_at_3 : decode cX0_at 3 = .ok (.invokevirtual 104, 3) := by decide +kernel
theorem dX0_at_6 : decode cX0_at 6 = .ok (.ifCond .eq 14, 3) := by decide +kernel
theorem dX0_at_9 : decode cX0_at 9 = .ok (.aload_n 0, 1) := by decide +kernel
theorem dX0_at_10 : decode cX0_at 10 = .ok (.getfield 20, 3) := by decide +kernel
theorem dX0_at_13 : decode cX0_at 13 = .ok (.iload_n 1, 1) := by decide +kernel
theorem dX0_at_14 : decode cX0_at 14 = .ok (.aaload, 1) := by decide +kernel
theorem dX0_at_15 : decode cX0_at 15 = .ok (.iload_n 2, 1) := by decide +kernel
theorem dX0_at_16 : decode cX0_at 16 = .ok (.laload, 1) := by decide +kernel
theorem dX0_at_17 : decode cX0_at 17 = .ok (.goto 6, 3) := by decide +kernel
theorem dX0_at_20 : decode cX0_at 20 = .ok (.ldc2_w 108, 3) := by decide +kernel
theorem dX0_at_23 : decode cX0_at 23 = .ok (.lreturn, 1) := by decide +kernel
set_option maxRecDepth 20000 in
theorem ggX0_share_X0_isValue : GoodIn wsX0_share wsX0_isValue := goodIn_r _ [8, 9, 10, 11, 7, 12, 38, 39, 40, 41, 42, 43, 44, 45, 46, 47, 48, 49, 50] (by decide +kernel) (by decide +kernel)
set_option maxRecDepth 20000 in
theorem gX0_share_X0_isValue : GoodIn wsX0_share (wsV RX0 104 RX0 yX0_isValue wsX0_isValue) := goodIn_app (goodIn_of _ (by decide +kernel)) ggX0_share_X0_isValue
set_option maxRecDepth 20000 in
theorem ggX0_share_X0_isFull : GoodIn wsX0_share wsX0_isFull := goodIn_r _ [16, 17, 38, 39, 40, 41, 42, 43, 44, 45, 46, 47, 48, 49, 50] (by decide +kernel) (by decide +kernel)
set_option maxRecDepth 20000 in
theorem gX0_share_X0_isFull : GoodIn wsX0_share (wsV RX0 46 RX0 yX0_isFull wsX0_isFull) := goodIn_app (goodIn_of _ (by decide +kernel)) ggX0_share_X0_isFull
set_option maxRecDepth 20000 in
theorem ggX0_share_X0_sumOf : GoodIn wsX0_share wsX0_sumOf := goodIn_r _ [21, 9, 3, 38, 39, 40, 41, 42, 43, 44, 45, 46, 47, 48, 49, 50] (by decide +kernel) (by decide +kernel)
set_option maxRecDepth 20000 in
theorem gX0_share_X0_sumOf : GoodIn wsX0_share (wsV RX0 110 RX0 yX0_sumOf wsX0_sumOf) := goodIn_app (goodIn_of _ (by decide +kernel)) ggX0_share_X0_sumOf
set_option maxRecDepth 20000 in
theorem ggX0_share_X0_keep : GoodIn wsX0_share wsX0_keep := goodIn_r _ [25, 26, 17, 27, 13, 14, 15, 7, 16, 28, 29, 30, 31, 32, 33, 34, 35, 36, 37, 38, 39, 40, 41, 42, 43, 44, 45, 46, 47, 48, 49, 50] (by decide +kernel) (by decide +kernel)
set_option maxRecDepth 20000 in
theorem gX0_share_X0_keep : GoodIn wsX0_share (wsV RX0 38 RX0 yX0_keep wsX0_keep) := goodIn_app (goodIn_of _ (by decide +kernel)) ggX0_share_X0_keep
theorem dX0_share_0 : decode cX0_share 0 = .ok (.aload_n 0, 1) := by decide +kernel
theorem dX0_share_1 : decode cX0_share 1 = .ok (.iload_n 1, 1) := by decide +kernel
theorem dX0_share_2 : decode cX0_share 2 = .ok (.iload_n 2, 1) := by decide +kernel
theorem dX0_share_3 : decode cX0_share 3 = .ok (.invokevirtual 104, 3) := by decide +kernel
theorem dX0_share_6 : decode cX0_share 6 = .ok (.ifCond .ne 5, 3) := by decide +kernel
theorem dX0_share_9 : decode cX0_share 9 = .ok (.iconst (-1), 1) := by decide +kernel
theorem dX0_share_10 : decode cX0_share 10 = .ok (.ireturn, 1) := by decide +kernel
theorem dX0_share_11 : decode cX0_share 11 = .ok (.aload_n 0, 1) := by decide +kernel
theorem dX0_share_12 : decode cX0_share 12 = .ok (.invokevirtual 46, 3) := by decide +kernel
theorem dX0_share_15 : decode cX0_share 15 = .ok (.ifCond .eq 6, 3) := by decide +kernel
theorem dX0_share_18 : decode cX0_share 18 = .ok (.bipush (-4), 2) := by decide +kernel
theorem dX0_share_20 : decode cX0_share 20 = .ok (.ireturn, 1) := by decide +kernel
theorem dX0_share_21 : decode cX0_share 21 = .ok (.aload_n 0, 1) := by decide +kernel
theorem dX0_share_22 : decode cX0_share 22 = .ok (.iload_n 1, 1) := by decide +kernel
theorem dX0_share_23 : decode cX0_share 23 = .ok (.invokevirtual 110, 3) := by decide +kernel
theorem dX0_share_26 : decode cX0_share 26 = .ok (.lstore_n 3, 1) := by decide +kernel
theorem dX0_share_27 : decode cX0_share 27 = .ok (.lload_n 3, 1) := by decide +kernel
theorem dX0_share_28 : decode cX0_share 28 = .ok (.lconst 0, 1) := by decide +kernel
theorem dX0_share_29 : decode cX0_share 29 = .ok (.lcmp, 1) := by decide +kernel
theorem dX0_share_30 : decode cX0_share 30 = .ok (.ifCond .ne 13, 3) := by decide +kernel
theorem dX0_share_33 : decode cX0_share 33 = .ok (.new 61, 3) := by decide +kernel
theorem dX0_share_36 : decode cX0_share 36 = .ok (.dup, 1) := by decide +kernel
theorem dX0_share_37 : decode cX0_share 37 = .ok (.ldc 114, 2) := by decide +kernel
theorem dX0_share_39 : decode cX0_share 39 = .ok (.invokespecial 65, 3) := by decide +kernel
theorem dX0_share_42 : decode cX0_share 42 = .ok (.athrow, 1) := by decide +kernel
theorem dX0_share_43 : decode cX0_share 43 = .ok (.aload_n 0, 1) := by decide +kernel
theorem dX0_share_44 : decode cX0_share 44 = .ok (.aload_n 0, 1) := by decide +kernel
theorem dX0_share_45 : decode cX0_share 45 = .ok (.getfield 20, 3) := by decide +kernel
theorem dX0_share_48 : decode cX0_share 48 = .ok (.iload_n 1, 1) := by decide +kernel
theorem dX0_share_49 : decode cX0_share 49 = .ok (.aaload, 1) := by decide +kernel
theorem dX0_share_50 : decode cX0_share 50 = .ok (.iload_n 2, 1) := by decide +kernel
theorem dX0_share_51 : decode cX0_share 51 = .ok (.laload, 1) := by decide +kernel
theorem dX0_share_52 : decode cX0_share 52 = .ok (.lload_n 3, 1) := by decide +kernel
theorem dX0_share_53 : decode cX0_share 53 = .ok (.invokevirtual 38, 3) := by decide +kernel
theorem dX0_share_56 : decode cX0_share 56 = .ok (.ireturn, 1) := by decide +kernel
set_option maxRecDepth 20000 in
theorem ggX0_seats_X0_isRow : GoodIn wsX0_seats wsX0_isRow := goodIn_r _ [7] (by decide +kernel) (by decide +kernel)
set_option maxRecDepth 20000 in
theorem gX0_seats_X0_isRow : GoodIn wsX0_seats (va_wsS RX0 99 yX0_isRow wsX0_isRow) := goodIn_app (goodIn_of _ (by decide +kernel)) ggX0_seats_X0_isRow
set_option maxRecDepth 20000 in
theorem ggX0_seats_X0_sumOf : GoodIn wsX0_seats wsX0_sumOf := goodIn_r _ [11, 1, 3, 31, 32, 33, 34, 35, 36, 37, 38, 39, 40, 41, 42, 43] (by decide +kernel) (by decide +kernel)
set_option maxRecDepth 20000 in
theorem gX0_seats_X0_sumOf : GoodIn wsX0_seats (wsV RX0 110 RX0 yX0_sumOf wsX0_sumOf) := goodIn_app (goodIn_of _ (by decide +kernel)) ggX0_seats_X0_sumOf
set_option maxRecDepth 20000 in
theorem ggX0_seats_X0_giveByRemainders : GoodIn wsX0_seats wsX0_giveByRemainders := goodIn_r _ [15, 2, 16, 17, 18, 19, 20, 21, 6, 22, 31, 32, 33, 34, 35, 36, 37, 38, 39, 40, 41, 42, 43] (by decide +kernel) (by decide +kernel)
set_option maxRecDepth 20000 in
theorem gX0_seats_X0_giveByRemainders : GoodIn wsX0_seats (wsV RX0 119 RX0 yX0_giveByRemainders wsX0_giveByRemainders) := goodIn_app (goodIn_of _ (by decide +kernel)) ggX0_seats_X0_giveByRemainders
set_option maxRecDepth 20000 in
theorem ggX0_seats_X0_giveOneByOne : GoodIn wsX0_seats wsX0_giveOneByOne := goodIn_r _ [26, 2, 16, 31, 32, 33, 34, 35, 36, 37, 38, 39, 40, 41, 42, 43] (by decide +kernel) (by decide +kernel)
set_option maxRecDepth 20000 in
theorem gX0_seats_X0_giveOneByOne : GoodIn wsX0_seats (wsV RX0 123 RX0 yX0_giveOneByOne wsX0_giveOneByOne) := goodIn_app (goodIn_of _ (by decide +kernel)) ggX0_seats_X0_giveOneByOne
set_option maxRecDepth 20000 in
theorem ggX0_seats_X0_countSeated : GoodIn wsX0_seats wsX0_countSeated := goodIn_r _ [30, 2, 16, 31, 32, 33, 34, 35, 36, 37, 38, 39, 40, 41, 42, 43] (by decide +kernel) (by decide +kernel)
set_option maxRecDepth 20000 in
theorem gX0_seats_X0_countSeated : GoodIn wsX0_seats (wsV RX0 127 RX0 yX0_countSeated wsX0_countSeated) := goodIn_app (goodIn_of _ (by decide +kernel)) ggX0_seats_X0_countSeated
theorem dX0_seats_0 : decode cX0_seats 0 = .ok (.iload_n 1, 1) := by decide +kernel
theorem dX0_seats_1 : decode cX0_seats 1 = .ok (.invokestatic 99, 3) := by decide +kernel
theorem dX0_seats_4 : decode cX0_seats 4 = .ok (.ifCond .eq 23, 3) := by decide +kernel
theorem dX0_seats_7 : decode cX0_seats 7 = .ok (.iload_n 2, 1) := by decide +kernel
theorem dX0_seats_8 : decode cX0_seats 8 = .ok (.ifCond .lt 19, 3) := by decide +kernel
theorem dX0_seats_11 : decode cX0_seats 11 = .ok (.iload_n 2, 1) := by decide +kernel
theorem dX0_seats_12 : decode cX0_seats 12 = .ok (.sipush 2000, 3) := by decide +kernel
theorem dX0_seats_15 : decode cX0_seats 15 = .ok (.if_icmp .gt 12, 3) := by decide +kernel
theorem dX0_seats_18 : decode cX0_seats 18 = .ok (.iload_n 3, 1) := by decide +kernel
theorem dX0_seats_19 : decode cX0_seats 19 = .ok (.ifCond .lt 8, 3) := by decide +kernel
theorem dX0_seats_22 : decode cX0_seats 22 = .ok (.iload_n 3, 1) := by decide +kernel
theorem dX0_seats_23 : decode cX0_seats 23 = .ok (.iconst 2, 1) := by decide +kernel
theorem dX0_seats_24 : decode cX0_seats 24 = .ok (.if_icmp .le 5, 3) := by decide +kernel
theorem dX0_seats_27 : decode cX0_seats 27 = .ok (.iconst (-1), 1) := by decide +kernel
theorem dX0_seats_28 : decode cX0_seats 28 = .ok (.ireturn, 1) := by decide +kernel
theorem dX0_seats_29 : decode cX0_seats 29 = .ok (.aload_n 0, 1) := by decide +kernel
theorem dX0_seats_30 : decode cX0_seats 30 = .ok (.iload_n 1, 1) := by decide +kernel
theorem dX0_seats_31 : decode cX0_seats 31 = .ok (.invokevirtual 110, 3) := by decide +kernel
theorem dX0_seats_34 : decode cX0_seats 34 = .ok (.lstore 4, 2) := by decide +kernel
theorem dX0_seats_36 : decode cX0_seats 36 = .ok (.lload 4, 2) := by decide +kernel
theorem dX0_seats_38 : decode cX0_seats 38 = .ok (.lconst 0, 1) := by decide +kernel
theorem dX0_seats_39 : decode cX0_seats 39 = .ok (.lcmp, 1) := by decide +kernel
theorem dX0_seats_40 : decode cX0_seats 40 = .ok (.ifCond .ne 6, 3) := by decide +kernel
theorem dX0_seats_43 : decode cX0_seats 43 = .ok (.bipush (-2), 2) := by decide +kernel
theorem dX0_seats_45 : decode cX0_seats 45 = .ok (.ireturn, 1) := by decide +kernel
theorem dX0_seats_46 : decode cX0_seats 46 = .ok (.aload_n 0, 1) := by decide +kernel
theorem dX0_seats_47 : decode cX0_seats 47 = .ok (.aload_n 0, 1) := by decide +kernel
theorem dX0_seats_48 : decode cX0_seats 48 = .ok (.getfield 23, 3) := by decide +kernel
theorem dX0_seats_51 : decode cX0_seats 51 = .ok (.iload_n 1, 1) := by decide +kernel
theorem dX0_seats_52 : decode cX0_seats 52 = .ok (.iaload, 1) := by decide +kernel
theorem dX0_seats_53 : decode cX0_seats 53 = .ok (.putfield 116, 3) := by decide +kernel
theorem dX0_seats_56 : decode cX0_seats 56 = .ok (.iload_n 3, 1) := by decide +kernel
theorem dX0_seats_57 : decode cX0_seats 57 = .ok (.ifCond .ne 19, 3) := by decide +kernel
theorem dX0_seats_60 : decode cX0_seats 60 = .ok (.aload_n 0, 1) := by decide +kernel
theorem dX0_seats_61 : decode cX0_seats 61 = .ok (.aload_n 0, 1) := by decide +kernel
theorem dX0_seats_62 : decode cX0_seats 62 = .ok (.getfield 20, 3) := by decide +kernel
theorem dX0_seats_65 : decode cX0_seats 65 = .ok (.iload_n 1, 1) := by decide +kernel
theorem dX0_seats_66 : decode cX0_seats 66 = .ok (.aaload, 1) := by decide +kernel
theorem dX0_seats_67 : decode cX0_seats 67 = .ok (.iload_n 2, 1) := by decide +kernel
theorem dX0_seats_68 : decode cX0_seats 68 = .ok (.lload 4, 2) := by decide +kernel
theorem dX0_seats_70 : decode cX0_seats 70 = .ok (.invokevirtual 119, 3) := by decide +kernel
theorem dX0_seats_73 : decode cX0_seats 73 = .ok (.goto 15, 3) := by decide +kernel
theorem dX0_seats_76 : decode cX0_seats 76 = .ok (.aload_n 0, 1) := by decide +kernel
theorem dX0_seats_77 : decode cX0_seats 77 = .ok (.aload_n 0, 1) := by decide +kernel
theorem dX0_seats_78 : decode cX0_seats 78 = .ok (.getfield 20, 3) := by decide +kernel
theorem dX0_seats_81 : decode cX0_seats 81 = .ok (.iload_n 1, 1) := by decide +kernel
theorem dX0_seats_82 : decode cX0_seats 82 = .ok (.aaload, 1) := by decide +kernel
theorem dX0_seats_83 : decode cX0_seats 83 = .ok (.iload_n 2, 1) := by decide +kernel
theorem dX0_seats_84 : decode cX0_seats 84 = .ok (.iload_n 3, 1) := by decide +kernel
theorem dX0_seats_85 : decode cX0_seats 85 = .ok (.invokevirtual 123, 3) := by decide +kernel
theorem dX0_seats_88 : decode cX0_seats 88 = .ok (.aload_n 0, 1) := by decide +kernel
theorem dX0_seats_89 : decode cX0_seats 89 = .ok (.invokevirtual 127, 3) := by decide +kernel
theorem dX0_seats_92 : decode cX0_seats 92 = .ok (.ireturn, 1) := by decide +kernel
theorem dX0_given_0 : decode cX0_given 0 = .ok (.iload_n 1, 1) := by decide +kernel
theorem dX0_given_1 : decode cX0_given 1 = .ok (.ifCond .lt 11, 3) := by decide +kernel
theorem dX0_given_4 : decode cX0_given 4 = .ok (.iload_n 1, 1) := by decide +kernel
theorem dX0_given_5 : decode cX0_given 5 = .ok (.aload_n 0, 1) := by decide +kernel
theorem dX0_given_6 : decode cX0_given 6 = .ok (.getfield 116, 3) := by decide +kernel
theorem dX0_given_9 : decode cX0_given 9 = .ok (.if_icmp .lt 8, 3) := by decide +kernel
theorem dX0_given_12 : decode cX0_given 12 = .ok (.bipush (-5), 2) := by decide +kernel
theorem dX0_given_14 : decode cX0_given 14 = .ok (.goto 9, 3) := by decide +kernel
theorem dX0_given_17 : decode cX0_given 17 = .ok (.aload_n 0, 1) := by decide +kernel
theorem dX0_given_18 : decode cX0_given 18 = .ok (.getfield 27, 3) := by decide +kernel
theorem dX0_given_21 : decode cX0_given 21 = .ok (.iload_n 1, 1) := by decide +kernel
theorem dX0_given_22 : decode cX0_given 22 = .ok (.iaload, 1) := by decide +kernel
theorem dX0_given_23 : decode cX0_given 23 = .ok (.ireturn, 1) := by decide +kernel
set_option maxRecDepth 20000 in
theorem ggX0_tail_X0_isNumber : GoodIn wsX0_tail wsX0_isNumber := goodIn_r _ [12, 13, 41, 42, 43, 44, 45, 46, 47, 48, 49, 50, 51, 52, 53] (by decide +kernel) (by decide +kernel)
set_option maxRecDepth 20000 in
theorem gX0_tail_X0_isNumber : GoodIn wsX0_tail (wsV RX0 42 RX0 yX0_isNumber wsX0_isNumber) := goodIn_app (goodIn_of _ (by decide +kernel)) ggX0_tail_X0_isNumber
set_option maxRecDepth 20000 in
theorem ggX0_tail_X0_isFull : GoodIn wsX0_tail wsX0_isFull := goodIn_r _ [17, 13, 41, 42, 43, 44, 45, 46, 47, 48, 49, 50, 51, 52, 53] (by decide +kernel) (by decide +kernel)
set_option maxRecDepth 20000 in
theorem gX0_tail_X0_isFull : GoodIn wsX0_tail (wsV RX0 46 RX0 yX0_isFull wsX0_isFull) := goodIn_app (goodIn_of _ (by decide +kernel)) ggX0_tail_X0_isFull
set_option maxRecDepth 20000 in
theorem ggX0_tail_X0_power : GoodIn wsX0_tail wsX0_power := goodIn_r _ [20, 21, 22, 11, 23, 3, 24, 25, 6, 26, 27] (by decide +kernel) (by decide +kernel)
set_option maxRecDepth 20000 in
theorem gX0_tail_X0_power : GoodIn wsX0_tail (va_wsS RX0 86 yX0_power wsX0_power) := goodIn_app (goodIn_of _ (by decide +kernel)) ggX0_tail_X0_power
set_option maxRecDepth 20000 in
theorem ggX0_tail_X0_choose : GoodIn wsX0_tail wsX0_choose := goodIn_r _ [30] (by decide +kernel) (by decide +kernel)
set_option maxRecDepth 20000 in
theorem gX0_tail_X0_choose : GoodIn wsX0_tail (va_wsS RX0 134 yX0_choose wsX0_choose) := goodIn_app (goodIn_of _ (by decide +kernel)) ggX0_tail_X0_choose
set_option maxRecDepth 20000 in
theorem ggX0_tail_X0_keep : GoodIn wsX0_tail wsX0_keep := goodIn_r _ [34, 1, 13, 2, 14, 15, 16, 11, 17, 35, 36, 37, 24, 25, 6, 26, 38, 39, 40, 41, 42, 43, 44, 45, 46, 47, 48, 49, 50, 51, 52, 53] (by decide +kernel) (by decide +kernel)
set_option maxRecDepth 20000 in
theorem gX0_tail_X0_keep : GoodIn wsX0_tail (wsV RX0 38 RX0 yX0_keep wsX0_keep) := goodIn_app (goodIn_of _ (by decide +kernel)) ggX0_tail_X0_keep
theorem dX0_tail_0 : decode cX0_tail 0 = .ok (.iload_n 1, 1) := by decide +kernel
theorem dX0_tail_1 : decode cX0_tail 1 = .ok (.ifCond .lt 17, 3) := by decide +kernel
theorem dX0_tail_4 : decode cX0_tail 4 = .ok (.iload_n 1, 1) := by decide +kernel
theorem dX0_tail_5 : decode cX0_tail 5 = .ok (.bipush 60, 2) := by decide +kernel
theorem dX0_tail_7 : decode cX0_tail 7 = .ok (.if_icmp .gt 11, 3) := by decide +kernel
theorem dX0_tail_10 : decode cX0_tail 10 = .ok (.aload_n 0, 1) := by decide +kernel
theorem dX0_tail_11 : decode cX0_tail 11 = .ok (.iload_n 3, 1) := by decide +kernel
theorem dX0_tail_12 : decode cX0_tail 12 = .ok (.invokevirtual 42, 3) := by decide +kernel
theorem dX0_tail_15 : decode cX0_tail 15 = .ok (.ifCond .ne 5, 3) := by decide +kernel
theorem dX0_tail_18 : decode cX0_tail 18 = .ok (.iconst (-1), 1) := by decide +kernel
theorem dX0_tail_19 : decode cX0_tail 19 = .ok (.ireturn, 1) := by decide +kernel
theorem dX0_tail_20 : decode cX0_tail 20 = .ok (.aload_n 0, 1) := by decide +kernel
theorem dX0_tail_21 : decode cX0_tail 21 = .ok (.getfield 11, 3) := by decide +kernel
theorem dX0_tail_24 : decode cX0_tail 24 = .ok (.iload_n 3, 1) := by decide +kernel
theorem dX0_tail_25 : decode cX0_tail 25 = .ok (.laload, 1) := by decide +kernel
theorem dX0_tail_26 : decode cX0_tail 26 = .ok (.lconst 0, 1) := by decide +kernel
theorem dX0_tail_27 : decode cX0_tail 27 = .ok (.lcmp, 1) := by decide +kernel
theorem dX0_tail_28 : decode cX0_tail 28 = .ok (.ifCond .lt 19, 3) := by decide +kernel
theorem dX0_tail_31 : decode cX0_tail 31 = .ok (.aload_n 0, 1) := by decide +kernel
theorem dX0_tail_32 : decode cX0_tail 32 = .ok (.getfield 11, 3) := by decide +kernel
theorem dX0_tail_35 : decode cX0_tail 35 = .ok (.iload_n 3, 1) := by decide +kernel
theorem dX0_tail_36 : decode cX0_tail 36 = .ok (.laload, 1) := by decide +kernel
theorem dX0_tail_37 : decode cX0_tail 37 = .ok (.aload_n 0, 1) := by decide +kernel
theorem dX0_tail_38 : decode cX0_tail 38 = .ok (.getfield 15, 3) := by decide +kernel
theorem dX0_tail_41 : decode cX0_tail 41 = .ok (.iload_n 3, 1) := by decide +kernel
theorem dX0_tail_42 : decode cX0_tail 42 = .ok (.laload, 1) := by decide +kernel
theorem dX0_tail_43 : decode cX0_tail 43 = .ok (.lcmp, 1) := by decide +kernel
theorem dX0_tail_44 : decode cX0_tail 44 = .ok (.ifCond .le 6, 3) := by decide +kernel
theorem dX0_tail_47 : decode cX0_tail 47 = .ok (.bipush (-5), 2) := by decide +kernel
theorem dX0_tail_49 : decode cX0_tail 49 = .ok (.ireturn, 1) := by decide +kernel
theorem dX0_tail_50 : decode cX0_tail 50 = .ok (.aload_n 0, 1) := by decide +kernel
theorem dX0_tail_51 : decode cX0_tail 51 = .ok (.invokevirtual 46, 3) := by decide +kernel
theorem dX0_tail_54 : decode cX0_tail 54 = .ok (.ifCond .eq 6, 3) := by decide +kernel
theorem dX0_tail_57 : decode cX0_tail 57 = .ok (.bipush (-4), 2) := by decide +kernel
theorem dX0_tail_59 : decode cX0_tail 59 = .ok (.ireturn, 1) := by decide +kernel
theorem dX0_tail_60 : decode cX0_tail 60 = .ok (.aload_n 0, 1) := by decide +kernel
theorem dX0_tail_61 : decode cX0_tail 61 = .ok (.getfield 15, 3) := by decide +kernel
theorem dX0_tail_64 : decode cX0_tail 64 = .ok (.iload_n 3, 1) := by decide +kernel
theorem dX0_tail_65 : decode cX0_tail 65 = .ok (.laload, 1) := by decide +kernel
theorem dX0_tail_66 : decode cX0_tail 66 = .ok (.iload_n 1, 1) := by decide +kernel
theorem dX0_tail_67 : decode cX0_tail 67 = .ok (.invokestatic 86, 3) := by decide +kernel
theorem dX0_tail_70 : decode cX0_tail 70 = .ok (.lstore 4, 2) := by decide +kernel
theorem dX0_tail_72 : decode cX0_tail 72 = .ok (.lload 4, 2) := by decide +kernel
theorem dX0_tail_74 : decode cX0_tail 74 = .ok (.ldc2_w 36, 3) := by decide +kernel
theorem dX0_tail_77 : decode cX0_tail 77 = .ok (.lcmp, 1) := by decide +kernel
theorem dX0_tail_78 : decode cX0_tail 78 = .ok (.ifCond .ne 6, 3) := by decide +kernel
theorem dX0_tail_81 : decode cX0_tail 81 = .ok (.bipush (-3), 2) := by decide +kernel
theorem dX0_tail_83 : decode cX0_tail 83 = .ok (.ireturn, 1) := by decide +kernel
theorem dX0_tail_84 : decode cX0_tail 84 = .ok (.lconst 0, 1) := by decide +kernel
theorem dX0_tail_85 : decode cX0_tail 85 = .ok (.lstore 6, 2) := by decide +kernel
theorem dX0_tail_87 : decode cX0_tail 87 = .ok (.iconst 0, 1) := by decide +kernel
theorem dX0_tail_88 : decode cX0_tail 88 = .ok (.iload_n 2, 1) := by decide +kernel
theorem dX0_tail_89 : decode cX0_tail 89 = .ok (.invokestatic 131, 3) := by decide +kernel
theorem dX0_tail_92 : decode cX0_tail 92 = .ok (.istore 8, 2) := by decide +kernel
theorem dX0_tail_94 : decode cX0_tail 94 = .ok (.iload 8, 2) := by decide +kernel
theorem dX0_tail_96 : decode cX0_tail 96 = .ok (.iload_n 1, 1) := by decide +kernel
theorem dX0_tail_97 : decode cX0_tail 97 = .ok (.if_icmp .gt 53, 3) := by decide +kernel
theorem dX0_tail_100 : decode cX0_tail 100 = .ok (.lload 6, 2) := by decide +kernel
theorem dX0_tail_102 : decode cX0_tail 102 = .ok (.iload_n 1, 1) := by decide +kernel
theorem dX0_tail_103 : decode cX0_tail 103 = .ok (.iload 8, 2) := by decide +kernel
theorem dX0_tail_105 : decode cX0_tail 105 = .ok (.invokestatic 134, 3) := by decide +kernel
theorem dX0_tail_108 : decode cX0_tail 108 = .ok (.aload_n 0, 1) := by decide +kernel
theorem dX0_tail_109 : decode cX0_tail 109 = .ok (.getfield 11, 3) := by decide +kernel
theorem dX0_tail_112 : decode cX0_tail 112 = .ok (.iload_n 3, 1) := by decide +kernel
theorem dX0_tail_113 : decode cX0_tail 113 = .ok (.laload, 1) := by decide +kernel
theorem dX0_tail_114 : decode cX0_tail 114 = .ok (.iload 8, 2) := by decide +kernel
theorem dX0_tail_116 : decode cX0_tail 116 = .ok (.invokestatic 86, 3) := by decide +kernel
theorem dX0_tail_119 : decode cX0_tail 119 = .ok (.lmul, 1) := by decide +kernel
theorem dX0_tail_120 : decode cX0_tail 120 = .ok (.aload_n 0, 1) := by decide +kernel
theorem dX0_tail_121 : decode cX0_tail 121 = .ok (.getfield 15, 3) := by decide +kernel
theorem dX0_tail_124 : decode cX0_tail 124 = .ok (.iload_n 3, 1) := by decide +kernel
theorem dX0_tail_125 : decode cX0_tail 125 = .ok (.laload, 1) := by decide +kernel
theorem dX0_tail_126 : decode cX0_tail 126 = .ok (.aload_n 0, 1) := by decide +kernel
theorem dX0_tail_127 : decode cX0_tail 127 = .ok (.getfield 11, 3) := by decide +kernel
theorem dX0_tail_130 : decode cX0_tail 130 = .ok (.iload_n 3, 1) := by decide +kernel
theorem dX0_tail_131 : decode cX0_tail 131 = .ok (.laload, 1) := by decide +kernel
theorem dX0_tail_132 : decode cX0_tail 132 = .ok (.lsub, 1) := by decide +kernel
theorem dX0_tail_133 : decode cX0_tail 133 = .ok (.iload_n 1, 1) := by decide +kernel
theorem dX0_tail_134 : decode cX0_tail 134 = .ok (.iload 8, 2) := by decide +kernel
theorem dX0_tail_136 : decode cX0_tail 136 = .ok (.isub, 1) := by decide +kernel
theorem dX0_tail_137 : decode cX0_tail 137 = .ok (.invokestatic 86, 3) := by decide +kernel
theorem dX0_tail_140 : decode cX0_tail 140 = .ok (.lmul, 1) := by decide +kernel
theorem dX0_tail_141 : decode cX0_tail 141 = .ok (.ladd, 1) := by decide +kernel
theorem dX0_tail_142 : decode cX0_tail 142 = .ok (.lstore 6, 2) := by decide +kernel
theorem dX0_tail_144 : decode cX0_tail 144 = .ok (.iinc 8 1, 3) := by decide +kernel
theorem dX0_tail_147 : decode cX0_tail 147 = .ok (.goto (-53), 3) := by decide +kernel
theorem dX0_tail_150 : decode cX0_tail 150 = .ok (.aload_n 0, 1) := by decide +kernel
theorem dX0_tail_151 : decode cX0_tail 151 = .ok (.lload 6, 2) := by decide +kernel
theorem dX0_tail_153 : decode cX0_tail 153 = .ok (.lload 4, 2) := by decide +kernel
theorem dX0_tail_155 : decode cX0_tail 155 = .ok (.invokevirtual 38, 3) := by decide +kernel
