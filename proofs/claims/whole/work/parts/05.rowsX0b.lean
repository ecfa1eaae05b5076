theorem dX0_tail_158 : decode cX0_tail 158 = .ok (.ireturn, 1) := by decide +kernel
set_option maxRecDepth 20000 in
theorem ggX0_urn_X0_choose : GoodIn wsX0_urn wsX0_choose := goodIn_r _ [4] (by decide +kernel) (by decide +kernel)
set_option maxRecDepth 20000 in
theorem gX0_urn_X0_choose : GoodIn wsX0_urn (va_wsS RX0 134 yX0_choose wsX0_choose) := goodIn_app (goodIn_of _ (by decide +kernel)) ggX0_urn_X0_choose
set_option maxRecDepth 20000 in
theorem ggX0_urn_X0_keep : GoodIn wsX0_urn wsX0_keep := goodIn_r _ [8, 9, 10, 11, 12, 13, 14, 3, 15, 16, 17, 18, 19, 20, 21, 22, 23, 24, 25, 26, 27, 28, 29, 30, 31, 32, 33, 34, 35, 36, 37, 38] (by decide +kernel) (by decide +kernel)
set_option maxRecDepth 20000 in
theorem gX0_urn_X0_keep : GoodIn wsX0_urn (wsV RX0 38 RX0 yX0_keep wsX0_keep) := goodIn_app (goodIn_of _ (by decide +kernel)) ggX0_urn_X0_keep
theorem dX0_urn_0 : decode cX0_urn 0 = .ok (.iload_n 1, 1) := by decide +kernel
theorem dX0_urn_1 : decode cX0_urn 1 = .ok (.ifCond .lt 27, 3) := by decide +kernel
theorem dX0_urn_4 : decode cX0_urn 4 = .ok (.iload_n 1, 1) := by decide +kernel
theorem dX0_urn_5 : decode cX0_urn 5 = .ok (.bipush 60, 2) := by decide +kernel
theorem dX0_urn_7 : decode cX0_urn 7 = .ok (.if_icmp .gt 21, 3) := by decide +kernel
theorem dX0_urn_10 : decode cX0_urn 10 = .ok (.iload_n 2, 1) := by decide +kernel
theorem dX0_urn_11 : decode cX0_urn 11 = .ok (.ifCond .lt 17, 3) := by decide +kernel
theorem dX0_urn_14 : decode cX0_urn 14 = .ok (.iload_n 2, 1) := by decide +kernel
theorem dX0_urn_15 : decode cX0_urn 15 = .ok (.iload_n 1, 1) := by decide +kernel
theorem dX0_urn_16 : decode cX0_urn 16 = .ok (.if_icmp .gt 12, 3) := by decide +kernel
theorem dX0_urn_19 : decode cX0_urn 19 = .ok (.iload_n 3, 1) := by decide +kernel
theorem dX0_urn_20 : decode cX0_urn 20 = .ok (.ifCond .lt 8, 3) := by decide +kernel
theorem dX0_urn_23 : decode cX0_urn 23 = .ok (.iload_n 3, 1) := by decide +kernel
theorem dX0_urn_24 : decode cX0_urn 24 = .ok (.iload_n 1, 1) := by decide +kernel
theorem dX0_urn_25 : decode cX0_urn 25 = .ok (.if_icmp .le 5, 3) := by decide +kernel
theorem dX0_urn_28 : decode cX0_urn 28 = .ok (.iconst (-1), 1) := by decide +kernel
theorem dX0_urn_29 : decode cX0_urn 29 = .ok (.ireturn, 1) := by decide +kernel
theorem dX0_urn_30 : decode cX0_urn 30 = .ok (.aload_n 0, 1) := by decide +kernel
theorem dX0_urn_31 : decode cX0_urn 31 = .ok (.iload_n 2, 1) := by decide +kernel
theorem dX0_urn_32 : decode cX0_urn 32 = .ok (.iload 4, 2) := by decide +kernel
theorem dX0_urn_34 : decode cX0_urn 34 = .ok (.invokestatic 134, 3) := by decide +kernel
theorem dX0_urn_37 : decode cX0_urn 37 = .ok (.iload_n 1, 1) := by decide +kernel
theorem dX0_urn_38 : decode cX0_urn 38 = .ok (.iload_n 2, 1) := by decide +kernel
theorem dX0_urn_39 : decode cX0_urn 39 = .ok (.isub, 1) := by decide +kernel
theorem dX0_urn_40 : decode cX0_urn 40 = .ok (.iload_n 3, 1) := by decide +kernel
theorem dX0_urn_41 : decode cX0_urn 41 = .ok (.iload 4, 2) := by decide +kernel
theorem dX0_urn_43 : decode cX0_urn 43 = .ok (.isub, 1) := by decide +kernel
theorem dX0_urn_44 : decode cX0_urn 44 = .ok (.invokestatic 134, 3) := by decide +kernel
theorem dX0_urn_47 : decode cX0_urn 47 = .ok (.lmul, 1) := by decide +kernel
theorem dX0_urn_48 : decode cX0_urn 48 = .ok (.iload_n 1, 1) := by decide +kernel
theorem dX0_urn_49 : decode cX0_urn 49 = .ok (.iload_n 3, 1) := by decide +kernel
theorem dX0_urn_50 : decode cX0_urn 50 = .ok (.invokestatic 134, 3) := by decide +kernel
theorem dX0_urn_53 : decode cX0_urn 53 = .ok (.invokevirtual 38, 3) := by decide +kernel
theorem dX0_urn_56 : decode cX0_urn 56 = .ok (.ireturn, 1) := by decide +kernel
set_option maxRecDepth 20000 in
theorem ggX0_test_X0_isRow : GoodIn wsX0_test wsX0_isRow := goodIn_r _ [14] (by decide +kernel) (by decide +kernel)
set_option maxRecDepth 20000 in
theorem gX0_test_X0_isRow : GoodIn wsX0_test (va_wsS RX0 99 yX0_isRow wsX0_isRow) := goodIn_app (goodIn_of _ (by decide +kernel)) ggX0_test_X0_isRow
set_option maxRecDepth 20000 in
theorem ggX0_test_X0_isFull : GoodIn wsX0_test wsX0_isFull := goodIn_r _ [18, 19, 46, 47, 48, 49, 50, 51, 52, 53, 54, 55, 56, 57, 58] (by decide +kernel) (by decide +kernel)
set_option maxRecDepth 20000 in
theorem gX0_test_X0_isFull : GoodIn wsX0_test (wsV RX0 46 RX0 yX0_isFull wsX0_isFull) := goodIn_app (goodIn_of _ (by decide +kernel)) ggX0_test_X0_isFull
set_option maxRecDepth 20000 in
theorem ggX0_test_X0_sumOf : GoodIn wsX0_test wsX0_sumOf := goodIn_r _ [23, 1, 2, 46, 47, 48, 49, 50, 51, 52, 53, 54, 55, 56, 57, 58] (by decide +kernel) (by decide +kernel)
set_option maxRecDepth 20000 in
theorem gX0_test_X0_sumOf : GoodIn wsX0_test (wsV RX0 110 RX0 yX0_sumOf wsX0_sumOf) := goodIn_app (goodIn_of _ (by decide +kernel)) ggX0_test_X0_sumOf
set_option maxRecDepth 20000 in
theorem ggX0_test_X0_waysToReach : GoodIn wsX0_test wsX0_waysToReach := goodIn_r _ [26, 24, 25, 13] (by decide +kernel) (by decide +kernel)
set_option maxRecDepth 20000 in
theorem gX0_test_X0_waysToReach : GoodIn wsX0_test (va_wsS RX0 144 yX0_waysToReach wsX0_waysToReach) := goodIn_app (goodIn_of _ (by decide +kernel)) ggX0_test_X0_waysToReach
set_option maxRecDepth 20000 in
theorem ggX0_test_X0_choose : GoodIn wsX0_test wsX0_choose := goodIn_r _ [29] (by decide +kernel) (by decide +kernel)
set_option maxRecDepth 20000 in
theorem gX0_test_X0_choose : GoodIn wsX0_test (va_wsS RX0 134 yX0_choose wsX0_choose) := goodIn_app (goodIn_of _ (by decide +kernel)) ggX0_test_X0_choose
set_option maxRecDepth 20000 in
theorem ggX0_test_X0_keep : GoodIn wsX0_test wsX0_keep := goodIn_r _ [33, 34, 19, 35, 15, 16, 17, 13, 18, 36, 37, 38, 39, 40, 41, 42, 43, 44, 45, 46, 47, 48, 49, 50, 51, 52, 53, 54, 55, 56, 57, 58] (by decide +kernel) (by decide +kernel)
set_option maxRecDepth 20000 in
theorem gX0_test_X0_keep : GoodIn wsX0_test (wsV RX0 38 RX0 yX0_keep wsX0_keep) := goodIn_app (goodIn_of _ (by decide +kernel)) ggX0_test_X0_keep
theorem dX0_test_0 : decode cX0_test 0 = .ok (.iload_n 1, 1) := by decide +kernel
theorem dX0_test_1 : decode cX0_test 1 = .ok (.invokestatic 99, 3) := by decide +kernel
theorem dX0_test_4 : decode cX0_test 4 = .ok (.ifCond .eq 15, 3) := by decide +kernel
theorem dX0_test_7 : decode cX0_test 7 = .ok (.iload_n 2, 1) := by decide +kernel
theorem dX0_test_8 : decode cX0_test 8 = .ok (.invokestatic 99, 3) := by decide +kernel
theorem dX0_test_11 : decode cX0_test 11 = .ok (.ifCond .eq 8, 3) := by decide +kernel
theorem dX0_test_14 : decode cX0_test 14 = .ok (.iload_n 1, 1) := by decide +kernel
theorem dX0_test_15 : decode cX0_test 15 = .ok (.iload_n 2, 1) := by decide +kernel
theorem dX0_test_16 : decode cX0_test 16 = .ok (.if_icmp .ne 5, 3) := by decide +kernel
theorem dX0_test_19 : decode cX0_test 19 = .ok (.iconst (-1), 1) := by decide +kernel
theorem dX0_test_20 : decode cX0_test 20 = .ok (.ireturn, 1) := by decide +kernel
theorem dX0_test_21 : decode cX0_test 21 = .ok (.aload_n 0, 1) := by decide +kernel
theorem dX0_test_22 : decode cX0_test 22 = .ok (.getfield 23, 3) := by decide +kernel
theorem dX0_test_25 : decode cX0_test 25 = .ok (.iload_n 1, 1) := by decide +kernel
theorem dX0_test_26 : decode cX0_test 26 = .ok (.iaload, 1) := by decide +kernel
theorem dX0_test_27 : decode cX0_test 27 = .ok (.ifCond .eq 12, 3) := by decide +kernel
theorem dX0_test_30 : decode cX0_test 30 = .ok (.aload_n 0, 1) := by decide +kernel
theorem dX0_test_31 : decode cX0_test 31 = .ok (.getfield 23, 3) := by decide +kernel
theorem dX0_test_34 : decode cX0_test 34 = .ok (.iload_n 2, 1) := by decide +kernel
theorem dX0_test_35 : decode cX0_test 35 = .ok (.iaload, 1) := by decide +kernel
theorem dX0_test_36 : decode cX0_test 36 = .ok (.ifCond .ne 6, 3) := by decide +kernel
theorem dX0_test_39 : decode cX0_test 39 = .ok (.bipush (-5), 2) := by decide +kernel
theorem dX0_test_41 : decode cX0_test 41 = .ok (.ireturn, 1) := by decide +kernel
theorem dX0_test_42 : decode cX0_test 42 = .ok (.aload_n 0, 1) := by decide +kernel
theorem dX0_test_43 : decode cX0_test 43 = .ok (.invokevirtual 46, 3) := by decide +kernel
theorem dX0_test_46 : decode cX0_test 46 = .ok (.ifCond .eq 6, 3) := by decide +kernel
theorem dX0_test_49 : decode cX0_test 49 = .ok (.bipush (-4), 2) := by decide +kernel
theorem dX0_test_51 : decode cX0_test 51 = .ok (.ireturn, 1) := by decide +kernel
theorem dX0_test_52 : decode cX0_test 52 = .ok (.aload_n 0, 1) := by decide +kernel
theorem dX0_test_53 : decode cX0_test 53 = .ok (.getfield 20, 3) := by decide +kernel
theorem dX0_test_56 : decode cX0_test 56 = .ok (.iload_n 1, 1) := by decide +kernel
theorem dX0_test_57 : decode cX0_test 57 = .ok (.aaload, 1) := by decide +kernel
theorem dX0_test_58 : decode cX0_test 58 = .ok (.iconst 0, 1) := by decide +kernel
theorem dX0_test_59 : decode cX0_test 59 = .ok (.aload_n 0, 1) := by decide +kernel
theorem dX0_test_60 : decode cX0_test 60 = .ok (.getfield 33, 3) := by decide +kernel
theorem dX0_test_63 : decode cX0_test 63 = .ok (.iconst 0, 1) := by decide +kernel
theorem dX0_test_64 : decode cX0_test 64 = .ok (.aload_n 0, 1) := by decide +kernel
theorem dX0_test_65 : decode cX0_test 65 = .ok (.getfield 23, 3) := by decide +kernel
theorem dX0_test_68 : decode cX0_test 68 = .ok (.iload_n 1, 1) := by decide +kernel
theorem dX0_test_69 : decode cX0_test 69 = .ok (.iaload, 1) := by decide +kernel
theorem dX0_test_70 : decode cX0_test 70 = .ok (.invokestatic 138, 3) := by decide +kernel
theorem dX0_test_73 : decode cX0_test 73 = .ok (.aload_n 0, 1) := by decide +kernel
theorem dX0_test_74 : decode cX0_test 74 = .ok (.getfield 20, 3) := by decide +kernel
theorem dX0_test_77 : decode cX0_test 77 = .ok (.iload_n 2, 1) := by decide +kernel
theorem dX0_test_78 : decode cX0_test 78 = .ok (.aaload, 1) := by decide +kernel
theorem dX0_test_79 : decode cX0_test 79 = .ok (.iconst 0, 1) := by decide +kernel
theorem dX0_test_80 : decode cX0_test 80 = .ok (.aload_n 0, 1) := by decide +kernel
theorem dX0_test_81 : decode cX0_test 81 = .ok (.getfield 33, 3) := by decide +kernel
theorem dX0_test_84 : decode cX0_test 84 = .ok (.aload_n 0, 1) := by decide +kernel
theorem dX0_test_85 : decode cX0_test 85 = .ok (.getfield 23, 3) := by decide +kernel
theorem dX0_test_88 : decode cX0_test 88 = .ok (.iload_n 1, 1) := by decide +kernel
theorem dX0_test_89 : decode cX0_test 89 = .ok (.iaload, 1) := by decide +kernel
theorem dX0_test_90 : decode cX0_test 90 = .ok (.aload_n 0, 1) := by decide +kernel
theorem dX0_test_91 : decode cX0_test 91 = .ok (.getfield 23, 3) := by decide +kernel
theorem dX0_test_94 : decode cX0_test 94 = .ok (.iload_n 2, 1) := by decide +kernel
theorem dX0_test_95 : decode cX0_test 95 = .ok (.iaload, 1) := by decide +kernel
theorem dX0_test_96 : decode cX0_test 96 = .ok (.invokestatic 138, 3) := by decide +kernel
theorem dX0_test_99 : decode cX0_test 99 = .ok (.aload_n 0, 1) := by decide +kernel
theorem dX0_test_100 : decode cX0_test 100 = .ok (.getfield 23, 3) := by decide +kernel
theorem dX0_test_103 : decode cX0_test 103 = .ok (.iload_n 1, 1) := by decide +kernel
theorem dX0_test_104 : decode cX0_test 104 = .ok (.iaload, 1) := by decide +kernel
theorem dX0_test_105 : decode cX0_test 105 = .ok (.aload_n 0, 1) := by decide +kernel
theorem dX0_test_106 : decode cX0_test 106 = .ok (.getfield 23, 3) := by decide +kernel
theorem dX0_test_109 : decode cX0_test 109 = .ok (.iload_n 2, 1) := by decide +kernel
theorem dX0_test_110 : decode cX0_test 110 = .ok (.iaload, 1) := by decide +kernel
theorem dX0_test_111 : decode cX0_test 111 = .ok (.iadd, 1) := by decide +kernel
theorem dX0_test_112 : decode cX0_test 112 = .ok (.istore_n 3, 1) := by decide +kernel
theorem dX0_test_113 : decode cX0_test 113 = .ok (.aload_n 0, 1) := by decide +kernel
theorem dX0_test_114 : decode cX0_test 114 = .ok (.iload_n 1, 1) := by decide +kernel
theorem dX0_test_115 : decode cX0_test 115 = .ok (.invokevirtual 110, 3) := by decide +kernel
theorem dX0_test_118 : decode cX0_test 118 = .ok (.lstore 4, 2) := by decide +kernel
theorem dX0_test_120 : decode cX0_test 120 = .ok (.aload_n 0, 1) := by decide +kernel
theorem dX0_test_121 : decode cX0_test 121 = .ok (.lload 4, 2) := by decide +kernel
theorem dX0_test_123 : decode cX0_test 123 = .ok (.aload_n 0, 1) := by decide +kernel
theorem dX0_test_124 : decode cX0_test 124 = .ok (.getfield 23, 3) := by decide +kernel
theorem dX0_test_127 : decode cX0_test 127 = .ok (.iload_n 1, 1) := by decide +kernel
theorem dX0_test_128 : decode cX0_test 128 = .ok (.iaload, 1) := by decide +kernel
theorem dX0_test_129 : decode cX0_test 129 = .ok (.aload_n 0, 1) := by decide +kernel
theorem dX0_test_130 : decode cX0_test 130 = .ok (.getfield 33, 3) := by decide +kernel
theorem dX0_test_133 : decode cX0_test 133 = .ok (.iconst 0, 1) := by decide +kernel
theorem dX0_test_134 : decode cX0_test 134 = .ok (.iload_n 3, 1) := by decide +kernel
theorem dX0_test_135 : decode cX0_test 135 = .ok (.invokestatic 144, 3) := by decide +kernel
theorem dX0_test_138 : decode cX0_test 138 = .ok (.putfield 148, 3) := by decide +kernel
theorem dX0_test_141 : decode cX0_test 141 = .ok (.aload_n 0, 1) := by decide +kernel
theorem dX0_test_142 : decode cX0_test 142 = .ok (.aload_n 0, 1) := by decide +kernel
theorem dX0_test_143 : decode cX0_test 143 = .ok (.getfield 148, 3) := by decide +kernel
theorem dX0_test_146 : decode cX0_test 146 = .ok (.lload 4, 2) := by decide +kernel
theorem dX0_test_148 : decode cX0_test 148 = .ok (.lconst 1, 1) := by decide +kernel
theorem dX0_test_149 : decode cX0_test 149 = .ok (.ladd, 1) := by decide +kernel
theorem dX0_test_150 : decode cX0_test 150 = .ok (.aload_n 0, 1) := by decide +kernel
theorem dX0_test_151 : decode cX0_test 151 = .ok (.getfield 23, 3) := by decide +kernel
theorem dX0_test_154 : decode cX0_test 154 = .ok (.iload_n 1, 1) := by decide +kernel
theorem dX0_test_155 : decode cX0_test 155 = .ok (.iaload, 1) := by decide +kernel
theorem dX0_test_156 : decode cX0_test 156 = .ok (.aload_n 0, 1) := by decide +kernel
theorem dX0_test_157 : decode cX0_test 157 = .ok (.getfield 33, 3) := by decide +kernel
theorem dX0_test_160 : decode cX0_test 160 = .ok (.iconst 0, 1) := by decide +kernel
theorem dX0_test_161 : decode cX0_test 161 = .ok (.iload_n 3, 1) := by decide +kernel
theorem dX0_test_162 : decode cX0_test 162 = .ok (.invokestatic 144, 3) := by decide +kernel
theorem dX0_test_165 : decode cX0_test 165 = .ok (.isub, 1) := by decide +kernel
theorem dX0_test_166 : decode cX0_test 166 = .ok (.putfield 151, 3) := by decide +kernel
theorem dX0_test_169 : decode cX0_test 169 = .ok (.aload_n 0, 1) := by decide +kernel
theorem dX0_test_170 : decode cX0_test 170 = .ok (.iload_n 3, 1) := by decide +kernel
theorem dX0_test_171 : decode cX0_test 171 = .ok (.aload_n 0, 1) := by decide +kernel
theorem dX0_test_172 : decode cX0_test 172 = .ok (.getfield 23, 3) := by decide +kernel
theorem dX0_test_175 : decode cX0_test 175 = .ok (.iload_n 1, 1) := by decide +kernel
theorem dX0_test_176 : decode cX0_test 176 = .ok (.iaload, 1) := by decide +kernel
theorem dX0_test_177 : decode cX0_test 177 = .ok (.invokestatic 134, 3) := by decide +kernel
theorem dX0_test_180 : decode cX0_test 180 = .ok (.l2i, 1) := by decide +kernel
theorem dX0_test_181 : decode cX0_test 181 = .ok (.putfield 154, 3) := by decide +kernel
theorem dX0_test_184 : decode cX0_test 184 = .ok (.aload_n 0, 1) := by decide +kernel
theorem dX0_test_185 : decode cX0_test 185 = .ok (.aload_n 0, 1) := by decide +kernel
theorem dX0_test_186 : decode cX0_test 186 = .ok (.getfield 148, 3) := by decide +kernel
theorem dX0_test_189 : decode cX0_test 189 = .ok (.i2l, 1) := by decide +kernel
theorem dX0_test_190 : decode cX0_test 190 = .ok (.aload_n 0, 1) := by decide +kernel
theorem dX0_test_191 : decode cX0_test 191 = .ok (.getfield 154, 3) := by decide +kernel
theorem dX0_test_194 : decode cX0_test 194 = .ok (.i2l, 1) := by decide +kernel
theorem dX0_test_195 : decode cX0_test 195 = .ok (.invokevirtual 38, 3) := by decide +kernel
theorem dX0_test_198 : decode cX0_test 198 = .ok (.ireturn, 1) := by decide +kernel
theorem dX0_ways_0 : decode cX0_ways 0 = .ok (.aload_n 0, 1) := by decide +kernel
theorem dX0_ways_1 : decode cX0_ways 1 = .ok (.getfield 154, 3) := by decide +kernel
theorem dX0_ways_4 : decode cX0_ways 4 = .ok (.ifCond .ne 6, 3) := by decide +kernel
theorem dX0_ways_7 : decode cX0_ways 7 = .ok (.bipush (-5), 2) := by decide +kernel
theorem dX0_ways_9 : decode cX0_ways 9 = .ok (.ireturn, 1) := by decide +kernel
theorem dX0_ways_10 : decode cX0_ways 10 = .ok (.iload_n 1, 1) := by decide +kernel
theorem dX0_ways_11 : decode cX0_ways 11 = .ok (.tableswitch 40 0 2 #[25, 30, 35], 25) := by decide +kernel
theorem dX0_ways_36 : decode cX0_ways 36 = .ok (.aload_n 0, 1) := by decide +kernel
theorem dX0_ways_37 : decode cX0_ways 37 = .ok (.getfield 148, 3) := by decide +kernel
theorem dX0_ways_40 : decode cX0_ways 40 = .ok (.ireturn, 1) := by decide +kernel
theorem dX0_ways_41 : decode cX0_ways 41 = .ok (.aload_n 0, 1) := by decide +kernel
theorem dX0_ways_42 : decode cX0_ways 42 = .ok (.getfield 154, 3) := by decide +kernel
theorem dX0_ways_45 : decode cX0_ways 45 = .ok (.ireturn, 1) := by decide +kernel
theorem dX0_ways_46 : decode cX0_ways 46 = .ok (.aload_n 0, 1) := by decide +kernel
theorem dX0_ways_47 : decode cX0_ways 47 = .ok (.getfield 151, 3) := by decide +kernel
theorem dX0_ways_50 : decode cX0_ways 50 = .ok (.ireturn, 1) := by decide +kernel
theorem dX0_ways_51 : decode cX0_ways 51 = .ok (.iconst (-1), 1) := by decide +kernel
theorem dX0_ways_52 : decode cX0_ways 52 = .ok (.ireturn, 1) := by decide +kernel
theorem dX0_count_0 : decode cX0_count 0 = .ok (.iload_n 1, 1) := by decide +kernel
theorem dX0_count_1 : decode cX0_count 1 = .ok (.ifCond .ne 8, 3) := by decide +kernel
theorem dX0_count_4 : decode cX0_count 4 = .ok (.aload_n 0, 1) := by decide +kernel
theorem dX0_count_5 : decode cX0_count 5 = .ok (.getfield 68, 3) := by decide +kernel
theorem dX0_count_8 : decode cX0_count 8 = .ok (.ireturn, 1) := by decide +kernel
theorem dX0_count_9 : decode cX0_count 9 = .ok (.iload_n 1, 1) := by decide +kernel
theorem dX0_count_10 : decode cX0_count 10 = .ok (.iconst 5, 1) := by decide +kernel
theorem dX0_count_11 : decode cX0_count 11 = .ok (.if_icmp .ne 8, 3) := by decide +kernel
theorem dX0_count_14 : decode cX0_count 14 = .ok (.aload_n 0, 1) := by decide +kernel
theorem dX0_count_15 : decode cX0_count 15 = .ok (.getfield 157, 3) := by decide +kernel
theorem dX0_count_18 : decode cX0_count 18 = .ok (.ireturn, 1) := by decide +kernel
theorem dX0_count_19 : decode cX0_count 19 = .ok (.iload_n 1, 1) := by decide +kernel
theorem dX0_count_20 : decode cX0_count 20 = .ok (.iconst 1, 1) := by decide +kernel
theorem dX0_count_21 : decode cX0_count 21 = .ok (.if_icmp .lt 8, 3) := by decide +kernel
theorem dX0_count_24 : decode cX0_count 24 = .ok (.iload_n 1, 1) := by decide +kernel
theorem dX0_count_25 : decode cX0_count 25 = .ok (.iconst 4, 1) := by decide +kernel
theorem dX0_count_26 : decode cX0_count 26 = .ok (.if_icmp .le 7, 3) := by decide +kernel
theorem dX0_count_29 : decode cX0_count 29 = .ok (.iconst (-1), 1) := by decide +kernel
theorem dX0_count_30 : decode cX0_count 30 = .ok (.goto 11, 3) := by decide +kernel
theorem dX0_count_33 : decode cX0_count 33 = .ok (.aload_n 0, 1) := by decide +kernel
theorem dX0_count_34 : decode cX0_count 34 = .ok (.getfield 23, 3) := by decide +kernel
theorem dX0_count_37 : decode cX0_count 37 = .ok (.iload_n 1, 1) := by decide +kernel
theorem dX0_count_38 : decode cX0_count 38 = .ok (.iconst 1, 1) := by decide +kernel
theorem dX0_count_39 : decode cX0_count 39 = .ok (.isub, 1) := by decide +kernel
theorem dX0_count_40 : decode cX0_count 40 = .ok (.iaload, 1) := by decide +kernel
theorem dX0_count_41 : decode cX0_count 41 = .ok (.ireturn, 1) := by decide +kernel
theorem dX0_isNumber_0 : decode cX0_isNumber 0 = .ok (.iload_n 1, 1) := by decide +kernel
theorem dX0_isNumber_1 : decode cX0_isNumber 1 = .ok (.ifCond .lt 15, 3) := by decide +kernel
theorem dX0_isNumber_4 : decode cX0_isNumber 4 = .ok (.iload_n 1, 1) := by decide +kernel
theorem dX0_isNumber_5 : decode cX0_isNumber 5 = .ok (.aload_n 0, 1) := by decide +kernel
theorem dX0_isNumber_6 : decode cX0_isNumber 6 = .ok (.getfield 68, 3) := by decide +kernel
theorem dX0_isNumber_9 : decode cX0_isNumber 9 = .ok (.if_icmp .ge 7, 3) := by decide +kernel
theorem dX0_isNumber_12 : decode cX0_isNumber 12 = .ok (.iconst 1, 1) := by decide +kernel
theorem dX0_isNumber_13 : decode cX0_isNumber 13 = .ok (.goto 4, 3) := by decide +kernel
theorem dX0_isNumber_16 : decode cX0_isNumber 16 = .ok (.iconst 0, 1) := by decide +kernel
theorem dX0_isNumber_17 : decode cX0_isNumber 17 = .ok (.ireturn, 1) := by decide +kernel
theorem dX0_isFull_0 : decode cX0_isFull 0 = .ok (.aload_n 0, 1) := by decide +kernel
theorem dX0_isFull_1 : decode cX0_isFull 1 = .ok (.getfield 68, 3) := by decide +kernel
theorem dX0_isFull_4 : decode cX0_isFull 4 = .ok (.bipush 40, 2) := by decide +kernel
theorem dX0_isFull_6 : decode cX0_isFull 6 = .ok (.if_icmp .lt 7, 3) := by decide +kernel
theorem dX0_isFull_9 : decode cX0_isFull 9 = .ok (.iconst 1, 1) := by decide +kernel
theorem dX0_isFull_10 : decode cX0_isFull 10 = .ok (.goto 4, 3) := by decide +kernel
theorem dX0_isFull_13 : decode cX0_isFull 13 = .ok (.iconst 0, 1) := by decide +kernel
theorem dX0_isFull_14 : decode cX0_isFull 14 = .ok (.ireturn, 1) := by decide +kernel
set_option maxRecDepth 20000 in
theorem ggX0_keep_X0_isFull : GoodIn wsX0_keep wsX0_isFull := goodIn_r _ [8, 2, 19, 20, 21, 22, 23, 24, 25, 26, 27, 28, 29, 30, 31] (by decide +kernel) (by decide +kernel)
set_option maxRecDepth 20000 in
theorem gX0_keep_X0_isFull : GoodIn wsX0_keep (wsV RX0 46 RX0 yX0_isFull wsX0_isFull) := goodIn_app (goodIn_of _ (by decide +kernel)) ggX0_keep_X0_isFull
set_option maxRecDepth 20000 in
theorem ggX0_keep_X0_greatestDivisor : GoodIn wsX0_keep wsX0_greatestDivisor := goodIn_r _ [11, 12, 13, 14, 15, 16, 17, 18] (by decide +kernel) (by decide +kernel)
set_option maxRecDepth 20000 in
theorem gX0_keep_X0_greatestDivisor : GoodIn wsX0_keep (va_wsS RX0 160 yX0_greatestDivisor wsX0_greatestDivisor) := goodIn_app (goodIn_of _ (by decide +kernel)) ggX0_keep_X0_greatestDivisor
theorem dX0_keep_0 : decode cX0_keep 0 = .ok (.aload_n 0, 1) := by decide +kernel
theorem dX0_keep_1 : decode cX0_keep 1 = .ok (.invokevirtual 46, 3) := by decide +kernel
theorem dX0_keep_4 : decode cX0_keep 4 = .ok (.ifCond .eq 6, 3) := by decide +kernel
theorem dX0_keep_7 : decode cX0_keep 7 = .ok (.bipush (-4), 2) := by decide +kernel
theorem dX0_keep_9 : decode cX0_keep 9 = .ok (.ireturn, 1) := by decide +kernel
theorem dX0_keep_10 : decode cX0_keep 10 = .ok (.lload_n 1, 1) := by decide +kernel
theorem dX0_keep_11 : decode cX0_keep 11 = .ok (.lload_n 3, 1) := by decide +kernel
theorem dX0_keep_12 : decode cX0_keep 12 = .ok (.invokestatic 160, 3) := by decide +kernel
theorem dX0_keep_15 : decode cX0_keep 15 = .ok (.lstore 5, 2) := by decide +kernel
theorem dX0_keep_17 : decode cX0_keep 17 = .ok (.aload_n 0, 1) := by decide +kernel
theorem dX0_keep_18 : decode cX0_keep 18 = .ok (.getfield 11, 3) := by decide +kernel
theorem dX0_keep_21 : decode cX0_keep 21 = .ok (.aload_n 0, 1) := by decide +kernel
theorem dX0_keep_22 : decode cX0_keep 22 = .ok (.getfield 68, 3) := by decide +kernel
theorem dX0_keep_25 : decode cX0_keep 25 = .ok (.lload_n 1, 1) := by decide +kernel
theorem dX0_keep_26 : decode cX0_keep 26 = .ok (.lload 5, 2) := by decide +kernel
theorem dX0_keep_28 : decode cX0_keep 28 = .ok (.ldiv, 1) := by decide +kernel
theorem dX0_keep_29 : decode cX0_keep 29 = .ok (.lastore, 1) := by decide +kernel
theorem dX0_keep_30 : decode cX0_keep 30 = .ok (.aload_n 0, 1) := by decide +kernel
theorem dX0_keep_31 : decode cX0_keep 31 = .ok (.getfield 15, 3) := by decide +kernel
theorem dX0_keep_34 : decode cX0_keep 34 = .ok (.aload_n 0, 1) := by decide +kernel
theorem dX0_keep_35 : decode cX0_keep 35 = .ok (.getfield 68, 3) := by decide +kernel
theorem dX0_keep_38 : decode cX0_keep 38 = .ok (.lload_n 3, 1) := by decide +kernel
theorem dX0_keep_39 : decode cX0_keep 39 = .ok (.lload 5, 2) := by decide +kernel
theorem dX0_keep_41 : decode cX0_keep 41 = .ok (.ldiv, 1) := by decide +kernel
theorem dX0_keep_42 : decode cX0_keep 42 = .ok (.lastore, 1) := by decide +kernel
theorem dX0_keep_43 : decode cX0_keep 43 = .ok (.aload_n 0, 1) := by decide +kernel
theorem dX0_keep_44 : decode cX0_keep 44 = .ok (.dup, 1) := by decide +kernel
theorem dX0_keep_45 : decode cX0_keep 45 = .ok (.getfield 68, 3) := by decide +kernel
theorem dX0_keep_48 : decode cX0_keep 48 = .ok (.iconst 1, 1) := by decide +kernel
theorem dX0_keep_49 : decode cX0_keep 49 = .ok (.iadd, 1) := by decide +kernel
theorem dX0_keep_50 : decode cX0_keep 50 = .ok (.putfield 68, 3) := by decide +kernel
theorem dX0_keep_53 : decode cX0_keep 53 = .ok (.aload_n 0, 1) := by decide +kernel
theorem dX0_keep_54 : decode cX0_keep 54 = .ok (.getfield 68, 3) := by decide +kernel
theorem dX0_keep_57 : decode cX0_keep 57 = .ok (.iconst 1, 1) := by decide +kernel
theorem dX0_keep_58 : decode cX0_keep 58 = .ok (.isub, 1) := by decide +kernel
theorem dX0_keep_59 : decode cX0_keep 59 = .ok (.ireturn, 1) := by decide +kernel
set_option maxRecDepth 20000 in
theorem ggX0_keepUnlessWide_X0_keep : GoodIn wsX0_keepUnlessWide wsX0_keep := goodIn_r _ [7, 8, 9, 10, 11, 12, 13, 6, 14, 15, 16, 17, 18, 19, 20, 21, 22, 23, 24, 25, 26, 27, 28, 29, 30, 31, 32, 33, 34, 35, 36, 37] (by decide +kernel) (by decide +kernel)
set_option maxRecDepth 20000 in
theorem gX0_keepUnlessWide_X0_keep : GoodIn wsX0_keepUnlessWide (wsV RX0 38 RX0 yX0_keep wsX0_keep) := goodIn_app (goodIn_of _ (by decide +kernel)) ggX0_keepUnlessWide_X0_keep
theorem dX0_keepUnlessWide_0 : decode cX0_keepUnlessWide 0 = .ok (.lload_n 1, 1) := by decide +kernel
theorem dX0_keepUnlessWide_1 : decode cX0_keepUnlessWide 1 = .ok (.ldc2_w 36, 3) := by decide +kernel
theorem dX0_keepUnlessWide_4 : decode cX0_keepUnlessWide 4 = .ok (.lcmp, 1) := by decide +kernel
theorem dX0_keepUnlessWide_5 : decode cX0_keepUnlessWide 5 = .ok (.ifCond .eq 11, 3) := by decide +kernel
theorem dX0_keepUnlessWide_8 : decode cX0_keepUnlessWide 8 = .ok (.lload_n 3, 1) := by decide +kernel
theorem dX0_keepUnlessWide_9 : decode cX0_keepUnlessWide 9 = .ok (.ldc2_w 36, 3) := by decide +kernel
theorem dX0_keepUnlessWide_12 : decode cX0_keepUnlessWide 12 = .ok (.lcmp, 1) := by decide +kernel
theorem dX0_keepUnlessWide_13 : decode cX0_keepUnlessWide 13 = .ok (.ifCond .ne 16, 3) := by decide +kernel
theorem dX0_keepUnlessWide_16 : decode cX0_keepUnlessWide 16 = .ok (.aload_n 0, 1) := by decide +kernel
theorem dX0_keepUnlessWide_17 : decode cX0_keepUnlessWide 17 = .ok (.dup, 1) := by decide +kernel
theorem dX0_keepUnlessWide_18 : decode cX0_keepUnlessWide 18 = .ok (.getfield 157, 3) := by decide +kernel
theorem dX0_keepUnlessWide_21 : decode cX0_keepUnlessWide 21 = .ok (.iconst 1, 1) := by decide +kernel
theorem dX0_keepUnlessWide_22 : decode cX0_keepUnlessWide 22 = .ok (.iadd, 1) := by decide +kernel
theorem dX0_keepUnlessWide_23 : decode cX0_keepUnlessWide 23 = .ok (.putfield 157, 3) := by decide +kernel
theorem dX0_keepUnlessWide_26 : decode cX0_keepUnlessWide 26 = .ok (.bipush (-3), 2) := by decide +kernel
theorem dX0_keepUnlessWide_28 : decode cX0_keepUnlessWide 28 = .ok (.ireturn, 1) := by decide +kernel
theorem dX0_keepUnlessWide_29 : decode cX0_keepUnlessWide 29 = .ok (.aload_n 0, 1) := by decide +kernel
theorem dX0_keepUnlessWide_30 : decode cX0_keepUnlessWide 30 = .ok (.lload_n 1, 1) := by decide +kernel
theorem dX0_keepUnlessWide_31 : decode cX0_keepUnlessWide 31 = .ok (.lload_n 3, 1) := by decide +kernel
theorem dX0_keepUnlessWide_32 : decode cX0_keepUnlessWide 32 = .ok (.invokevirtual 38, 3) := by decide +kernel
theorem dX0_keepUnlessWide_35 : decode cX0_keepUnlessWide 35 = .ok (.ireturn, 1) := by decide +kernel
set_option maxRecDepth 20000 in
theorem ggX0_keepSum_X0_greatestDivisor : GoodIn wsX0_keepSum wsX0_greatestDivisor := goodIn_r _ [4, 5, 6, 7, 8, 9, 10, 11] (by decide +kernel) (by decide +kernel)
set_option maxRecDepth 20000 in
theorem gX0_keepSum_X0_greatestDivisor : GoodIn wsX0_keepSum (va_wsS RX0 160 yX0_greatestDivisor wsX0_greatestDivisor) := goodIn_app (goodIn_of _ (by decide +kernel)) ggX0_keepSum_X0_greatestDivisor
set_option maxRecDepth 20000 in
theorem ggX0_keepSum_X0_times : GoodIn wsX0_keepSum wsX0_times := goodIn_r _ [14, 15, 5, 6, 7, 8, 16] (by decide +kernel) (by decide +kernel)
set_option maxRecDepth 20000 in
theorem gX0_keepSum_X0_times : GoodIn wsX0_keepSum (va_wsS RX0 90 yX0_times wsX0_times) := goodIn_app (goodIn_of _ (by decide +kernel)) ggX0_keepSum_X0_times
set_option maxRecDepth 20000 in
theorem ggX0_keepSum_X0_plus : GoodIn wsX0_keepSum wsX0_plus := goodIn_r _ [19, 15] (by decide +kernel) (by decide +kernel)
set_option maxRecDepth 20000 in
theorem gX0_keepSum_X0_plus : GoodIn wsX0_keepSum (va_wsS RX0 163 yX0_plus wsX0_plus) := goodIn_app (goodIn_of _ (by decide +kernel)) ggX0_keepSum_X0_plus
set_option maxRecDepth 20000 in
theorem ggX0_keepSum_X0_keepUnlessWide : GoodIn wsX0_keepSum wsX0_keepUnlessWide := goodIn_r _ [23, 15, 24, 25, 26, 27, 3, 28, 29, 30, 31, 32, 33, 34, 35, 1, 2, 4, 5, 6, 7, 8, 9, 10, 11, 36, 37, 38, 39, 40, 41, 42, 43, 44, 45, 46, 47, 48] (by decide +kernel) (by decide +kernel)
set_option maxRecDepth 20000 in
theorem gX0_keepSum_X0_keepUnlessWide : GoodIn wsX0_keepSum (wsV RX0 166 RX0 yX0_keepUnlessWide wsX0_keepUnlessWide) := goodIn_app (goodIn_of _ (by decide +kernel)) ggX0_keepSum_X0_keepUnlessWide
theorem dX0_keepSum_0 : decode cX0_keepSum 0 = .ok (.lload_n 3, 1) := by decide +kernel
theorem dX0_keepSum_1 : decode cX0_keepSum 1 = .ok (.lload 7, 2) := by decide +kernel
theorem dX0_keepSum_3 : decode cX0_keepSum 3 = .ok (.invokestatic 160, 3) := by decide +kernel
theorem dX0_keepSum_6 : decode cX0_keepSum 6 = .ok (.lstore 9, 2) := by decide +kernel
theorem dX0_keepSum_8 : decode cX0_keepSum 8 = .ok (.lload_n 1, 1) := by decide +kernel
theorem dX0_keepSum_9 : decode cX0_keepSum 9 = .ok (.lload 7, 2) := by decide +kernel
theorem dX0_keepSum_11 : decode cX0_keepSum 11 = .ok (.lload 9, 2) := by decide +kernel
theorem dX0_keepSum_13 : decode cX0_keepSum 13 = .ok (.ldiv, 1) := by decide +kernel
theorem dX0_keepSum_14 : decode cX0_keepSum 14 = .ok (.invokestatic 90, 3) := by decide +kernel
theorem dX0_keepSum_17 : decode cX0_keepSum 17 = .ok (.lload 5, 2) := by decide +kernel
theorem dX0_keepSum_19 : decode cX0_keepSum 19 = .ok (.lload_n 3, 1) := by decide +kernel
theorem dX0_keepSum_20 : decode cX0_keepSum 20 = .ok (.lload 9, 2) := by decide +kernel
theorem dX0_keepSum_22 : decode cX0_keepSum 22 = .ok (.ldiv, 1) := by decide +kernel
theorem dX0_keepSum_23 : decode cX0_keepSum 23 = .ok (.invokestatic 90, 3) := by decide +kernel
theorem dX0_keepSum_26 : decode cX0_keepSum 26 = .ok (.invokestatic 163, 3) := by decide +kernel
theorem dX0_keepSum_29 : decode cX0_keepSum 29 = .ok (.lstore 11, 2) := by decide +kernel
theorem dX0_keepSum_31 : decode cX0_keepSum 31 = .ok (.aload_n 0, 1) := by decide +kernel
theorem dX0_keepSum_32 : decode cX0_keepSum 32 = .ok (.lload 11, 2) := by decide +kernel
theorem dX0_keepSum_34 : decode cX0_keepSum 34 = .ok (.lload_n 3, 1) := by decide +kernel
theorem dX0_keepSum_35 : decode cX0_keepSum 35 = .ok (.lload 7, 2) := by decide +kernel
theorem dX0_keepSum_37 : decode cX0_keepSum 37 = .ok (.lload 9, 2) := by decide +kernel
theorem dX0_keepSum_39 : decode cX0_keepSum 39 = .ok (.ldiv, 1) := by decide +kernel
theorem dX0_keepSum_40 : decode cX0_keepSum 40 = .ok (.invokestatic 90, 3) := by decide +kernel
theorem dX0_keepSum_43 : decode cX0_keepSum 43 = .ok (.invokevirtual 166, 3) := by decide +kernel
theorem dX0_keepSum_46 : decode cX0_keepSum 46 = .ok (.ireturn, 1) := by decide +kernel
set_option maxRecDepth 20000 in
theorem ggX0_keepProduct_X0_greatestDivisor : GoodIn wsX0_keepProduct wsX0_greatestDivisor := goodIn_r _ [4, 5, 6, 7, 8, 9, 10, 11] (by decide +kernel) (by decide +kernel)
set_option maxRecDepth 20000 in
theorem gX0_keepProduct_X0_greatestDivisor : GoodIn wsX0_keepProduct (va_wsS RX0 160 yX0_greatestDivisor wsX0_greatestDivisor) := goodIn_app (goodIn_of _ (by decide +kernel)) ggX0_keepProduct_X0_greatestDivisor
set_option maxRecDepth 20000 in
theorem ggX0_keepProduct_X0_times : GoodIn wsX0_keepProduct wsX0_times := goodIn_r _ [14, 15, 5, 6, 7, 8, 16] (by decide +kernel) (by decide +kernel)
set_option maxRecDepth 20000 in
theorem gX0_keepProduct_X0_times : GoodIn wsX0_keepProduct (va_wsS RX0 90 yX0_times wsX0_times) := goodIn_app (goodIn_of _ (by decide +kernel)) ggX0_keepProduct_X0_times
set_option maxRecDepth 20000 in
theorem ggX0_keepProduct_X0_keepUnlessWide : GoodIn wsX0_keepProduct wsX0_keepUnlessWide := goodIn_r _ [20, 15, 21, 22, 23, 24, 3, 25, 26, 27, 28, 29, 30, 31, 32, 1, 2, 4, 5, 6, 7, 8, 9, 10, 11, 33, 34, 35, 36, 37, 38, 39, 40, 41, 42, 43, 44, 45] (by decide +kernel) (by decide +kernel)
set_option maxRecDepth 20000 in
theorem gX0_keepProduct_X0_keepUnlessWide : GoodIn wsX0_keepProduct (wsV RX0 166 RX0 yX0_keepUnlessWide wsX0_keepUnlessWide) := goodIn_app (goodIn_of _ (by decide +kernel)) ggX0_keepProduct_X0_keepUnlessWide
theorem dX0_keepProduct_0 : decode cX0_keepProduct 0 = .ok (.lload_n 1, 1) := by decide +kernel
theorem dX0_keepProduct_1 : decode cX0_keepProduct 1 = .ok (.lload 7, 2) := by decide +kernel
theorem dX0_keepProduct_3 : decode cX0_keepProduct 3 = .ok (.invokestatic 160, 3) := by decide +kernel
theorem dX0_keepProduct_6 : decode cX0_keepProduct 6 = .ok (.lstore 9, 2) := by decide +kernel
theorem dX0_keepProduct_8 : decode cX0_keepProduct 8 = .ok (.lload 5, 2) := by decide +kernel
theorem dX0_keepProduct_10 : decode cX0_keepProduct 10 = .ok (.lload_n 3, 1) := by decide +kernel
theorem dX0_keepProduct_11 : decode cX0_keepProduct 11 = .ok (.invokestatic 160, 3) := by decide +kernel
theorem dX0_keepProduct_14 : decode cX0_keepProduct 14 = .ok (.lstore 11, 2) := by decide +kernel
theorem dX0_keepProduct_16 : decode cX0_keepProduct 16 = .ok (.aload_n 0, 1) := by decide +kernel
theorem dX0_keepProduct_17 : decode cX0_keepProduct 17 = .ok (.lload_n 1, 1) := by decide +kernel
theorem dX0_keepProduct_18 : decode cX0_keepProduct 18 = .ok (.lload 9, 2) := by decide +kernel
theorem dX0_keepProduct_20 : decode cX0_keepProduct 20 = .ok (.ldiv, 1) := by decide +kernel
theorem dX0_keepProduct_21 : decode cX0_keepProduct 21 = .ok (.lload 5, 2) := by decide +kernel
theorem dX0_keepProduct_23 : decode cX0_keepProduct 23 = .ok (.lload 11, 2) := by decide +kernel
theorem dX0_keepProduct_25 : decode cX0_keepProduct 25 = .ok (.ldiv, 1) := by decide +kernel
theorem dX0_keepProduct_26 : decode cX0_keepProduct 26 = .ok (.invokestatic 90, 3) := by decide +kernel
theorem dX0_keepProduct_29 : decode cX0_keepProduct 29 = .ok (.lload_n 3, 1) := by decide +kernel
theorem dX0_keepProduct_30 : decode cX0_keepProduct 30 = .ok (.lload 11, 2) := by decide +kernel
theorem dX0_keepProduct_32 : decode cX0_keepProduct 32 = .ok (.ldiv, 1) := by decide +kernel
theorem dX0_keepProduct_33 : decode cX0_keepProduct 33 = .ok (.lload 7, 2) := by decide +kernel
theorem dX0_keepProduct_35 : decode cX0_keepProduct 35 = .ok (.lload 9, 2) := by decide +kernel
theorem dX0_keepProduct_37 : decode cX0_keepProduct 37 = .ok (.ldiv, 1) := by decide +kernel
theorem dX0_keepProduct_38 : decode cX0_keepProduct 38 = .ok (.invokestatic 90, 3) := by decide +kernel
theorem dX0_keepProduct_41 : decode cX0_keepProduct 41 = .ok (.invokevirtual 166, 3) := by decide +kernel
theorem dX0_keepProduct_44 : decode cX0_keepProduct 44 = .ok (.ireturn, 1) := by decide +kernel
set_option maxRecDepth 20000 in
theorem ggX0_keepQuotient_X0_keepProduct : GoodIn wsX0_keepQuotient wsX0_keepProduct := goodIn_r _ [7, 8, 9, 6, 10, 11, 12, 13, 14, 15, 16, 17, 18, 19, 20, 21, 22, 23, 24, 25, 26, 27, 28, 29, 30, 31, 1, 32, 2, 33, 34, 35, 36, 37, 38, 39, 40, 41, 42, 43, 44, 45, 46, 47, 48, 49] (by decide +kernel) (by decide +kernel)
set_option maxRecDepth 20000 in
theorem gX0_keepQuotient_X0_keepProduct : GoodIn wsX0_keepQuotient (wsV RX0 54 RX0 yX0_keepProduct wsX0_keepProduct) := goodIn_app (goodIn_of _ (by decide +kernel)) ggX0_keepQuotient_X0_keepProduct
theorem dX0_keepQuotient_0 : decode cX0_keepQuotient 0 = .ok (.aload_n 0, 1) := by decide +kernel
theorem dX0_keepQuotient_1 : decode cX0_keepQuotient 1 = .ok (.getfield 11, 3) := by decide +kernel
theorem dX0_keepQuotient_4 : decode cX0_keepQuotient 4 = .ok (.iload_n 2, 1) := by decide +kernel
theorem dX0_keepQuotient_5 : decode cX0_keepQuotient 5 = .ok (.laload, 1) := by decide +kernel
theorem dX0_keepQuotient_6 : decode cX0_keepQuotient 6 = .ok (.lconst 0, 1) := by decide +kernel
theorem dX0_keepQuotient_7 : decode cX0_keepQuotient 7 = .ok (.lcmp, 1) := by decide +kernel
theorem dX0_keepQuotient_8 : decode cX0_keepQuotient 8 = .ok (.ifCond .ge 34, 3) := by decide +kernel
theorem dX0_keepQuotient_11 : decode cX0_keepQuotient 11 = .ok (.aload_n 0, 1) := by decide +kernel
theorem dX0_keepQuotient_12 : decode cX0_keepQuotient 12 = .ok (.aload_n 0, 1) := by decide +kernel
theorem dX0_keepQuotient_13 : decode cX0_keepQuotient 13 = .ok (.getfield 11, 3) := by decide +kernel
theorem dX0_keepQuotient_16 : decode cX0_keepQuotient 16 = .ok (.iload_n 1, 1) := by decide +kernel
theorem dX0_keepQuotient_17 : decode cX0_keepQuotient 17 = .ok (.laload, 1) := by decide +kernel
theorem dX0_keepQuotient_18 : decode cX0_keepQuotient 18 = .ok (.aload_n 0, 1) := by decide +kernel
theorem dX0_keepQuotient_19 : decode cX0_keepQuotient 19 = .ok (.getfield 15, 3) := by decide +kernel
theorem dX0_keepQuotient_22 : decode cX0_keepQuotient 22 = .ok (.iload_n 1, 1) := by decide +kernel
theorem dX0_keepQuotient_23 : decode cX0_keepQuotient 23 = .ok (.laload, 1) := by decide +kernel
theorem dX0_keepQuotient_24 : decode cX0_keepQuotient 24 = .ok (.aload_n 0, 1) := by decide +kernel
theorem dX0_keepQuotient_25 : decode cX0_keepQuotient 25 = .ok (.getfield 15, 3) := by decide +kernel
theorem dX0_keepQuotient_28 : decode cX0_keepQuotient 28 = .ok (.iload_n 2, 1) := by decide +kernel
theorem dX0_keepQuotient_29 : decode cX0_keepQuotient 29 = .ok (.laload, 1) := by decide +kernel
theorem dX0_keepQuotient_30 : decode cX0_keepQuotient 30 = .ok (.lneg, 1) := by decide +kernel
theorem dX0_keepQuotient_31 : decode cX0_keepQuotient 31 = .ok (.aload_n 0, 1) := by decide +kernel
theorem dX0_keepQuotient_32 : decode cX0_keepQuotient 32 = .ok (.getfield 11, 3) := by decide +kernel
theorem dX0_keepQuotient_35 : decode cX0_keepQuotient 35 = .ok (.iload_n 2, 1) := by decide +kernel
theorem dX0_keepQuotient_36 : decode cX0_keepQuotient 36 = .ok (.laload, 1) := by decide +kernel
theorem dX0_keepQuotient_37 : decode cX0_keepQuotient 37 = .ok (.lneg, 1) := by decide +kernel
theorem dX0_keepQuotient_38 : decode cX0_keepQuotient 38 = .ok (.invokevirtual 54, 3) := by decide +kernel
theorem dX0_keepQuotient_41 : decode cX0_keepQuotient 41 = .ok (.ireturn, 1) := by decide +kernel
theorem dX0_keepQuotient_42 : decode cX0_keepQuotient 42 = .ok (.aload_n 0, 1) := by decide +kernel
theorem dX0_keepQuotient_43 : decode cX0_keepQuotient 43 = .ok (.aload_n 0, 1) := by decide +kernel
theorem dX0_keepQuotient_44 : decode cX0_keepQuotient 44 = .ok (.getfield 11, 3) := by decide +kernel
theorem dX0_keepQuotient_47 : decode cX0_keepQuotient 47 = .ok (.iload_n 1, 1) := by decide +kernel
theorem dX0_keepQuotient_48 : decode cX0_keepQuotient 48 = .ok (.laload, 1) := by decide +kernel
theorem dX0_keepQuotient_49 : decode cX0_keepQuotient 49 = .ok (.aload_n 0, 1) := by decide +kernel
theorem dX0_keepQuotient_50 : decode cX0_keepQuotient 50 = .ok (.getfield 15, 3) := by decide +kernel
theorem dX0_keepQuotient_53 : decode cX0_keepQuotient 53 = .ok (.iload_n 1, 1) := by decide +kernel
theorem dX0_keepQuotient_54 : decode cX0_keepQuotient 54 = .ok (.laload, 1) := by decide +kernel
theorem dX0_keepQuotient_55 : decode cX0_keepQuotient 55 = .ok (.aload_n 0, 1) := by decide +kernel
theorem dX0_keepQuotient_56 : decode cX0_keepQuotient 56 = .ok (.getfield 15, 3) := by decide +kernel
theorem dX0_keepQuotient_59 : decode cX0_keepQuotient 59 = .ok (.iload_n 2, 1) := by decide +kernel
theorem dX0_keepQuotient_60 : decode cX0_keepQuotient 60 = .ok (.laload, 1) := by decide +kernel
theorem dX0_keepQuotient_61 : decode cX0_keepQuotient 61 = .ok (.aload_n 0, 1) := by decide +kernel
theorem dX0_keepQuotient_62 : decode cX0_keepQuotient 62 = .ok (.getfield 11, 3) := by decide +kernel
theorem dX0_keepQuotient_65 : decode cX0_keepQuotient 65 = .ok (.iload_n 2, 1) := by decide +kernel
theorem dX0_keepQuotient_66 : decode cX0_keepQuotient 66 = .ok (.laload, 1) := by decide +kernel
theorem dX0_keepQuotient_67 : decode cX0_keepQuotient 67 = .ok (.invokevirtual 54, 3) := by decide +kernel
theorem dX0_keepQuotient_70 : decode cX0_keepQuotient 70 = .ok (.ireturn, 1) := by decide +kernel
set_option maxRecDepth 20000 in
theorem ggX0_keepSimplest_X0_keep : GoodIn wsX0_keepSimplest wsX0_keep := goodIn_r _ [5, 6, 7, 8, 9, 10, 11, 4, 12, 13, 14, 15, 16, 17, 18, 19, 20, 21, 22, 23, 24, 25, 26, 27, 28, 29, 30, 31, 32, 33, 34, 35] (by decide +kernel) (by decide +kernel)
set_option maxRecDepth 20000 in
theorem gX0_keepSimplest_X0_keep : GoodIn wsX0_keepSimplest (wsV RX0 38 RX0 yX0_keep wsX0_keep) := goodIn_app (goodIn_of _ (by decide +kernel)) ggX0_keepSimplest_X0_keep
theorem dX0_keepSimplest_0 : decode cX0_keepSimplest 0 = .ok (.lconst 0, 1) := by decide +kernel
theorem dX0_keepSimplest_1 : decode cX0_keepSimplest 1 = .ok (.lstore 10, 2) := by decide +kernel
theorem dX0_keepSimplest_3 : decode cX0_keepSimplest 3 = .ok (.lconst 1, 1) := by decide +kernel
theorem dX0_keepSimplest_4 : decode cX0_keepSimplest 4 = .ok (.lstore 12, 2) := by decide +kernel
theorem dX0_keepSimplest_6 : decode cX0_keepSimplest 6 = .ok (.lconst 1, 1) := by decide +kernel
theorem dX0_keepSimplest_7 : decode cX0_keepSimplest 7 = .ok (.lstore 14, 2) := by decide +kernel
theorem dX0_keepSimplest_9 : decode cX0_keepSimplest 9 = .ok (.lconst 0, 1) := by decide +kernel
theorem dX0_keepSimplest_10 : decode cX0_keepSimplest 10 = .ok (.lstore 16, 2) := by decide +kernel
theorem dX0_keepSimplest_12 : decode cX0_keepSimplest 12 = .ok (.iconst 0, 1) := by decide +kernel
theorem dX0_keepSimplest_13 : decode cX0_keepSimplest 13 = .ok (.istore 18, 2) := by decide +kernel
theorem dX0_keepSimplest_15 : decode cX0_keepSimplest 15 = .ok (.iconst 0, 1) := by decide +kernel
theorem dX0_keepSimplest_16 : decode cX0_keepSimplest 16 = .ok (.istore 19, 2) := by decide +kernel
theorem dX0_keepSimplest_18 : decode cX0_keepSimplest 18 = .ok (.iload 19, 2) := by decide +kernel
theorem dX0_keepSimplest_20 : decode cX0_keepSimplest 20 = .ok (.sipush 200, 3) := by decide +kernel
theorem dX0_keepSimplest_23 : decode cX0_keepSimplest 23 = .ok (.if_icmp .ge 141, 3) := by decide +kernel
theorem dX0_keepSimplest_26 : decode cX0_keepSimplest 26 = .ok (.iload 18, 2) := by decide +kernel
theorem dX0_keepSimplest_28 : decode cX0_keepSimplest 28 = .ok (.ifCond .ne 136, 3) := by decide +kernel
theorem dX0_keepSimplest_31 : decode cX0_keepSimplest 31 = .ok (.lload_n 3, 1) := by decide +kernel
theorem dX0_keepSimplest_32 : decode cX0_keepSimplest 32 = .ok (.lconst 0, 1) := by decide +kernel
theorem dX0_keepSimplest_33 : decode cX0_keepSimplest 33 = .ok (.lcmp, 1) := by decide +kernel
theorem dX0_keepSimplest_34 : decode cX0_keepSimplest 34 = .ok (.ifCond .le 130, 3) := by decide +kernel
theorem dX0_keepSimplest_37 : decode cX0_keepSimplest 37 = .ok (.lload 7, 2) := by decide +kernel
theorem dX0_keepSimplest_39 : decode cX0_keepSimplest 39 = .ok (.lconst 0, 1) := by decide +kernel
theorem dX0_keepSimplest_40 : decode cX0_keepSimplest 40 = .ok (.lcmp, 1) := by decide +kernel
theorem dX0_keepSimplest_41 : decode cX0_keepSimplest 41 = .ok (.ifCond .le 123, 3) := by decide +kernel
theorem dX0_keepSimplest_44 : decode cX0_keepSimplest 44 = .ok (.lload_n 1, 1) := by decide +kernel
theorem dX0_keepSimplest_45 : decode cX0_keepSimplest 45 = .ok (.lload_n 3, 1) := by decide +kernel
theorem dX0_keepSimplest_46 : decode cX0_keepSimplest 46 = .ok (.ldiv, 1) := by decide +kernel
theorem dX0_keepSimplest_47 : decode cX0_keepSimplest 47 = .ok (.lstore 20, 2) := by decide +kernel
theorem dX0_keepSimplest_49 : decode cX0_keepSimplest 49 = .ok (.lload_n 1, 1) := by decide +kernel
theorem dX0_keepSimplest_50 : decode cX0_keepSimplest 50 = .ok (.lload_n 3, 1) := by decide +kernel
theorem dX0_keepSimplest_51 : decode cX0_keepSimplest 51 = .ok (.lrem, 1) := by decide +kernel
theorem dX0_keepSimplest_52 : decode cX0_keepSimplest 52 = .ok (.lstore 22, 2) := by decide +kernel
theorem dX0_keepSimplest_54 : decode cX0_keepSimplest 54 = .ok (.lload 5, 2) := by decide +kernel
theorem dX0_keepSimplest_56 : decode cX0_keepSimplest 56 = .ok (.lload 20, 2) := by decide +kernel
theorem dX0_keepSimplest_58 : decode cX0_keepSimplest 58 = .ok (.lload 7, 2) := by decide +kernel
theorem dX0_keepSimplest_60 : decode cX0_keepSimplest 60 = .ok (.lmul, 1) := by decide +kernel
theorem dX0_keepSimplest_61 : decode cX0_keepSimplest 61 = .ok (.lsub, 1) := by decide +kernel
theorem dX0_keepSimplest_62 : decode cX0_keepSimplest 62 = .ok (.lstore 24, 2) := by decide +kernel
theorem dX0_keepSimplest_64 : decode cX0_keepSimplest 64 = .ok (.lload 22, 2) := by decide +kernel
theorem dX0_keepSimplest_66 : decode cX0_keepSimplest 66 = .ok (.lconst 0, 1) := by decide +kernel
theorem dX0_keepSimplest_67 : decode cX0_keepSimplest 67 = .ok (.lcmp, 1) := by decide +kernel
theorem dX0_keepSimplest_68 : decode cX0_keepSimplest 68 = .ok (.ifCond .eq 11, 3) := by decide +kernel
theorem dX0_keepSimplest_71 : decode cX0_keepSimplest 71 = .ok (.lload 24, 2) := by decide +kernel
theorem dX0_keepSimplest_73 : decode cX0_keepSimplest 73 = .ok (.lload 7, 2) := by decide +kernel
theorem dX0_keepSimplest_75 : decode cX0_keepSimplest 75 = .ok (.lcmp, 1) := by decide +kernel
theorem dX0_keepSimplest_76 : decode cX0_keepSimplest 76 = .ok (.ifCond .lt 7, 3) := by decide +kernel
theorem dX0_keepSimplest_79 : decode cX0_keepSimplest 79 = .ok (.iconst 1, 1) := by decide +kernel
theorem dX0_keepSimplest_80 : decode cX0_keepSimplest 80 = .ok (.goto 4, 3) := by decide +kernel
theorem dX0_keepSimplest_83 : decode cX0_keepSimplest 83 = .ok (.iconst 0, 1) := by decide +kernel
theorem dX0_keepSimplest_84 : decode cX0_keepSimplest 84 = .ok (.istore 18, 2) := by decide +kernel
theorem dX0_keepSimplest_86 : decode cX0_keepSimplest 86 = .ok (.lload 22, 2) := by decide +kernel
theorem dX0_keepSimplest_88 : decode cX0_keepSimplest 88 = .ok (.lconst 0, 1) := by decide +kernel
theorem dX0_keepSimplest_89 : decode cX0_keepSimplest 89 = .ok (.lcmp, 1) := by decide +kernel
theorem dX0_keepSimplest_90 : decode cX0_keepSimplest 90 = .ok (.ifCond .eq 8, 3) := by decide +kernel
theorem dX0_keepSimplest_93 : decode cX0_keepSimplest 93 = .ok (.iload 18, 2) := by decide +kernel
theorem dX0_keepSimplest_95 : decode cX0_keepSimplest 95 = .ok (.ifCond .ne 8, 3) := by decide +kernel
theorem dX0_keepSimplest_98 : decode cX0_keepSimplest 98 = .ok (.lload 20, 2) := by decide +kernel
theorem dX0_keepSimplest_100 : decode cX0_keepSimplest 100 = .ok (.goto 7, 3) := by decide +kernel
theorem dX0_keepSimplest_103 : decode cX0_keepSimplest 103 = .ok (.lload 20, 2) := by decide +kernel
theorem dX0_keepSimplest_105 : decode cX0_keepSimplest 105 = .ok (.lconst 1, 1) := by decide +kernel
theorem dX0_keepSimplest_106 : decode cX0_keepSimplest 106 = .ok (.ladd, 1) := by decide +kernel
theorem dX0_keepSimplest_107 : decode cX0_keepSimplest 107 = .ok (.lstore 26, 2) := by decide +kernel
theorem dX0_keepSimplest_109 : decode cX0_keepSimplest 109 = .ok (.lload 26, 2) := by decide +kernel
theorem dX0_keepSimplest_111 : decode cX0_keepSimplest 111 = .ok (.lload 14, 2) := by decide +kernel
theorem dX0_keepSimplest_113 : decode cX0_keepSimplest 113 = .ok (.lmul, 1) := by decide +kernel
theorem dX0_keepSimplest_114 : decode cX0_keepSimplest 114 = .ok (.lload 10, 2) := by decide +kernel
theorem dX0_keepSimplest_116 : decode cX0_keepSimplest 116 = .ok (.ladd, 1) := by decide +kernel
theorem dX0_keepSimplest_117 : decode cX0_keepSimplest 117 = .ok (.lstore 28, 2) := by decide +kernel
theorem dX0_keepSimplest_119 : decode cX0_keepSimplest 119 = .ok (.lload 26, 2) := by decide +kernel
theorem dX0_keepSimplest_121 : decode cX0_keepSimplest 121 = .ok (.lload 16, 2) := by decide +kernel
theorem dX0_keepSimplest_123 : decode cX0_keepSimplest 123 = .ok (.lmul, 1) := by decide +kernel
theorem dX0_keepSimplest_124 : decode cX0_keepSimplest 124 = .ok (.lload 12, 2) := by decide +kernel
theorem dX0_keepSimplest_126 : decode cX0_keepSimplest 126 = .ok (.ladd, 1) := by decide +kernel
theorem dX0_keepSimplest_127 : decode cX0_keepSimplest 127 = .ok (.lstore 30, 2) := by decide +kernel
theorem dX0_keepSimplest_129 : decode cX0_keepSimplest 129 = .ok (.lload 14, 2) := by decide +kernel
theorem dX0_keepSimplest_131 : decode cX0_keepSimplest 131 = .ok (.lstore 10, 2) := by decide +kernel
theorem dX0_keepSimplest_133 : decode cX0_keepSimplest 133 = .ok (.lload 16, 2) := by decide +kernel
theorem dX0_keepSimplest_135 : decode cX0_keepSimplest 135 = .ok (.lstore 12, 2) := by decide +kernel
theorem dX0_keepSimplest_137 : decode cX0_keepSimplest 137 = .ok (.lload 28, 2) := by decide +kernel
theorem dX0_keepSimplest_139 : decode cX0_keepSimplest 139 = .ok (.lstore 14, 2) := by decide +kernel
theorem dX0_keepSimplest_141 : decode cX0_keepSimplest 141 = .ok (.lload 30, 2) := by decide +kernel
theorem dX0_keepSimplest_143 : decode cX0_keepSimplest 143 = .ok (.lstore 16, 2) := by decide +kernel
theorem dX0_keepSimplest_145 : decode cX0_keepSimplest 145 = .ok (.lload 7, 2) := by decide +kernel
theorem dX0_keepSimplest_147 : decode cX0_keepSimplest 147 = .ok (.lstore_n 1, 1) := by decide +kernel
theorem dX0_keepSimplest_148 : decode cX0_keepSimplest 148 = .ok (.lload_n 3, 1) := by decide +kernel
theorem dX0_keepSimplest_149 : decode cX0_keepSimplest 149 = .ok (.lstore 5, 2) := by decide +kernel
theorem dX0_keepSimplest_151 : decode cX0_keepSimplest 151 = .ok (.lload 24, 2) := by decide +kernel
theorem dX0_keepSimplest_153 : decode cX0_keepSimplest 153 = .ok (.lstore_n 3, 1) := by decide +kernel
theorem dX0_keepSimplest_154 : decode cX0_keepSimplest 154 = .ok (.lload 22, 2) := by decide +kernel
theorem dX0_keepSimplest_156 : decode cX0_keepSimplest 156 = .ok (.lstore 7, 2) := by decide +kernel
theorem dX0_keepSimplest_158 : decode cX0_keepSimplest 158 = .ok (.iinc 19 1, 3) := by decide +kernel
theorem dX0_keepSimplest_161 : decode cX0_keepSimplest 161 = .ok (.goto (-143), 3) := by decide +kernel
theorem dX0_keepSimplest_164 : decode cX0_keepSimplest 164 = .ok (.aload_n 0, 1) := by decide +kernel
theorem dX0_keepSimplest_165 : decode cX0_keepSimplest 165 = .ok (.iload 9, 2) := by decide +kernel
theorem dX0_keepSimplest_167 : decode cX0_keepSimplest 167 = .ok (.i2l, 1) := by decide +kernel
theorem dX0_keepSimplest_168 : decode cX0_keepSimplest 168 = .ok (.lload 14, 2) := by decide +kernel
theorem dX0_keepSimplest_170 : decode cX0_keepSimplest 170 = .ok (.lmul, 1) := by decide +kernel
theorem dX0_keepSimplest_171 : decode cX0_keepSimplest 171 = .ok (.lload 16, 2) := by decide +kernel
theorem dX0_keepSimplest_173 : decode cX0_keepSimplest 173 = .ok (.invokevirtual 38, 3) := by decide +kernel
theorem dX0_keepSimplest_176 : decode cX0_keepSimplest 176 = .ok (.ireturn, 1) := by decide +kernel
set_option maxRecDepth 20000 in
theorem ggX0_keepNearest_J9_floorDiv_f86c9 : GoodIn wsX0_keepNearest wsJ9_floorDiv_f86c9 := goodIn_r _ [4] (by decide +kernel) (by decide +kernel)
set_option maxRecDepth 20000 in
theorem gX0_keepNearest_J9_floorDiv_f86c9 : GoodIn wsX0_keepNearest (va_wsS RX0 94 yJ9_floorDiv_f86c9 wsJ9_floorDiv_f86c9) := goodIn_app (goodIn_of _ (by decide +kernel)) ggX0_keepNearest_J9_floorDiv_f86c9
set_option maxRecDepth 20000 in
theorem ggX0_keepNearest_X0_stepsOf : GoodIn wsX0_keepNearest wsX0_stepsOf := goodIn_r _ [8, 9, 10, 11, 12] (by decide +kernel) (by decide +kernel)
set_option maxRecDepth 20000 in
theorem gX0_keepNearest_X0_stepsOf : GoodIn wsX0_keepNearest (va_wsS RX0 169 yX0_stepsOf wsX0_stepsOf) := goodIn_app (goodIn_of _ (by decide +kernel)) ggX0_keepNearest_X0_stepsOf
set_option maxRecDepth 20000 in
theorem ggX0_keepNearest_X0_keep : GoodIn wsX0_keepNearest wsX0_keep := goodIn_r _ [16, 17, 18, 19, 20, 21, 22, 7, 23, 24, 25, 26, 27, 28, 11, 29, 30, 31, 32, 33, 34, 35, 36, 37, 38, 39, 40, 41, 42, 43, 44, 45] (by decide +kernel) (by decide +kernel)
set_option maxRecDepth 20000 in
theorem gX0_keepNearest_X0_keep : GoodIn wsX0_keepNearest (wsV RX0 38 RX0 yX0_keep wsX0_keep) := goodIn_app (goodIn_of _ (by decide +kernel)) ggX0_keepNearest_X0_keep
theorem dX0_keepNearest_0 : decode cX0_keepNearest 0 = .ok (.lload_n 3, 1) := by decide +kernel
theorem dX0_keepNearest_1 : decode cX0_keepNearest 1 = .ok (.lconst 0, 1) := by decide +kernel
theorem dX0_keepNearest_2 : decode cX0_keepNearest 2 = .ok (.lcmp, 1) := by decide +kernel
theorem dX0_keepNearest_3 : decode cX0_keepNearest 3 = .ok (.ifCond .le 11, 3) := by decide +kernel
theorem dX0_keepNearest_6 : decode cX0_keepNearest 6 = .ok (.lload_n 1, 1) := by decide +kernel
theorem dX0_keepNearest_7 : decode cX0_keepNearest 7 = .ok (.lload_n 3, 1) := by decide +kernel
theorem dX0_keepNearest_8 : decode cX0_keepNearest 8 = .ok (.invokestatic 94, 3) := by decide +kernel
theorem dX0_keepNearest_11 : decode cX0_keepNearest 11 = .ok (.goto 4, 3) := by decide +kernel
theorem dX0_keepNearest_14 : decode cX0_keepNearest 14 = .ok (.lconst 0, 1) := by decide +kernel
theorem dX0_keepNearest_15 : decode cX0_keepNearest 15 = .ok (.lstore 6, 2) := by decide +kernel
theorem dX0_keepNearest_17 : decode cX0_keepNearest 17 = .ok (.lload 6, 2) := by decide +kernel
theorem dX0_keepNearest_19 : decode cX0_keepNearest 19 = .ok (.lstore 8, 2) := by decide +kernel
theorem dX0_keepNearest_21 : decode cX0_keepNearest 21 = .ok (.lconst 1, 1) := by decide +kernel
theorem dX0_keepNearest_22 : decode cX0_keepNearest 22 = .ok (.lstore 10, 2) := by decide +kernel
theorem dX0_keepNearest_24 : decode cX0_keepNearest 24 = .ok (.lload_n 1, 1) := by decide +kernel
theorem dX0_keepNearest_25 : decode cX0_keepNearest 25 = .ok (.lload 6, 2) := by decide +kernel
theorem dX0_keepNearest_27 : decode cX0_keepNearest 27 = .ok (.lload_n 3, 1) := by decide +kernel
theorem dX0_keepNearest_28 : decode cX0_keepNearest 28 = .ok (.lmul, 1) := by decide +kernel
theorem dX0_keepNearest_29 : decode cX0_keepNearest 29 = .ok (.lsub, 1) := by decide +kernel
theorem dX0_keepNearest_30 : decode cX0_keepNearest 30 = .ok (.lstore 12, 2) := by decide +kernel
theorem dX0_keepNearest_32 : decode cX0_keepNearest 32 = .ok (.lload 6, 2) := by decide +kernel
theorem dX0_keepNearest_34 : decode cX0_keepNearest 34 = .ok (.lconst 1, 1) := by decide +kernel
theorem dX0_keepNearest_35 : decode cX0_keepNearest 35 = .ok (.ladd, 1) := by decide +kernel
theorem dX0_keepNearest_36 : decode cX0_keepNearest 36 = .ok (.lstore 14, 2) := by decide +kernel
theorem dX0_keepNearest_38 : decode cX0_keepNearest 38 = .ok (.lconst 1, 1) := by decide +kernel
theorem dX0_keepNearest_39 : decode cX0_keepNearest 39 = .ok (.lstore 16, 2) := by decide +kernel
theorem dX0_keepNearest_41 : decode cX0_keepNearest 41 = .ok (.lload_n 3, 1) := by decide +kernel
theorem dX0_keepNearest_42 : decode cX0_keepNearest 42 = .ok (.lload 12, 2) := by decide +kernel
theorem dX0_keepNearest_44 : decode cX0_keepNearest 44 = .ok (.lsub, 1) := by decide +kernel
theorem dX0_keepNearest_45 : decode cX0_keepNearest 45 = .ok (.lstore 18, 2) := by decide +kernel
theorem dX0_keepNearest_47 : decode cX0_keepNearest 47 = .ok (.iconst 0, 1) := by decide +kernel
theorem dX0_keepNearest_48 : decode cX0_keepNearest 48 = .ok (.istore 20, 2) := by decide +kernel
theorem dX0_keepNearest_50 : decode cX0_keepNearest 50 = .ok (.iload 20, 2) := by decide +kernel
theorem dX0_keepNearest_52 : decode cX0_keepNearest 52 = .ok (.sipush 200, 3) := by decide +kernel
theorem dX0_keepNearest_55 : decode cX0_keepNearest 55 = .ok (.if_icmp .ge 140, 3) := by decide +kernel
theorem dX0_keepNearest_58 : decode cX0_keepNearest 58 = .ok (.lload 10, 2) := by decide +kernel
theorem dX0_keepNearest_60 : decode cX0_keepNearest 60 = .ok (.lload 16, 2) := by decide +kernel
theorem dX0_keepNearest_62 : decode cX0_keepNearest 62 = .ok (.ladd, 1) := by decide +kernel
theorem dX0_keepNearest_63 : decode cX0_keepNearest 63 = .ok (.iload 5, 2) := by decide +kernel
theorem dX0_keepNearest_65 : decode cX0_keepNearest 65 = .ok (.i2l, 1) := by decide +kernel
theorem dX0_keepNearest_66 : decode cX0_keepNearest 66 = .ok (.lcmp, 1) := by decide +kernel
theorem dX0_keepNearest_67 : decode cX0_keepNearest 67 = .ok (.ifCond .gt 128, 3) := by decide +kernel
theorem dX0_keepNearest_70 : decode cX0_keepNearest 70 = .ok (.lload 12, 2) := by decide +kernel
theorem dX0_keepNearest_72 : decode cX0_keepNearest 72 = .ok (.lconst 0, 1) := by decide +kernel
theorem dX0_keepNearest_73 : decode cX0_keepNearest 73 = .ok (.lcmp, 1) := by decide +kernel
theorem dX0_keepNearest_74 : decode cX0_keepNearest 74 = .ok (.ifCond .le 121, 3) := by decide +kernel
theorem dX0_keepNearest_77 : decode cX0_keepNearest 77 = .ok (.lload 18, 2) := by decide +kernel
theorem dX0_keepNearest_79 : decode cX0_keepNearest 79 = .ok (.lconst 0, 1) := by decide +kernel
theorem dX0_keepNearest_80 : decode cX0_keepNearest 80 = .ok (.lcmp, 1) := by decide +kernel
theorem dX0_keepNearest_81 : decode cX0_keepNearest 81 = .ok (.ifCond .le 114, 3) := by decide +kernel
theorem dX0_keepNearest_84 : decode cX0_keepNearest 84 = .ok (.lload 12, 2) := by decide +kernel
theorem dX0_keepNearest_86 : decode cX0_keepNearest 86 = .ok (.lload 18, 2) := by decide +kernel
theorem dX0_keepNearest_88 : decode cX0_keepNearest 88 = .ok (.lcmp, 1) := by decide +kernel
theorem dX0_keepNearest_89 : decode cX0_keepNearest 89 = .ok (.ifCond .le 53, 3) := by decide +kernel
theorem dX0_keepNearest_92 : decode cX0_keepNearest 92 = .ok (.lload 12, 2) := by decide +kernel
theorem dX0_keepNearest_94 : decode cX0_keepNearest 94 = .ok (.lload 18, 2) := by decide +kernel
theorem dX0_keepNearest_96 : decode cX0_keepNearest 96 = .ok (.iload 5, 2) := by decide +kernel
theorem dX0_keepNearest_98 : decode cX0_keepNearest 98 = .ok (.i2l, 1) := by decide +kernel
theorem dX0_keepNearest_99 : decode cX0_keepNearest 99 = .ok (.lload 10, 2) := by decide +kernel
theorem dX0_keepNearest_101 : decode cX0_keepNearest 101 = .ok (.lsub, 1) := by decide +kernel
theorem dX0_keepNearest_102 : decode cX0_keepNearest 102 = .ok (.lload 16, 2) := by decide +kernel
theorem dX0_keepNearest_104 : decode cX0_keepNearest 104 = .ok (.invokestatic 169, 3) := by decide +kernel
theorem dX0_keepNearest_107 : decode cX0_keepNearest 107 = .ok (.lstore 21, 2) := by decide +kernel
theorem dX0_keepNearest_109 : decode cX0_keepNearest 109 = .ok (.lload 8, 2) := by decide +kernel
theorem dX0_keepNearest_111 : decode cX0_keepNearest 111 = .ok (.lload 21, 2) := by decide +kernel
theorem dX0_keepNearest_113 : decode cX0_keepNearest 113 = .ok (.lload 14, 2) := by decide +kernel
theorem dX0_keepNearest_115 : decode cX0_keepNearest 115 = .ok (.lmul, 1) := by decide +kernel
theorem dX0_keepNearest_116 : decode cX0_keepNearest 116 = .ok (.ladd, 1) := by decide +kernel
theorem dX0_keepNearest_117 : decode cX0_keepNearest 117 = .ok (.lstore 8, 2) := by decide +kernel
theorem dX0_keepNearest_119 : decode cX0_keepNearest 119 = .ok (.lload 10, 2) := by decide +kernel
theorem dX0_keepNearest_121 : decode cX0_keepNearest 121 = .ok (.lload 21, 2) := by decide +kernel
theorem dX0_keepNearest_123 : decode cX0_keepNearest 123 = .ok (.lload 16, 2) := by decide +kernel
theorem dX0_keepNearest_125 : decode cX0_keepNearest 125 = .ok (.lmul, 1) := by decide +kernel
theorem dX0_keepNearest_126 : decode cX0_keepNearest 126 = .ok (.ladd, 1) := by decide +kernel
theorem dX0_keepNearest_127 : decode cX0_keepNearest 127 = .ok (.lstore 10, 2) := by decide +kernel
theorem dX0_keepNearest_129 : decode cX0_keepNearest 129 = .ok (.lload 12, 2) := by decide +kernel
theorem dX0_keepNearest_131 : decode cX0_keepNearest 131 = .ok (.lload 21, 2) := by decide +kernel
theorem dX0_keepNearest_133 : decode cX0_keepNearest 133 = .ok (.lload 18, 2) := by decide +kernel
theorem dX0_keepNearest_135 : decode cX0_keepNearest 135 = .ok (.lmul, 1) := by decide +kernel
theorem dX0_keepNearest_136 : decode cX0_keepNearest 136 = .ok (.lsub, 1) := by decide +kernel
theorem dX0_keepNearest_137 : decode cX0_keepNearest 137 = .ok (.lstore 12, 2) := by decide +kernel
theorem dX0_keepNearest_139 : decode cX0_keepNearest 139 = .ok (.goto 50, 3) := by decide +kernel
theorem dX0_keepNearest_142 : decode cX0_keepNearest 142 = .ok (.lload 18, 2) := by decide +kernel
theorem dX0_keepNearest_144 : decode cX0_keepNearest 144 = .ok (.lload 12, 2) := by decide +kernel
theorem dX0_keepNearest_146 : decode cX0_keepNearest 146 = .ok (.iload 5, 2) := by decide +kernel
theorem dX0_keepNearest_148 : decode cX0_keepNearest 148 = .ok (.i2l, 1) := by decide +kernel
theorem dX0_keepNearest_149 : decode cX0_keepNearest 149 = .ok (.lload 16, 2) := by decide +kernel
theorem dX0_keepNearest_151 : decode cX0_keepNearest 151 = .ok (.lsub, 1) := by decide +kernel
theorem dX0_keepNearest_152 : decode cX0_keepNearest 152 = .ok (.lload 10, 2) := by decide +kernel
theorem dX0_keepNearest_154 : decode cX0_keepNearest 154 = .ok (.invokestatic 169, 3) := by decide +kernel
theorem dX0_keepNearest_157 : decode cX0_keepNearest 157 = .ok (.lstore 21, 2) := by decide +kernel
theorem dX0_keepNearest_159 : decode cX0_keepNearest 159 = .ok (.lload 14, 2) := by decide +kernel
theorem dX0_keepNearest_161 : decode cX0_keepNearest 161 = .ok (.lload 21, 2) := by decide +kernel
theorem dX0_keepNearest_163 : decode cX0_keepNearest 163 = .ok (.lload 8, 2) := by decide +kernel
theorem dX0_keepNearest_165 : decode cX0_keepNearest 165 = .ok (.lmul, 1) := by decide +kernel
theorem dX0_keepNearest_166 : decode cX0_keepNearest 166 = .ok (.ladd, 1) := by decide +kernel
theorem dX0_keepNearest_167 : decode cX0_keepNearest 167 = .ok (.lstore 14, 2) := by decide +kernel
theorem dX0_keepNearest_169 : decode cX0_keepNearest 169 = .ok (.lload 16, 2) := by decide +kernel
theorem dX0_keepNearest_171 : decode cX0_keepNearest 171 = .ok (.lload 21, 2) := by decide +kernel
theorem dX0_keepNearest_173 : decode cX0_keepNearest 173 = .ok (.lload 10, 2) := by decide +kernel
theorem dX0_keepNearest_175 : decode cX0_keepNearest 175 = .ok (.lmul, 1) := by decide +kernel
theorem dX0_keepNearest_176 : decode cX0_keepNearest 176 = .ok (.ladd, 1) := by decide +kernel
theorem dX0_keepNearest_177 : decode cX0_keepNearest 177 = .ok (.lstore 16, 2) := by decide +kernel
theorem dX0_keepNearest_179 : decode cX0_keepNearest 179 = .ok (.lload 18, 2) := by decide +kernel
theorem dX0_keepNearest_181 : decode cX0_keepNearest 181 = .ok (.lload 21, 2) := by decide +kernel
theorem dX0_keepNearest_183 : decode cX0_keepNearest 183 = .ok (.lload 12, 2) := by decide +kernel
theorem dX0_keepNearest_185 : decode cX0_keepNearest 185 = .ok (.lmul, 1) := by decide +kernel
theorem dX0_keepNearest_186 : decode cX0_keepNearest 186 = .ok (.lsub, 1) := by decide +kernel
theorem dX0_keepNearest_187 : decode cX0_keepNearest 187 = .ok (.lstore 18, 2) := by decide +kernel
theorem dX0_keepNearest_189 : decode cX0_keepNearest 189 = .ok (.iinc 20 1, 3) := by decide +kernel
theorem dX0_keepNearest_192 : decode cX0_keepNearest 192 = .ok (.goto (-142), 3) := by decide +kernel
theorem dX0_keepNearest_195 : decode cX0_keepNearest 195 = .ok (.lload 12, 2) := by decide +kernel
theorem dX0_keepNearest_197 : decode cX0_keepNearest 197 = .ok (.lload 16, 2) := by decide +kernel
theorem dX0_keepNearest_199 : decode cX0_keepNearest 199 = .ok (.lmul, 1) := by decide +kernel
theorem dX0_keepNearest_200 : decode cX0_keepNearest 200 = .ok (.lstore 20, 2) := by decide +kernel
theorem dX0_keepNearest_202 : decode cX0_keepNearest 202 = .ok (.lload 18, 2) := by decide +kernel
theorem dX0_keepNearest_204 : decode cX0_keepNearest 204 = .ok (.lload 10, 2) := by decide +kernel
theorem dX0_keepNearest_206 : decode cX0_keepNearest 206 = .ok (.lmul, 1) := by decide +kernel
theorem dX0_keepNearest_207 : decode cX0_keepNearest 207 = .ok (.lstore 22, 2) := by decide +kernel
theorem dX0_keepNearest_209 : decode cX0_keepNearest 209 = .ok (.lload 20, 2) := by decide +kernel
theorem dX0_keepNearest_211 : decode cX0_keepNearest 211 = .ok (.lload 22, 2) := by decide +kernel
theorem dX0_keepNearest_213 : decode cX0_keepNearest 213 = .ok (.lcmp, 1) := by decide +kernel
theorem dX0_keepNearest_214 : decode cX0_keepNearest 214 = .ok (.ifCond .lt 19, 3) := by decide +kernel
theorem dX0_keepNearest_217 : decode cX0_keepNearest 217 = .ok (.lload 20, 2) := by decide +kernel
theorem dX0_keepNearest_219 : decode cX0_keepNearest 219 = .ok (.lload 22, 2) := by decide +kernel
theorem dX0_keepNearest_221 : decode cX0_keepNearest 221 = .ok (.lcmp, 1) := by decide +kernel
theorem dX0_keepNearest_222 : decode cX0_keepNearest 222 = .ok (.ifCond .ne 15, 3) := by decide +kernel
theorem dX0_keepNearest_225 : decode cX0_keepNearest 225 = .ok (.lload 10, 2) := by decide +kernel
theorem dX0_keepNearest_227 : decode cX0_keepNearest 227 = .ok (.lload 16, 2) := by decide +kernel
theorem dX0_keepNearest_229 : decode cX0_keepNearest 229 = .ok (.lcmp, 1) := by decide +kernel
theorem dX0_keepNearest_230 : decode cX0_keepNearest 230 = .ok (.ifCond .gt 7, 3) := by decide +kernel
theorem dX0_keepNearest_233 : decode cX0_keepNearest 233 = .ok (.iconst 1, 1) := by decide +kernel
theorem dX0_keepNearest_234 : decode cX0_keepNearest 234 = .ok (.goto 4, 3) := by decide +kernel
theorem dX0_keepNearest_237 : decode cX0_keepNearest 237 = .ok (.iconst 0, 1) := by decide +kernel
theorem dX0_keepNearest_238 : decode cX0_keepNearest 238 = .ok (.istore 24, 2) := by decide +kernel
theorem dX0_keepNearest_240 : decode cX0_keepNearest 240 = .ok (.iload 24, 2) := by decide +kernel
theorem dX0_keepNearest_242 : decode cX0_keepNearest 242 = .ok (.ifCond .eq 14, 3) := by decide +kernel
theorem dX0_keepNearest_245 : decode cX0_keepNearest 245 = .ok (.aload_n 0, 1) := by decide +kernel
theorem dX0_keepNearest_246 : decode cX0_keepNearest 246 = .ok (.lload 8, 2) := by decide +kernel
theorem dX0_keepNearest_248 : decode cX0_keepNearest 248 = .ok (.lload 10, 2) := by decide +kernel
theorem dX0_keepNearest_250 : decode cX0_keepNearest 250 = .ok (.invokevirtual 38, 3) := by decide +kernel
theorem dX0_keepNearest_253 : decode cX0_keepNearest 253 = .ok (.goto 11, 3) := by decide +kernel
theorem dX0_keepNearest_256 : decode cX0_keepNearest 256 = .ok (.aload_n 0, 1) := by decide +kernel
theorem dX0_keepNearest_257 : decode cX0_keepNearest 257 = .ok (.lload 14, 2) := by decide +kernel
theorem dX0_keepNearest_259 : decode cX0_keepNearest 259 = .ok (.lload 16, 2) := by decide +kernel
theorem dX0_keepNearest_261 : decode cX0_keepNearest 261 = .ok (.invokevirtual 38, 3) := by decide +kernel
theorem dX0_keepNearest_264 : decode cX0_keepNearest 264 = .ok (.ireturn, 1) := by decide +kernel
theorem dX0_stepsOf_0 : decode cX0_stepsOf 0 = .ok (.lload_n 2, 1) := by decide +kernel
theorem dX0_stepsOf_1 : decode cX0_stepsOf 1 = .ok (.lconst 1, 1) := by decide +kernel
theorem dX0_stepsOf_2 : decode cX0_stepsOf 2 = .ok (.lcmp, 1) := by decide +kernel
theorem dX0_stepsOf_3 : decode cX0_stepsOf 3 = .ok (.ifCond .lt 10, 3) := by decide +kernel
theorem dX0_stepsOf_6 : decode cX0_stepsOf 6 = .ok (.lload 6, 2) := by decide +kernel
theorem dX0_stepsOf_8 : decode cX0_stepsOf 8 = .ok (.lconst 1, 1) := by decide +kernel
theorem dX0_stepsOf_9 : decode cX0_stepsOf 9 = .ok (.lcmp, 1) := by decide +kernel
theorem dX0_stepsOf_10 : decode cX0_stepsOf 10 = .ok (.ifCond .ge 7, 3) := by decide +kernel
theorem dX0_stepsOf_13 : decode cX0_stepsOf 13 = .ok (.lconst 0, 1) := by decide +kernel
theorem dX0_stepsOf_14 : decode cX0_stepsOf 14 = .ok (.goto 14, 3) := by decide +kernel
theorem dX0_stepsOf_17 : decode cX0_stepsOf 17 = .ok (.lload_n 0, 1) := by decide +kernel
theorem dX0_stepsOf_18 : decode cX0_stepsOf 18 = .ok (.lload_n 2, 1) := by decide +kernel
theorem dX0_stepsOf_19 : decode cX0_stepsOf 19 = .ok (.ldiv, 1) := by decide +kernel
theorem dX0_stepsOf_20 : decode cX0_stepsOf 20 = .ok (.lload 4, 2) := by decide +kernel
theorem dX0_stepsOf_22 : decode cX0_stepsOf 22 = .ok (.lload 6, 2) := by decide +kernel
theorem dX0_stepsOf_24 : decode cX0_stepsOf 24 = .ok (.ldiv, 1) := by decide +kernel
theorem dX0_stepsOf_25 : decode cX0_stepsOf 25 = .ok (.invokestatic 173, 3) := by decide +kernel
theorem dX0_stepsOf_28 : decode cX0_stepsOf 28 = .ok (.lreturn, 1) := by decide +kernel
theorem dX0_isRow_0 : decode cX0_isRow 0 = .ok (.iload_n 0, 1) := by decide +kernel
theorem dX0_isRow_1 : decode cX0_isRow 1 = .ok (.ifCond .lt 12, 3) := by decide +kernel
theorem dX0_isRow_4 : decode cX0_isRow 4 = .ok (.iload_n 0, 1) := by decide +kernel
theorem dX0_isRow_5 : decode cX0_isRow 5 = .ok (.iconst 4, 1) := by decide +kernel
theorem dX0_isRow_6 : decode cX0_isRow 6 = .ok (.if_icmp .ge 7, 3) := by decide +kernel
theorem dX0_isRow_9 : decode cX0_isRow 9 = .ok (.iconst 1, 1) := by decide +kernel
theorem dX0_isRow_10 : decode cX0_isRow 10 = .ok (.goto 4, 3) := by decide +kernel
theorem dX0_isRow_13 : decode cX0_isRow 13 = .ok (.iconst 0, 1) := by decide +kernel
theorem dX0_isRow_14 : decode cX0_isRow 14 = .ok (.ireturn, 1) := by decide +kernel
set_option maxRecDepth 20000 in
theorem ggX0_isValue_X0_isRow : GoodIn wsX0_isValue wsX0_isRow := goodIn_r _ [5] (by decide +kernel) (by decide +kernel)
set_option maxRecDepth 20000 in
theorem gX0_isValue_X0_isRow : GoodIn wsX0_isValue (va_wsS RX0 99 yX0_isRow wsX0_isRow) := goodIn_app (goodIn_of _ (by decide +kernel)) ggX0_isValue_X0_isRow
theorem dX0_isValue_0 : decode cX0_isValue 0 = .ok (.iload_n 1, 1) := by decide +kernel
theorem dX0_isValue_1 : decode cX0_isValue 1 = .ok (.invokestatic 99, 3) := by decide +kernel
theorem dX0_isValue_4 : decode cX0_isValue 4 = .ok (.ifCond .eq 21, 3) := by decide +kernel
theorem dX0_isValue_7 : decode cX0_isValue 7 = .ok (.iload_n 2, 1) := by decide +kernel
theorem dX0_isValue_8 : decode cX0_isValue 8 = .ok (.ifCond .lt 17, 3) := by decide +kernel
theorem dX0_isValue_11 : decode cX0_isValue 11 = .ok (.iload_n 2, 1) := by decide +kernel
theorem dX0_isValue_12 : decode cX0_isValue 12 = .ok (.aload_n 0, 1) := by decide +kernel
theorem dX0_isValue_13 : decode cX0_isValue 13 = .ok (.getfield 23, 3) := by decide +kernel
theorem dX0_isValue_16 : decode cX0_isValue 16 = .ok (.iload_n 1, 1) := by decide +kernel
theorem dX0_isValue_17 : decode cX0_isValue 17 = .ok (.iaload, 1) := by decide +kernel
theorem dX0_isValue_18 : decode cX0_isValue 18 = .ok (.if_icmp .ge 7, 3) := by decide +kernel
theorem dX0_isValue_21 : decode cX0_isValue 21 = .ok (.iconst 1, 1) := by decide +kernel
theorem dX0_isValue_22 : decode cX0_isValue 22 = .ok (.goto 4, 3) := by decide +kernel
theorem dX0_isValue_25 : decode cX0_isValue 25 = .ok (.iconst 0, 1) := by decide +kernel
theorem dX0_isValue_26 : decode cX0_isValue 26 = .ok (.ireturn, 1) := by decide +kernel
theorem dX0_sumOf_0 : decode cX0_sumOf 0 = .ok (.lconst 0, 1) := by decide +kernel
theorem dX0_sumOf_1 : decode cX0_sumOf 1 = .ok (.lstore_n 2, 1) := by decide +kernel
theorem dX0_sumOf_2 : decode cX0_sumOf 2 = .ok (.iconst 0, 1) := by decide +kernel
theorem dX0_sumOf_3 : decode cX0_sumOf 3 = .ok (.istore 4, 2) := by decide +kernel
theorem dX0_sumOf_5 : decode cX0_sumOf 5 = .ok (.iload 4, 2) := by decide +kernel
theorem dX0_sumOf_7 : decode cX0_sumOf 7 = .ok (.aload_n 0, 1) := by decide +kernel
theorem dX0_sumOf_8 : decode cX0_sumOf 8 = .ok (.getfield 23, 3) := by decide +kernel
theorem dX0_sumOf_11 : decode cX0_sumOf 11 = .ok (.iload_n 1, 1) := by decide +kernel
theorem dX0_sumOf_12 : decode cX0_sumOf 12 = .ok (.iaload, 1) := by decide +kernel
theorem dX0_sumOf_13 : decode cX0_sumOf 13 = .ok (.if_icmp .ge 21, 3) := by decide +kernel
theorem dX0_sumOf_16 : decode cX0_sumOf 16 = .ok (.lload_n 2, 1) := by decide +kernel
theorem dX0_sumOf_17 : decode cX0_sumOf 17 = .ok (.aload_n 0, 1) := by decide +kernel
theorem dX0_sumOf_18 : decode cX0_sumOf 18 = .ok (.getfield 20, 3) := by decide +kernel
theorem dX0_sumOf_21 : decode cX0_sumOf 21 = .ok (.iload_n 1, 1) := by decide +kernel
theorem dX0_sumOf_22 : decode cX0_sumOf 22 = .ok (.aaload, 1) := by decide +kernel
theorem dX0_sumOf_23 : decode cX0_sumOf 23 = .ok (.iload 4, 2) := by decide +kernel
theorem dX0_sumOf_25 : decode cX0_sumOf 25 = .ok (.laload, 1) := by decide +kernel
theorem dX0_sumOf_26 : decode cX0_sumOf 26 = .ok (.ladd, 1) := by decide +kernel
theorem dX0_sumOf_27 : decode cX0_sumOf 27 = .ok (.lstore_n 2, 1) := by decide +kernel
theorem dX0_sumOf_28 : decode cX0_sumOf 28 = .ok (.iinc 4 1, 3) := by decide +kernel
theorem dX0_sumOf_31 : decode cX0_sumOf 31 = .ok (.goto (-26), 3) := by decide +kernel
theorem dX0_sumOf_34 : decode cX0_sumOf 34 = .ok (.lload_n 2, 1) := by decide +kernel
theorem dX0_sumOf_35 : decode cX0_sumOf 35 = .ok (.lreturn, 1) := by decide +kernel
set_option maxRecDepth 20000 in
theorem ggX0_giveByRemainders_X0_firstGreatestRemainder : GoodIn wsX0_giveByRemainders wsX0_firstGreatestRemainder := goodIn_r _ [9, 1, 3, 10, 11, 12, 13, 14, 15, 16, 17, 18, 19, 20, 21, 22] (by decide +kernel) (by decide +kernel)
set_option maxRecDepth 20000 in
theorem gX0_giveByRemainders_X0_firstGreatestRemainder : GoodIn wsX0_giveByRemainders (wsV RX0 176 RX0 yX0_firstGreatestRemainder wsX0_firstGreatestRemainder) := goodIn_app (goodIn_of _ (by decide +kernel)) ggX0_giveByRemainders_X0_firstGreatestRemainder
theorem dX0_giveByRemainders_0 : decode cX0_giveByRemainders 0 = .ok (.lload_n 3, 1) := by decide +kernel
theorem dX0_giveByRemainders_1 : decode cX0_giveByRemainders 1 = .ok (.lconst 1, 1) := by decide +kernel
theorem dX0_giveByRemainders_2 : decode cX0_giveByRemainders 2 = .ok (.lcmp, 1) := by decide +kernel
theorem dX0_giveByRemainders_3 : decode cX0_giveByRemainders 3 = .ok (.ifCond .ge 4, 3) := by decide +kernel
theorem dX0_giveByRemainders_6 : decode cX0_giveByRemainders 6 = .ok (.return_, 1) := by decide +kernel
theorem dX0_giveByRemainders_7 : decode cX0_giveByRemainders 7 = .ok (.iload_n 2, 1) := by decide +kernel
theorem dX0_giveByRemainders_8 : decode cX0_giveByRemainders 8 = .ok (.istore 5, 2) := by decide +kernel
theorem dX0_giveByRemainders_10 : decode cX0_giveByRemainders 10 = .ok (.iconst 0, 1) := by decide +kernel
theorem dX0_giveByRemainders_11 : decode cX0_giveByRemainders 11 = .ok (.istore 6, 2) := by decide +kernel
theorem dX0_giveByRemainders_13 : decode cX0_giveByRemainders 13 = .ok (.iload 6, 2) := by decide +kernel
theorem dX0_giveByRemainders_15 : decode cX0_giveByRemainders 15 = .ok (.aload_n 0, 1) := by decide +kernel
theorem dX0_giveByRemainders_16 : decode cX0_giveByRemainders 16 = .ok (.getfield 116, 3) := by decide +kernel
theorem dX0_giveByRemainders_19 : decode cX0_giveByRemainders 19 = .ok (.if_icmp .ge 54, 3) := by decide +kernel
theorem dX0_giveByRemainders_22 : decode cX0_giveByRemainders 22 = .ok (.aload_n 0, 1) := by decide +kernel
theorem dX0_giveByRemainders_23 : decode cX0_giveByRemainders 23 = .ok (.getfield 27, 3) := by decide +kernel
theorem dX0_giveByRemainders_26 : decode cX0_giveByRemainders 26 = .ok (.iload 6, 2) := by decide +kernel
theorem dX0_giveByRemainders_28 : decode cX0_giveByRemainders 28 = .ok (.iload_n 2, 1) := by decide +kernel
theorem dX0_giveByRemainders_29 : decode cX0_giveByRemainders 29 = .ok (.i2l, 1) := by decide +kernel
theorem dX0_giveByRemainders_30 : decode cX0_giveByRemainders 30 = .ok (.aload_n 1, 1) := by decide +kernel
theorem dX0_giveByRemainders_31 : decode cX0_giveByRemainders 31 = .ok (.iload 6, 2) := by decide +kernel
theorem dX0_giveByRemainders_33 : decode cX0_giveByRemainders 33 = .ok (.laload, 1) := by decide +kernel
theorem dX0_giveByRemainders_34 : decode cX0_giveByRemainders 34 = .ok (.lmul, 1) := by decide +kernel
theorem dX0_giveByRemainders_35 : decode cX0_giveByRemainders 35 = .ok (.lload_n 3, 1) := by decide +kernel
theorem dX0_giveByRemainders_36 : decode cX0_giveByRemainders 36 = .ok (.ldiv, 1) := by decide +kernel
theorem dX0_giveByRemainders_37 : decode cX0_giveByRemainders 37 = .ok (.l2i, 1) := by decide +kernel
theorem dX0_giveByRemainders_38 : decode cX0_giveByRemainders 38 = .ok (.iastore, 1) := by decide +kernel
theorem dX0_giveByRemainders_39 : decode cX0_giveByRemainders 39 = .ok (.aload_n 0, 1) := by decide +kernel
theorem dX0_giveByRemainders_40 : decode cX0_giveByRemainders 40 = .ok (.getfield 30, 3) := by decide +kernel
theorem dX0_giveByRemainders_43 : decode cX0_giveByRemainders 43 = .ok (.iload 6, 2) := by decide +kernel
theorem dX0_giveByRemainders_45 : decode cX0_giveByRemainders 45 = .ok (.iload_n 2, 1) := by decide +kernel
theorem dX0_giveByRemainders_46 : decode cX0_giveByRemainders 46 = .ok (.i2l, 1) := by decide +kernel
theorem dX0_giveByRemainders_47 : decode cX0_giveByRemainders 47 = .ok (.aload_n 1, 1) := by decide +kernel
theorem dX0_giveByRemainders_48 : decode cX0_giveByRemainders 48 = .ok (.iload 6, 2) := by decide +kernel
theorem dX0_giveByRemainders_50 : decode cX0_giveByRemainders 50 = .ok (.laload, 1) := by decide +kernel
theorem dX0_giveByRemainders_51 : decode cX0_giveByRemainders 51 = .ok (.lmul, 1) := by decide +kernel
theorem dX0_giveByRemainders_52 : decode cX0_giveByRemainders 52 = .ok (.lload_n 3, 1) := by decide +kernel
theorem dX0_giveByRemainders_53 : decode cX0_giveByRemainders 53 = .ok (.lrem, 1) := by decide +kernel
theorem dX0_giveByRemainders_54 : decode cX0_giveByRemainders 54 = .ok (.lastore, 1) := by decide +kernel
theorem dX0_giveByRemainders_55 : decode cX0_giveByRemainders 55 = .ok (.iload 5, 2) := by decide +kernel
theorem dX0_giveByRemainders_57 : decode cX0_giveByRemainders 57 = .ok (.aload_n 0, 1) := by decide +kernel
theorem dX0_giveByRemainders_58 : decode cX0_giveByRemainders 58 = .ok (.getfield 27, 3) := by decide +kernel
theorem dX0_giveByRemainders_61 : decode cX0_giveByRemainders 61 = .ok (.iload 6, 2) := by decide +kernel
theorem dX0_giveByRemainders_63 : decode cX0_giveByRemainders 63 = .ok (.iaload, 1) := by decide +kernel
theorem dX0_giveByRemainders_64 : decode cX0_giveByRemainders 64 = .ok (.isub, 1) := by decide +kernel
theorem dX0_giveByRemainders_65 : decode cX0_giveByRemainders 65 = .ok (.istore 5, 2) := by decide +kernel
theorem dX0_giveByRemainders_67 : decode cX0_giveByRemainders 67 = .ok (.iinc 6 1, 3) := by decide +kernel
theorem dX0_giveByRemainders_70 : decode cX0_giveByRemainders 70 = .ok (.goto (-57), 3) := by decide +kernel
theorem dX0_giveByRemainders_73 : decode cX0_giveByRemainders 73 = .ok (.iconst 0, 1) := by decide +kernel
theorem dX0_giveByRemainders_74 : decode cX0_giveByRemainders 74 = .ok (.istore 6, 2) := by decide +kernel
theorem dX0_giveByRemainders_76 : decode cX0_giveByRemainders 76 = .ok (.iload 6, 2) := by decide +kernel
theorem dX0_giveByRemainders_78 : decode cX0_giveByRemainders 78 = .ok (.iload 5, 2) := by decide +kernel
theorem dX0_giveByRemainders_80 : decode cX0_giveByRemainders 80 = .ok (.if_icmp .ge 36, 3) := by decide +kernel
theorem dX0_giveByRemainders_83 : decode cX0_giveByRemainders 83 = .ok (.aload_n 0, 1) := by decide +kernel
theorem dX0_giveByRemainders_84 : decode cX0_giveByRemainders 84 = .ok (.invokevirtual 176, 3) := by decide +kernel
theorem dX0_giveByRemainders_87 : decode cX0_giveByRemainders 87 = .ok (.istore 7, 2) := by decide +kernel
theorem dX0_giveByRemainders_89 : decode cX0_giveByRemainders 89 = .ok (.aload_n 0, 1) := by decide +kernel
theorem dX0_giveByRemainders_90 : decode cX0_giveByRemainders 90 = .ok (.getfield 27, 3) := by decide +kernel
theorem dX0_giveByRemainders_93 : decode cX0_giveByRemainders 93 = .ok (.iload 7, 2) := by decide +kernel
theorem dX0_giveByRemainders_95 : decode cX0_giveByRemainders 95 = .ok (.dup2, 1) := by decide +kernel
theorem dX0_giveByRemainders_96 : decode cX0_giveByRemainders 96 = .ok (.iaload, 1) := by decide +kernel
theorem dX0_giveByRemainders_97 : decode cX0_giveByRemainders 97 = .ok (.iconst 1, 1) := by decide +kernel
theorem dX0_giveByRemainders_98 : decode cX0_giveByRemainders 98 = .ok (.iadd, 1) := by decide +kernel
theorem dX0_giveByRemainders_99 : decode cX0_giveByRemainders 99 = .ok (.iastore, 1) := by decide +kernel
theorem dX0_giveByRemainders_100 : decode cX0_giveByRemainders 100 = .ok (.aload_n 0, 1) := by decide +kernel
theorem dX0_giveByRemainders_101 : decode cX0_giveByRemainders 101 = .ok (.getfield 30, 3) := by decide +kernel
theorem dX0_giveByRemainders_104 : decode cX0_giveByRemainders 104 = .ok (.iload 7, 2) := by decide +kernel
theorem dX0_giveByRemainders_106 : decode cX0_giveByRemainders 106 = .ok (.ldc2_w 108, 3) := by decide +kernel
theorem dX0_giveByRemainders_109 : decode cX0_giveByRemainders 109 = .ok (.lastore, 1) := by decide +kernel
