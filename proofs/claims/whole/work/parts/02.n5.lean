theorem dX7_cost_66 : decode cX7_cost 66 = .ok (.iload_n 3, 1) := by decide +kernel
theorem dX7_cost_67 : decode cX7_cost 67 = .ok (.invokevirtual 267, 3) := by decide +kernel
theorem dX7_cost_70 : decode cX7_cost 70 = .ok (.istore 7, 2) := by decide +kernel
theorem dX7_cost_72 : decode cX7_cost 72 = .ok (.aload_n 0, 1) := by decide +kernel
theorem dX7_cost_73 : decode cX7_cost 73 = .ok (.getfield 28, 3) := by decide +kernel
theorem dX7_cost_76 : decode cX7_cost 76 = .ok (.iload_n 1, 1) := by decide +kernel
theorem dX7_cost_77 : decode cX7_cost 77 = .ok (.iload 6, 2) := by decide +kernel
theorem dX7_cost_79 : decode cX7_cost 79 = .ok (.iastore, 1) := by decide +kernel
theorem dX7_cost_80 : decode cX7_cost 80 = .ok (.iload 5, 2) := by decide +kernel
theorem dX7_cost_82 : decode cX7_cost 82 = .ok (.iload 7, 2) := by decide +kernel
theorem dX7_cost_84 : decode cX7_cost 84 = .ok (.isub, 1) := by decide +kernel
theorem dX7_cost_85 : decode cX7_cost 85 = .ok (.ireturn, 1) := by decide +kernel
theorem dX7_liesNow_0 : decode cX7_liesNow 0 = .ok (.iload_n 2, 1) := by decide +kernel
theorem dX7_liesNow_1 : decode cX7_liesNow 1 = .ok (.ifCond .ne 4, 3) := by decide +kernel
theorem dX7_liesNow_4 : decode cX7_liesNow 4 = .ok (.return_, 1) := by decide +kernel
theorem dX7_liesNow_5 : decode cX7_liesNow 5 = .ok (.aload_n 0, 1) := by decide +kernel
theorem dX7_liesNow_6 : decode cX7_liesNow 6 = .ok (.getfield 19, 3) := by decide +kernel
theorem dX7_liesNow_9 : decode cX7_liesNow 9 = .ok (.iload_n 1, 1) := by decide +kernel
theorem dX7_liesNow_10 : decode cX7_liesNow 10 = .ok (.iconst 4, 1) := by decide +kernel
theorem dX7_liesNow_11 : decode cX7_liesNow 11 = .ok (.iastore, 1) := by decide +kernel
theorem dX7_liesNow_12 : decode cX7_liesNow 12 = .ok (.aload_n 0, 1) := by decide +kernel
theorem dX7_liesNow_13 : decode cX7_liesNow 13 = .ok (.getfield 22, 3) := by decide +kernel
theorem dX7_liesNow_16 : decode cX7_liesNow 16 = .ok (.iload_n 1, 1) := by decide +kernel
theorem dX7_liesNow_17 : decode cX7_liesNow 17 = .ok (.iconst 5, 1) := by decide +kernel
theorem dX7_liesNow_18 : decode cX7_liesNow 18 = .ok (.iastore, 1) := by decide +kernel
theorem dX7_liesNow_19 : decode cX7_liesNow 19 = .ok (.return_, 1) := by decide +kernel
set_option maxRecDepth 20000 in
theorem ggX7_two_X7_isOne : GoodIn wsX7_two wsX7_isOne := goodIn_r _ [6, 7, 108, 109, 110, 111, 112, 113, 114, 115, 116, 117, 118, 119, 120, 121, 122, 123, 124, 125, 126, 127, 128, 129, 130, 131, 132, 133] (by decide +kernel) (by decide +kernel)
set_option maxRecDepth 20000 in
theorem gX7_two_X7_isOne : GoodIn wsX7_two (wsV RX7 120 RX7 yX7_isOne wsX7_isOne) := goodIn_app (goodIn_of _ (by decide +kernel)) ggX7_two_X7_isOne
set_option maxRecDepth 20000 in
theorem ggX7_two_X7_bound : GoodIn wsX7_two wsX7_bound := goodIn_r _ [10] (by decide +kernel) (by decide +kernel)
set_option maxRecDepth 20000 in
theorem gX7_two_X7_bound : GoodIn wsX7_two (va_wsS RX7 68 yX7_bound wsX7_bound) := goodIn_app (goodIn_of _ (by decide +kernel)) ggX7_two_X7_bound
set_option maxRecDepth 20000 in
theorem ggX7_two_X7_no : GoodIn wsX7_two wsX7_no := goodIn_r _ [14, 15, 108, 109, 110, 111, 112, 113, 114, 115, 116, 117, 118, 119, 120, 121, 122, 123, 124, 125, 126, 127, 128, 129, 130, 131, 132, 133] (by decide +kernel) (by decide +kernel)
set_option maxRecDepth 20000 in
theorem gX7_two_X7_no : GoodIn wsX7_two (wsV RX7 75 RX7 yX7_no wsX7_no) := goodIn_app (goodIn_of _ (by decide +kernel)) ggX7_two_X7_no
set_option maxRecDepth 20000 in
theorem ggX7_two_X7_changes : GoodIn wsX7_two wsX7_changes := goodIn_r _ [19, 20, 21, 22, 5, 23, 24, 25, 26, 27, 28, 29, 30, 31, 32, 7, 33, 34, 35, 36, 37, 38, 39, 40, 41, 42, 43, 108, 109, 110, 111, 112, 113, 114, 115, 116, 117, 118, 119, 120, 121, 122, 123, 124, 125, 126, 127, 128, 129, 130, 131, 132, 133] (by decide +kernel) (by decide +kernel)
set_option maxRecDepth 20000 in
theorem gX7_two_X7_changes : GoodIn wsX7_two (wsV RX7 228 RX7 yX7_changes wsX7_changes) := goodIn_app (goodIn_of _ (by decide +kernel)) ggX7_two_X7_changes
set_option maxRecDepth 20000 in
theorem ggX7_two_X7_liesNow : GoodIn wsX7_two wsX7_liesNow := goodIn_r _ [47, 28, 29, 108, 109, 110, 111, 112, 113, 114, 115, 116, 117, 118, 119, 120, 121, 122, 123, 124, 125, 126, 127, 128, 129, 130, 131, 132, 133] (by decide +kernel) (by decide +kernel)
set_option maxRecDepth 20000 in
theorem gX7_two_X7_liesNow : GoodIn wsX7_two (wsV RX7 270 RX7 yX7_liesNow wsX7_liesNow) := goodIn_app (goodIn_of _ (by decide +kernel)) ggX7_two_X7_liesNow
set_option maxRecDepth 20000 in
theorem ggX7_two_X7_allTrue : GoodIn wsX7_two wsX7_allTrue := goodIn_r _ [51, 32, 52, 53, 54, 5, 55, 20, 21, 22, 23, 24, 25, 26, 27, 28, 29, 30, 31, 7, 33, 34, 35, 36, 37, 38, 39, 40, 41, 42, 43, 56, 57, 58, 59, 60, 61, 62, 63, 64, 65, 66, 67, 68, 69, 70, 71, 72, 73, 74, 75, 76, 77, 78, 79, 80, 81, 82, 83, 84, 85, 86, 87, 88, 89, 90, 91, 92, 93, 94, 95, 96, 97, 98, 99, 100, 101, 102, 103, 108, 109, 110, 111, 112, 113, 114, 115, 116, 117, 118, 119, 120, 121, 122, 123, 124, 125, 126, 127, 128, 129, 130, 131, 132, 133] (by decide +kernel) (by decide +kernel)
set_option maxRecDepth 20000 in
theorem gX7_two_X7_allTrue : GoodIn wsX7_two (wsV RX7 222 RX7 yX7_allTrue wsX7_allTrue) := goodIn_app (goodIn_of _ (by decide +kernel)) ggX7_two_X7_allTrue
set_option maxRecDepth 20000 in
theorem ggX7_two_X7_changesBack : GoodIn wsX7_two wsX7_changesBack := goodIn_r _ [107, 20, 21, 22, 5, 23, 24, 25, 26, 27, 28, 29, 30, 31, 32, 7, 33, 34, 35, 36, 37, 38, 39, 40, 41, 42, 43, 108, 109, 110, 111, 112, 113, 114, 115, 116, 117, 118, 119, 120, 121, 122, 123, 124, 125, 126, 127, 128, 129, 130, 131, 132, 133] (by decide +kernel) (by decide +kernel)
set_option maxRecDepth 20000 in
theorem gX7_two_X7_changesBack : GoodIn wsX7_two (wsV RX7 237 RX7 yX7_changesBack wsX7_changesBack) := goodIn_app (goodIn_of _ (by decide +kernel)) ggX7_two_X7_changesBack
theorem dX7_two_0 : decode cX7_two 0 = .ok (.aload_n 0, 1) := by decide +kernel
theorem dX7_two_1 : decode cX7_two 1 = .ok (.iload_n 1, 1) := by decide +kernel
theorem dX7_two_2 : decode cX7_two 2 = .ok (.invokevirtual 120, 3) := by decide +kernel
theorem dX7_two_5 : decode cX7_two 5 = .ok (.ifCond .eq 16, 3) := by decide +kernel
theorem dX7_two_8 : decode cX7_two 8 = .ok (.aload_n 0, 1) := by decide +kernel
theorem dX7_two_9 : decode cX7_two 9 = .ok (.iload_n 2, 1) := by decide +kernel
theorem dX7_two_10 : decode cX7_two 10 = .ok (.invokevirtual 120, 3) := by decide +kernel
theorem dX7_two_13 : decode cX7_two 13 = .ok (.ifCond .eq 8, 3) := by decide +kernel
theorem dX7_two_16 : decode cX7_two 16 = .ok (.iload_n 1, 1) := by decide +kernel
theorem dX7_two_17 : decode cX7_two 17 = .ok (.iload_n 2, 1) := by decide +kernel
theorem dX7_two_18 : decode cX7_two 18 = .ok (.if_icmp .ne 7, 3) := by decide +kernel
theorem dX7_two_21 : decode cX7_two 21 = .ok (.iconst (-1), 1) := by decide +kernel
theorem dX7_two_22 : decode cX7_two 22 = .ok (.goto 10, 3) := by decide +kernel
theorem dX7_two_25 : decode cX7_two 25 = .ok (.iload_n 3, 1) := by decide +kernel
theorem dX7_two_26 : decode cX7_two 26 = .ok (.iconst 1, 1) := by decide +kernel
theorem dX7_two_27 : decode cX7_two 27 = .ok (.bipush 20, 2) := by decide +kernel
theorem dX7_two_29 : decode cX7_two 29 = .ok (.invokestatic 68, 3) := by decide +kernel
theorem dX7_two_32 : decode cX7_two 32 = .ok (.istore 4, 2) := by decide +kernel
theorem dX7_two_34 : decode cX7_two 34 = .ok (.iload 4, 2) := by decide +kernel
theorem dX7_two_36 : decode cX7_two 36 = .ok (.ifCond .eq 10, 3) := by decide +kernel
theorem dX7_two_39 : decode cX7_two 39 = .ok (.aload_n 0, 1) := by decide +kernel
theorem dX7_two_40 : decode cX7_two 40 = .ok (.iload 4, 2) := by decide +kernel
theorem dX7_two_42 : decode cX7_two 42 = .ok (.invokevirtual 75, 3) := by decide +kernel
theorem dX7_two_45 : decode cX7_two 45 = .ok (.ireturn, 1) := by decide +kernel
theorem dX7_two_46 : decode cX7_two 46 = .ok (.iconst 0, 1) := by decide +kernel
theorem dX7_two_47 : decode cX7_two 47 = .ok (.istore 5, 2) := by decide +kernel
theorem dX7_two_49 : decode cX7_two 49 = .ok (.iload 5, 2) := by decide +kernel
theorem dX7_two_51 : decode cX7_two 51 = .ok (.iconst 4, 1) := by decide +kernel
theorem dX7_two_52 : decode cX7_two 52 = .ok (.if_icmp .ge 47, 3) := by decide +kernel
theorem dX7_two_55 : decode cX7_two 55 = .ok (.aload_n 0, 1) := by decide +kernel
theorem dX7_two_56 : decode cX7_two 56 = .ok (.invokevirtual 228, 3) := by decide +kernel
theorem dX7_two_59 : decode cX7_two 59 = .ok (.aload_n 0, 1) := by decide +kernel
theorem dX7_two_60 : decode cX7_two 60 = .ok (.iload_n 1, 1) := by decide +kernel
theorem dX7_two_61 : decode cX7_two 61 = .ok (.iload 5, 2) := by decide +kernel
theorem dX7_two_63 : decode cX7_two 63 = .ok (.iconst 2, 1) := by decide +kernel
theorem dX7_two_64 : decode cX7_two 64 = .ok (.idiv, 1) := by decide +kernel
theorem dX7_two_65 : decode cX7_two 65 = .ok (.invokevirtual 270, 3) := by decide +kernel
theorem dX7_two_68 : decode cX7_two 68 = .ok (.aload_n 0, 1) := by decide +kernel
theorem dX7_two_69 : decode cX7_two 69 = .ok (.iload_n 2, 1) := by decide +kernel
theorem dX7_two_70 : decode cX7_two 70 = .ok (.iload 5, 2) := by decide +kernel
theorem dX7_two_72 : decode cX7_two 72 = .ok (.iconst 2, 1) := by decide +kernel
theorem dX7_two_73 : decode cX7_two 73 = .ok (.irem, 1) := by decide +kernel
theorem dX7_two_74 : decode cX7_two 74 = .ok (.invokevirtual 270, 3) := by decide +kernel
theorem dX7_two_77 : decode cX7_two 77 = .ok (.aload_n 0, 1) := by decide +kernel
theorem dX7_two_78 : decode cX7_two 78 = .ok (.getfield 50, 3) := by decide +kernel
theorem dX7_two_81 : decode cX7_two 81 = .ok (.iload 5, 2) := by decide +kernel
theorem dX7_two_83 : decode cX7_two 83 = .ok (.aload_n 0, 1) := by decide +kernel
theorem dX7_two_84 : decode cX7_two 84 = .ok (.iload_n 3, 1) := by decide +kernel
theorem dX7_two_85 : decode cX7_two 85 = .ok (.invokevirtual 222, 3) := by decide +kernel
theorem dX7_two_88 : decode cX7_two 88 = .ok (.iastore, 1) := by decide +kernel
theorem dX7_two_89 : decode cX7_two 89 = .ok (.aload_n 0, 1) := by decide +kernel
theorem dX7_two_90 : decode cX7_two 90 = .ok (.invokevirtual 237, 3) := by decide +kernel
theorem dX7_two_93 : decode cX7_two 93 = .ok (.iinc 5 1, 3) := by decide +kernel
theorem dX7_two_96 : decode cX7_two 96 = .ok (.goto (-47), 3) := by decide +kernel
theorem dX7_two_99 : decode cX7_two 99 = .ok (.iconst 0, 1) := by decide +kernel
theorem dX7_two_100 : decode cX7_two 100 = .ok (.istore 5, 2) := by decide +kernel
theorem dX7_two_102 : decode cX7_two 102 = .ok (.iload 5, 2) := by decide +kernel
theorem dX7_two_104 : decode cX7_two 104 = .ok (.iconst 4, 1) := by decide +kernel
theorem dX7_two_105 : decode cX7_two 105 = .ok (.if_icmp .ge 60, 3) := by decide +kernel
theorem dX7_two_108 : decode cX7_two 108 = .ok (.aload_n 0, 1) := by decide +kernel
theorem dX7_two_109 : decode cX7_two 109 = .ok (.getfield 50, 3) := by decide +kernel
theorem dX7_two_112 : decode cX7_two 112 = .ok (.iload 5, 2) := by decide +kernel
theorem dX7_two_114 : decode cX7_two 114 = .ok (.iconst 2, 1) := by decide +kernel
theorem dX7_two_115 : decode cX7_two 115 = .ok (.ixor, 1) := by decide +kernel
theorem dX7_two_116 : decode cX7_two 116 = .ok (.iaload, 1) := by decide +kernel
theorem dX7_two_117 : decode cX7_two 117 = .ok (.aload_n 0, 1) := by decide +kernel
theorem dX7_two_118 : decode cX7_two 118 = .ok (.getfield 50, 3) := by decide +kernel
theorem dX7_two_121 : decode cX7_two 121 = .ok (.iload 5, 2) := by decide +kernel
theorem dX7_two_123 : decode cX7_two 123 = .ok (.iaload, 1) := by decide +kernel
theorem dX7_two_124 : decode cX7_two 124 = .ok (.if_icmp .gt 35, 3) := by decide +kernel
theorem dX7_two_127 : decode cX7_two 127 = .ok (.aload_n 0, 1) := by decide +kernel
theorem dX7_two_128 : decode cX7_two 128 = .ok (.getfield 50, 3) := by decide +kernel
theorem dX7_two_131 : decode cX7_two 131 = .ok (.iload 5, 2) := by decide +kernel
theorem dX7_two_133 : decode cX7_two 133 = .ok (.iconst 1, 1) := by decide +kernel
theorem dX7_two_134 : decode cX7_two 134 = .ok (.ixor, 1) := by decide +kernel
theorem dX7_two_135 : decode cX7_two 135 = .ok (.iaload, 1) := by decide +kernel
theorem dX7_two_136 : decode cX7_two 136 = .ok (.aload_n 0, 1) := by decide +kernel
theorem dX7_two_137 : decode cX7_two 137 = .ok (.getfield 50, 3) := by decide +kernel
theorem dX7_two_140 : decode cX7_two 140 = .ok (.iload 5, 2) := by decide +kernel
theorem dX7_two_142 : decode cX7_two 142 = .ok (.iaload, 1) := by decide +kernel
theorem dX7_two_143 : decode cX7_two 143 = .ok (.if_icmp .lt 16, 3) := by decide +kernel
theorem dX7_two_146 : decode cX7_two 146 = .ok (.bipush 10, 2) := by decide +kernel
theorem dX7_two_148 : decode cX7_two 148 = .ok (.iload 5, 2) := by decide +kernel
theorem dX7_two_150 : decode cX7_two 150 = .ok (.iconst 2, 1) := by decide +kernel
theorem dX7_two_151 : decode cX7_two 151 = .ok (.idiv, 1) := by decide +kernel
theorem dX7_two_152 : decode cX7_two 152 = .ok (.imul, 1) := by decide +kernel
theorem dX7_two_153 : decode cX7_two 153 = .ok (.iload 5, 2) := by decide +kernel
theorem dX7_two_155 : decode cX7_two 155 = .ok (.iconst 2, 1) := by decide +kernel
theorem dX7_two_156 : decode cX7_two 156 = .ok (.irem, 1) := by decide +kernel
theorem dX7_two_157 : decode cX7_two 157 = .ok (.iadd, 1) := by decide +kernel
theorem dX7_two_158 : decode cX7_two 158 = .ok (.ireturn, 1) := by decide +kernel
theorem dX7_two_159 : decode cX7_two 159 = .ok (.iinc 5 1, 3) := by decide +kernel
theorem dX7_two_162 : decode cX7_two 162 = .ok (.goto (-60), 3) := by decide +kernel
theorem dX7_two_165 : decode cX7_two 165 = .ok (.bipush (-9), 2) := by decide +kernel
theorem dX7_two_167 : decode cX7_two 167 = .ok (.ireturn, 1) := by decide +kernel
theorem dX7_divisor_0 : decode cX7_divisor 0 = .ok (.lload_n 0, 1) := by decide +kernel
theorem dX7_divisor_1 : decode cX7_divisor 1 = .ok (.lstore 4, 2) := by decide +kernel
theorem dX7_divisor_3 : decode cX7_divisor 3 = .ok (.lload_n 2, 1) := by decide +kernel
theorem dX7_divisor_4 : decode cX7_divisor 4 = .ok (.lstore 6, 2) := by decide +kernel
theorem dX7_divisor_6 : decode cX7_divisor 6 = .ok (.lload 6, 2) := by decide +kernel
theorem dX7_divisor_8 : decode cX7_divisor 8 = .ok (.lconst 0, 1) := by decide +kernel
theorem dX7_divisor_9 : decode cX7_divisor 9 = .ok (.lcmp, 1) := by decide +kernel
theorem dX7_divisor_10 : decode cX7_divisor 10 = .ok (.ifCond .eq 21, 3) := by decide +kernel
theorem dX7_divisor_13 : decode cX7_divisor 13 = .ok (.lload 4, 2) := by decide +kernel
theorem dX7_divisor_15 : decode cX7_divisor 15 = .ok (.lload 6, 2) := by decide +kernel
theorem dX7_divisor_17 : decode cX7_divisor 17 = .ok (.lrem, 1) := by decide +kernel
theorem dX7_divisor_18 : decode cX7_divisor 18 = .ok (.lstore 8, 2) := by decide +kernel
theorem dX7_divisor_20 : decode cX7_divisor 20 = .ok (.lload 6, 2) := by decide +kernel
theorem dX7_divisor_22 : decode cX7_divisor 22 = .ok (.lstore 4, 2) := by decide +kernel
theorem dX7_divisor_24 : decode cX7_divisor 24 = .ok (.lload 8, 2) := by decide +kernel
theorem dX7_divisor_26 : decode cX7_divisor 26 = .ok (.lstore 6, 2) := by decide +kernel
theorem dX7_divisor_28 : decode cX7_divisor 28 = .ok (.goto (-22), 3) := by decide +kernel
theorem dX7_divisor_31 : decode cX7_divisor 31 = .ok (.lload 4, 2) := by decide +kernel
theorem dX7_divisor_33 : decode cX7_divisor 33 = .ok (.lreturn, 1) := by decide +kernel
set_option maxRecDepth 20000 in
theorem ggX7_partOf_X7_divisor : GoodIn wsX7_partOf wsX7_divisor := goodIn_r _ [4] (by decide +kernel) (by decide +kernel)
set_option maxRecDepth 20000 in
theorem gX7_partOf_X7_divisor : GoodIn wsX7_partOf (va_wsS RX7 273 yX7_divisor wsX7_divisor) := goodIn_app (goodIn_of _ (by decide +kernel)) ggX7_partOf_X7_divisor
theorem dX7_partOf_0 : decode cX7_partOf 0 = .ok (.iload 4, 2) := by decide +kernel
theorem dX7_partOf_2 : decode cX7_partOf 2 = .ok (.ifCond .ne 7, 3) := by decide +kernel
theorem dX7_partOf_5 : decode cX7_partOf 5 = .ok (.lload_n 0, 1) := by decide +kernel
theorem dX7_partOf_6 : decode cX7_partOf 6 = .ok (.goto 4, 3) := by decide +kernel
theorem dX7_partOf_9 : decode cX7_partOf 9 = .ok (.lload_n 2, 1) := by decide +kernel
theorem dX7_partOf_10 : decode cX7_partOf 10 = .ok (.lload_n 0, 1) := by decide +kernel
theorem dX7_partOf_11 : decode cX7_partOf 11 = .ok (.lload_n 2, 1) := by decide +kernel
theorem dX7_partOf_12 : decode cX7_partOf 12 = .ok (.invokestatic 273, 3) := by decide +kernel
theorem dX7_partOf_15 : decode cX7_partOf 15 = .ok (.ldiv, 1) := by decide +kernel
theorem dX7_partOf_16 : decode cX7_partOf 16 = .ok (.lreturn, 1) := by decide +kernel
set_option maxRecDepth 20000 in
theorem ggX7_fog_X7_isBell : GoodIn wsX7_fog wsX7_isBell := goodIn_r _ [5, 6, 81, 82, 83, 84, 85, 86, 87, 88, 89, 90, 91, 92, 93, 94, 95, 96, 97, 98, 99, 100, 101, 102, 103, 104, 105, 106] (by decide +kernel) (by decide +kernel)
set_option maxRecDepth 20000 in
theorem gX7_fog_X7_isBell : GoodIn wsX7_fog (wsV RX7 187 RX7 yX7_isBell wsX7_isBell) := goodIn_app (goodIn_of _ (by decide +kernel)) ggX7_fog_X7_isBell
set_option maxRecDepth 20000 in
theorem ggX7_fog_X7_isIn : GoodIn wsX7_fog wsX7_isIn := goodIn_r _ [9] (by decide +kernel) (by decide +kernel)
set_option maxRecDepth 20000 in
theorem gX7_fog_X7_isIn : GoodIn wsX7_fog (va_wsS RX7 86 yX7_isIn wsX7_isIn) := goodIn_app (goodIn_of _ (by decide +kernel)) ggX7_fog_X7_isIn
set_option maxRecDepth 20000 in
theorem ggX7_fog_X7_lowest : GoodIn wsX7_fog wsX7_lowest := goodIn_r _ [13, 14, 15, 81, 82, 83, 84, 85, 86, 87, 88, 89, 90, 91, 92, 93, 94, 95, 96, 97, 98, 99, 100, 101, 102, 103, 104, 105, 106] (by decide +kernel) (by decide +kernel)
set_option maxRecDepth 20000 in
theorem gX7_fog_X7_lowest : GoodIn wsX7_fog (wsV RX7 277 RX7 yX7_lowest wsX7_lowest) := goodIn_app (goodIn_of _ (by decide +kernel)) ggX7_fog_X7_lowest
set_option maxRecDepth 20000 in
theorem ggX7_fog_X7_thinks : GoodIn wsX7_fog wsX7_thinks := goodIn_r _ [19, 20, 21, 22, 4, 23, 24, 25, 26, 27, 28, 29, 30, 31, 6, 32, 33, 34, 35, 36, 37, 38, 39, 40, 41, 42, 43, 81, 82, 83, 84, 85, 86, 87, 88, 89, 90, 91, 92, 93, 94, 95, 96, 97, 98, 99, 100, 101, 102, 103, 104, 105, 106] (by decide +kernel) (by decide +kernel)
set_option maxRecDepth 20000 in
theorem gX7_fog_X7_thinks : GoodIn wsX7_fog (wsV RX7 200 RX7 yX7_thinks wsX7_thinks) := goodIn_app (goodIn_of _ (by decide +kernel)) ggX7_fog_X7_thinks
set_option maxRecDepth 20000 in
theorem ggX7_fog_X7_has : GoodIn wsX7_fog wsX7_has := goodIn_r _ [46] (by decide +kernel) (by decide +kernel)
set_option maxRecDepth 20000 in
theorem gX7_fog_X7_has : GoodIn wsX7_fog (va_wsS RX7 231 yX7_has wsX7_has) := goodIn_app (goodIn_of _ (by decide +kernel)) ggX7_fog_X7_has
set_option maxRecDepth 20000 in
theorem ggX7_fog_X7_goesDay : GoodIn wsX7_fog wsX7_goesDay := goodIn_r _ [50, 33, 32, 31, 51, 52, 53, 4, 54, 30, 34, 55, 56, 57, 81, 82, 83, 84, 85, 86, 87, 88, 89, 90, 91, 92, 93, 94, 95, 96, 97, 98, 99, 100, 101, 102, 103, 104, 105, 106] (by decide +kernel) (by decide +kernel)
set_option maxRecDepth 20000 in
theorem gX7_fog_X7_goesDay : GoodIn wsX7_fog (wsV RX7 183 RX7 yX7_goesDay wsX7_goesDay) := goodIn_app (goodIn_of _ (by decide +kernel)) ggX7_fog_X7_goesDay
set_option maxRecDepth 20000 in
theorem ggX7_fog_X7_hearers : GoodIn wsX7_fog wsX7_hearers := goodIn_r _ [61, 32, 62, 63, 64, 4, 65, 66, 31, 30, 28, 26, 67, 68, 69, 70, 29, 81, 82, 83, 84, 85, 86, 87, 88, 89, 90, 91, 92, 93, 94, 95, 96, 97, 98, 99, 100, 101, 102, 103, 104, 105, 106] (by decide +kernel) (by decide +kernel)
set_option maxRecDepth 20000 in
theorem gX7_fog_X7_hearers : GoodIn wsX7_fog (wsV RX7 167 RX7 yX7_hearers wsX7_hearers) := goodIn_app (goodIn_of _ (by decide +kernel)) ggX7_fog_X7_hearers
set_option maxRecDepth 20000 in
theorem ggX7_fog_X7_forgets : GoodIn wsX7_fog wsX7_forgets := goodIn_r _ [74, 20, 21, 22, 4, 23, 24, 25, 26, 27, 28, 29, 30, 31, 6, 32, 33, 34, 35, 36, 37, 38, 39, 40, 41, 42, 43, 81, 82, 83, 84, 85, 86, 87, 88, 89, 90, 91, 92, 93, 94, 95, 96, 97, 98, 99, 100, 101, 102, 103, 104, 105, 106] (by decide +kernel) (by decide +kernel)
set_option maxRecDepth 20000 in
theorem gX7_fog_X7_forgets : GoodIn wsX7_fog (wsV RX7 203 RX7 yX7_forgets wsX7_forgets) := goodIn_app (goodIn_of _ (by decide +kernel)) ggX7_fog_X7_forgets
set_option maxRecDepth 20000 in
theorem ggX7_fog_X7_partOf : GoodIn wsX7_fog wsX7_partOf := goodIn_r _ [77, 78, 79, 4, 80] (by decide +kernel) (by decide +kernel)
set_option maxRecDepth 20000 in
theorem gX7_fog_X7_partOf : GoodIn wsX7_fog (va_wsS RX7 281 yX7_partOf wsX7_partOf) := goodIn_app (goodIn_of _ (by decide +kernel)) ggX7_fog_X7_partOf
theorem dX7_fog_0 : decode cX7_fog 0 = .ok (.aload_n 0, 1) := by decide +kernel
theorem dX7_fog_1 : decode cX7_fog 1 = .ok (.iload_n 1, 1) := by decide +kernel
theorem dX7_fog_2 : decode cX7_fog 2 = .ok (.invokevirtual 187, 3) := by decide +kernel
theorem dX7_fog_5 : decode cX7_fog 5 = .ok (.ifCond .ne 7, 3) := by decide +kernel
theorem dX7_fog_8 : decode cX7_fog 8 = .ok (.iconst (-1), 1) := by decide +kernel
theorem dX7_fog_9 : decode cX7_fog 9 = .ok (.goto 50, 3) := by decide +kernel
theorem dX7_fog_12 : decode cX7_fog 12 = .ok (.iload_n 2, 1) := by decide +kernel
theorem dX7_fog_13 : decode cX7_fog 13 = .ok (.ifCond .lt 8, 3) := by decide +kernel
theorem dX7_fog_16 : decode cX7_fog 16 = .ok (.iload_n 3, 1) := by decide +kernel
theorem dX7_fog_17 : decode cX7_fog 17 = .ok (.iconst 2, 1) := by decide +kernel
theorem dX7_fog_18 : decode cX7_fog 18 = .ok (.if_icmp .ge 8, 3) := by decide +kernel
theorem dX7_fog_21 : decode cX7_fog 21 = .ok (.bipush (-4), 2) := by decide +kernel
theorem dX7_fog_23 : decode cX7_fog 23 = .ok (.goto 36, 3) := by decide +kernel
theorem dX7_fog_26 : decode cX7_fog 26 = .ok (.iload_n 2, 1) := by decide +kernel
theorem dX7_fog_27 : decode cX7_fog 27 = .ok (.bipush 7, 2) := by decide +kernel
theorem dX7_fog_29 : decode cX7_fog 29 = .ok (.if_icmp .gt 9, 3) := by decide +kernel
theorem dX7_fog_32 : decode cX7_fog 32 = .ok (.iload_n 3, 1) := by decide +kernel
theorem dX7_fog_33 : decode cX7_fog 33 = .ok (.bipush 20, 2) := by decide +kernel
theorem dX7_fog_35 : decode cX7_fog 35 = .ok (.if_icmp .le 8, 3) := by decide +kernel
theorem dX7_fog_38 : decode cX7_fog 38 = .ok (.bipush (-6), 2) := by decide +kernel
theorem dX7_fog_40 : decode cX7_fog 40 = .ok (.goto 19, 3) := by decide +kernel
theorem dX7_fog_43 : decode cX7_fog 43 = .ok (.iload 4, 2) := by decide +kernel
theorem dX7_fog_45 : decode cX7_fog 45 = .ok (.iconst 0, 1) := by decide +kernel
theorem dX7_fog_46 : decode cX7_fog 46 = .ok (.iconst 1, 1) := by decide +kernel
theorem dX7_fog_47 : decode cX7_fog 47 = .ok (.invokestatic 86, 3) := by decide +kernel
theorem dX7_fog_50 : decode cX7_fog 50 = .ok (.ifCond .ne 8, 3) := by decide +kernel
theorem dX7_fog_53 : decode cX7_fog 53 = .ok (.bipush (-2), 2) := by decide +kernel
theorem dX7_fog_55 : decode cX7_fog 55 = .ok (.goto 4, 3) := by decide +kernel
theorem dX7_fog_58 : decode cX7_fog 58 = .ok (.iconst 0, 1) := by decide +kernel
theorem dX7_fog_59 : decode cX7_fog 59 = .ok (.istore 5, 2) := by decide +kernel
theorem dX7_fog_61 : decode cX7_fog 61 = .ok (.iload 5, 2) := by decide +kernel
theorem dX7_fog_63 : decode cX7_fog 63 = .ok (.ifCond .eq 10, 3) := by decide +kernel
theorem dX7_fog_66 : decode cX7_fog 66 = .ok (.aload_n 0, 1) := by decide +kernel
theorem dX7_fog_67 : decode cX7_fog 67 = .ok (.iload 5, 2) := by decide +kernel
theorem dX7_fog_69 : decode cX7_fog 69 = .ok (.invokevirtual 277, 3) := by decide +kernel
theorem dX7_fog_72 : decode cX7_fog 72 = .ok (.lreturn, 1) := by decide +kernel
theorem dX7_fog_73 : decode cX7_fog 73 = .ok (.lconst 0, 1) := by decide +kernel
theorem dX7_fog_74 : decode cX7_fog 74 = .ok (.lstore 6, 2) := by decide +kernel
theorem dX7_fog_76 : decode cX7_fog 76 = .ok (.lconst 1, 1) := by decide +kernel
theorem dX7_fog_77 : decode cX7_fog 77 = .ok (.lstore 8, 2) := by decide +kernel
theorem dX7_fog_79 : decode cX7_fog 79 = .ok (.iconst 0, 1) := by decide +kernel
theorem dX7_fog_80 : decode cX7_fog 80 = .ok (.istore 10, 2) := by decide +kernel
theorem dX7_fog_82 : decode cX7_fog 82 = .ok (.iload 10, 2) := by decide +kernel
theorem dX7_fog_84 : decode cX7_fog 84 = .ok (.iload_n 2, 1) := by decide +kernel
theorem dX7_fog_85 : decode cX7_fog 85 = .ok (.if_icmp .ge 16, 3) := by decide +kernel
theorem dX7_fog_88 : decode cX7_fog 88 = .ok (.lload 8, 2) := by decide +kernel
theorem dX7_fog_90 : decode cX7_fog 90 = .ok (.iload_n 3, 1) := by decide +kernel
theorem dX7_fog_91 : decode cX7_fog 91 = .ok (.i2l, 1) := by decide +kernel
theorem dX7_fog_92 : decode cX7_fog 92 = .ok (.lmul, 1) := by decide +kernel
theorem dX7_fog_93 : decode cX7_fog 93 = .ok (.lstore 8, 2) := by decide +kernel
theorem dX7_fog_95 : decode cX7_fog 95 = .ok (.iinc 10 1, 3) := by decide +kernel
theorem dX7_fog_98 : decode cX7_fog 98 = .ok (.goto (-16), 3) := by decide +kernel
theorem dX7_fog_101 : decode cX7_fog 101 = .ok (.iconst 0, 1) := by decide +kernel
theorem dX7_fog_102 : decode cX7_fog 102 = .ok (.istore 10, 2) := by decide +kernel
theorem dX7_fog_104 : decode cX7_fog 104 = .ok (.iload 10, 2) := by decide +kernel
theorem dX7_fog_106 : decode cX7_fog 106 = .ok (.iconst 1, 1) := by decide +kernel
theorem dX7_fog_107 : decode cX7_fog 107 = .ok (.iload_n 2, 1) := by decide +kernel
theorem dX7_fog_108 : decode cX7_fog 108 = .ok (.ishl, 1) := by decide +kernel
theorem dX7_fog_109 : decode cX7_fog 109 = .ok (.if_icmp .ge 88, 3) := by decide +kernel
theorem dX7_fog_112 : decode cX7_fog 112 = .ok (.aload_n 0, 1) := by decide +kernel
theorem dX7_fog_113 : decode cX7_fog 113 = .ok (.invokevirtual 200, 3) := by decide +kernel
theorem dX7_fog_116 : decode cX7_fog 116 = .ok (.lconst 1, 1) := by decide +kernel
theorem dX7_fog_117 : decode cX7_fog 117 = .ok (.lstore 11, 2) := by decide +kernel
theorem dX7_fog_119 : decode cX7_fog 119 = .ok (.iconst 0, 1) := by decide +kernel
theorem dX7_fog_120 : decode cX7_fog 120 = .ok (.istore 13, 2) := by decide +kernel
theorem dX7_fog_122 : decode cX7_fog 122 = .ok (.iload 13, 2) := by decide +kernel
theorem dX7_fog_124 : decode cX7_fog 124 = .ok (.iload_n 2, 1) := by decide +kernel
theorem dX7_fog_125 : decode cX7_fog 125 = .ok (.if_icmp .ge 43, 3) := by decide +kernel
theorem dX7_fog_128 : decode cX7_fog 128 = .ok (.lload 11, 2) := by decide +kernel
theorem dX7_fog_130 : decode cX7_fog 130 = .ok (.iload 10, 2) := by decide +kernel
theorem dX7_fog_132 : decode cX7_fog 132 = .ok (.iload 13, 2) := by decide +kernel
theorem dX7_fog_134 : decode cX7_fog 134 = .ok (.invokestatic 231, 3) := by decide +kernel
theorem dX7_fog_137 : decode cX7_fog 137 = .ok (.ifCond .eq 7, 3) := by decide +kernel
theorem dX7_fog_140 : decode cX7_fog 140 = .ok (.lconst 1, 1) := by decide +kernel
theorem dX7_fog_141 : decode cX7_fog 141 = .ok (.goto 7, 3) := by decide +kernel
theorem dX7_fog_144 : decode cX7_fog 144 = .ok (.iload_n 3, 1) := by decide +kernel
theorem dX7_fog_145 : decode cX7_fog 145 = .ok (.iconst 1, 1) := by decide +kernel
theorem dX7_fog_146 : decode cX7_fog 146 = .ok (.isub, 1) := by decide +kernel
theorem dX7_fog_147 : decode cX7_fog 147 = .ok (.i2l, 1) := by decide +kernel
theorem dX7_fog_148 : decode cX7_fog 148 = .ok (.lmul, 1) := by decide +kernel
theorem dX7_fog_149 : decode cX7_fog 149 = .ok (.lstore 11, 2) := by decide +kernel
theorem dX7_fog_151 : decode cX7_fog 151 = .ok (.aload_n 0, 1) := by decide +kernel
theorem dX7_fog_152 : decode cX7_fog 152 = .ok (.iload 10, 2) := by decide +kernel
theorem dX7_fog_154 : decode cX7_fog 154 = .ok (.iload 13, 2) := by decide +kernel
theorem dX7_fog_156 : decode cX7_fog 156 = .ok (.invokestatic 231, 3) := by decide +kernel
theorem dX7_fog_159 : decode cX7_fog 159 = .ok (.invokevirtual 183, 3) := by decide +kernel
theorem dX7_fog_162 : decode cX7_fog 162 = .ok (.iinc 13 1, 3) := by decide +kernel
theorem dX7_fog_165 : decode cX7_fog 165 = .ok (.goto (-43), 3) := by decide +kernel
theorem dX7_fog_168 : decode cX7_fog 168 = .ok (.lload 6, 2) := by decide +kernel
theorem dX7_fog_170 : decode cX7_fog 170 = .ok (.aload_n 0, 1) := by decide +kernel
theorem dX7_fog_171 : decode cX7_fog 171 = .ok (.iload_n 1, 1) := by decide +kernel
theorem dX7_fog_172 : decode cX7_fog 172 = .ok (.invokevirtual 167, 3) := by decide +kernel
theorem dX7_fog_175 : decode cX7_fog 175 = .ok (.ifCond .eq 8, 3) := by decide +kernel
theorem dX7_fog_178 : decode cX7_fog 178 = .ok (.lload 11, 2) := by decide +kernel
theorem dX7_fog_180 : decode cX7_fog 180 = .ok (.goto 4, 3) := by decide +kernel
theorem dX7_fog_183 : decode cX7_fog 183 = .ok (.lconst 0, 1) := by decide +kernel
theorem dX7_fog_184 : decode cX7_fog 184 = .ok (.ladd, 1) := by decide +kernel
theorem dX7_fog_185 : decode cX7_fog 185 = .ok (.lstore 6, 2) := by decide +kernel
theorem dX7_fog_187 : decode cX7_fog 187 = .ok (.aload_n 0, 1) := by decide +kernel
theorem dX7_fog_188 : decode cX7_fog 188 = .ok (.invokevirtual 203, 3) := by decide +kernel
theorem dX7_fog_191 : decode cX7_fog 191 = .ok (.iinc 10 1, 3) := by decide +kernel
theorem dX7_fog_194 : decode cX7_fog 194 = .ok (.goto (-90), 3) := by decide +kernel
theorem dX7_fog_197 : decode cX7_fog 197 = .ok (.lload 6, 2) := by decide +kernel
theorem dX7_fog_199 : decode cX7_fog 199 = .ok (.lload 8, 2) := by decide +kernel
theorem dX7_fog_201 : decode cX7_fog 201 = .ok (.iload 4, 2) := by decide +kernel
theorem dX7_fog_203 : decode cX7_fog 203 = .ok (.invokestatic 281, 3) := by decide +kernel
theorem dX7_fog_206 : decode cX7_fog 206 = .ok (.lreturn, 1) := by decide +kernel
theorem dX7_allSlept_0 : decode cX7_allSlept 0 = .ok (.iconst 0, 1) := by decide +kernel
theorem dX7_allSlept_1 : decode cX7_allSlept 1 = .ok (.istore_n 1, 1) := by decide +kernel
theorem dX7_allSlept_2 : decode cX7_allSlept 2 = .ok (.iconst 0, 1) := by decide +kernel
theorem dX7_allSlept_3 : decode cX7_allSlept 3 = .ok (.istore_n 2, 1) := by decide +kernel
theorem dX7_allSlept_4 : decode cX7_allSlept 4 = .ok (.iload_n 2, 1) := by decide +kernel
theorem dX7_allSlept_5 : decode cX7_allSlept 5 = .ok (.aload_n 0, 1) := by decide +kernel
theorem dX7_allSlept_6 : decode cX7_allSlept 6 = .ok (.getfield 65, 3) := by decide +kernel
theorem dX7_allSlept_9 : decode cX7_allSlept 9 = .ok (.if_icmp .ge 18, 3) := by decide +kernel
theorem dX7_allSlept_12 : decode cX7_allSlept 12 = .ok (.iload_n 1, 1) := by decide +kernel
theorem dX7_allSlept_13 : decode cX7_allSlept 13 = .ok (.aload_n 0, 1) := by decide +kernel
theorem dX7_allSlept_14 : decode cX7_allSlept 14 = .ok (.getfield 25, 3) := by decide +kernel
theorem dX7_allSlept_17 : decode cX7_allSlept 17 = .ok (.iload_n 2, 1) := by decide +kernel
theorem dX7_allSlept_18 : decode cX7_allSlept 18 = .ok (.iaload, 1) := by decide +kernel
theorem dX7_allSlept_19 : decode cX7_allSlept 19 = .ok (.iadd, 1) := by decide +kernel
theorem dX7_allSlept_20 : decode cX7_allSlept 20 = .ok (.istore_n 1, 1) := by decide +kernel
theorem dX7_allSlept_21 : decode cX7_allSlept 21 = .ok (.iinc 2 1, 3) := by decide +kernel
theorem dX7_allSlept_24 : decode cX7_allSlept 24 = .ok (.goto (-20), 3) := by decide +kernel
theorem dX7_allSlept_27 : decode cX7_allSlept 27 = .ok (.iload_n 1, 1) := by decide +kernel
theorem dX7_allSlept_28 : decode cX7_allSlept 28 = .ok (.ireturn, 1) := by decide +kernel
set_option maxRecDepth 20000 in
theorem ggX7_mean_X7_isIn : GoodIn wsX7_mean wsX7_isIn := goodIn_r _ [5] (by decide +kernel) (by decide +kernel)
set_option maxRecDepth 20000 in
theorem gX7_mean_X7_isIn : GoodIn wsX7_mean (va_wsS RX7 86 yX7_isIn wsX7_isIn) := goodIn_app (goodIn_of _ (by decide +kernel)) ggX7_mean_X7_isIn
set_option maxRecDepth 20000 in
theorem ggX7_mean_X7_lowest : GoodIn wsX7_mean wsX7_lowest := goodIn_r _ [9, 10, 11, 23, 24, 25, 26, 27, 28, 29, 30, 31, 32, 33, 34, 35, 36, 37, 38, 39, 40, 41, 42, 43, 44, 45, 46, 47, 48] (by decide +kernel) (by decide +kernel)
set_option maxRecDepth 20000 in
theorem gX7_mean_X7_lowest : GoodIn wsX7_mean (wsV RX7 277 RX7 yX7_lowest wsX7_lowest) := goodIn_app (goodIn_of _ (by decide +kernel)) ggX7_mean_X7_lowest
set_option maxRecDepth 20000 in
theorem ggX7_mean_X7_allSlept : GoodIn wsX7_mean wsX7_allSlept := goodIn_r _ [15, 1, 16, 23, 24, 25, 26, 27, 28, 29, 30, 31, 32, 33, 34, 35, 36, 37, 38, 39, 40, 41, 42, 43, 44, 45, 46, 47, 48] (by decide +kernel) (by decide +kernel)
set_option maxRecDepth 20000 in
theorem gX7_mean_X7_allSlept : GoodIn wsX7_mean (wsV RX7 285 RX7 yX7_allSlept wsX7_allSlept) := goodIn_app (goodIn_of _ (by decide +kernel)) ggX7_mean_X7_allSlept
set_option maxRecDepth 20000 in
theorem ggX7_mean_X7_partOf : GoodIn wsX7_mean wsX7_partOf := goodIn_r _ [19, 20, 21, 4, 22] (by decide +kernel) (by decide +kernel)
set_option maxRecDepth 20000 in
theorem gX7_mean_X7_partOf : GoodIn wsX7_mean (va_wsS RX7 281 yX7_partOf wsX7_partOf) := goodIn_app (goodIn_of _ (by decide +kernel)) ggX7_mean_X7_partOf
theorem dX7_mean_0 : decode cX7_mean 0 = .ok (.iload_n 1, 1) := by decide +kernel
theorem dX7_mean_1 : decode cX7_mean 1 = .ok (.iconst 0, 1) := by decide +kernel
theorem dX7_mean_2 : decode cX7_mean 2 = .ok (.iconst 1, 1) := by decide +kernel
theorem dX7_mean_3 : decode cX7_mean 3 = .ok (.invokestatic 86, 3) := by decide +kernel
theorem dX7_mean_6 : decode cX7_mean 6 = .ok (.ifCond .ne 10, 3) := by decide +kernel
theorem dX7_mean_9 : decode cX7_mean 9 = .ok (.aload_n 0, 1) := by decide +kernel
theorem dX7_mean_10 : decode cX7_mean 10 = .ok (.bipush (-2), 2) := by decide +kernel
theorem dX7_mean_12 : decode cX7_mean 12 = .ok (.invokevirtual 277, 3) := by decide +kernel
theorem dX7_mean_15 : decode cX7_mean 15 = .ok (.lreturn, 1) := by decide +kernel
theorem dX7_mean_16 : decode cX7_mean 16 = .ok (.aload_n 0, 1) := by decide +kernel
theorem dX7_mean_17 : decode cX7_mean 17 = .ok (.getfield 65, 3) := by decide +kernel
theorem dX7_mean_20 : decode cX7_mean 20 = .ok (.ifCond .ne 8, 3) := by decide +kernel
theorem dX7_mean_23 : decode cX7_mean 23 = .ok (.iload_n 1, 1) := by decide +kernel
theorem dX7_mean_24 : decode cX7_mean 24 = .ok (.i2l, 1) := by decide +kernel
theorem dX7_mean_25 : decode cX7_mean 25 = .ok (.goto 17, 3) := by decide +kernel
theorem dX7_mean_28 : decode cX7_mean 28 = .ok (.aload_n 0, 1) := by decide +kernel
theorem dX7_mean_29 : decode cX7_mean 29 = .ok (.invokevirtual 285, 3) := by decide +kernel
theorem dX7_mean_32 : decode cX7_mean 32 = .ok (.i2l, 1) := by decide +kernel
theorem dX7_mean_33 : decode cX7_mean 33 = .ok (.aload_n 0, 1) := by decide +kernel
theorem dX7_mean_34 : decode cX7_mean 34 = .ok (.getfield 65, 3) := by decide +kernel
theorem dX7_mean_37 : decode cX7_mean 37 = .ok (.i2l, 1) := by decide +kernel
theorem dX7_mean_38 : decode cX7_mean 38 = .ok (.iload_n 1, 1) := by decide +kernel
theorem dX7_mean_39 : decode cX7_mean 39 = .ok (.invokestatic 281, 3) := by decide +kernel
theorem dX7_mean_42 : decode cX7_mean 42 = .ok (.lreturn, 1) := by decide +kernel
set_option maxRecDepth 20000 in
theorem ggX7_isSo_X7_thinks : GoodIn wsX7_isSo wsX7_thinks := goodIn_r _ [7, 8, 9, 10, 6, 11, 12, 13, 14, 15, 16, 17, 18, 19, 20, 21, 22, 23, 24, 25, 26, 27, 28, 29, 30, 31, 32, 61, 62, 63, 64, 65, 66, 67, 68, 69, 70, 71, 72, 73, 74, 75, 76, 77, 78, 79, 80, 81, 82, 83, 84, 85, 86] (by decide +kernel) (by decide +kernel)
set_option maxRecDepth 20000 in
theorem gX7_isSo_X7_thinks : GoodIn wsX7_isSo (wsV RX7 200 RX7 yX7_thinks wsX7_thinks) := goodIn_app (goodIn_of _ (by decide +kernel)) ggX7_isSo_X7_thinks
set_option maxRecDepth 20000 in
theorem ggX7_isSo_X7_hears : GoodIn wsX7_isSo wsX7_hears := goodIn_r _ [36, 37, 19, 18, 16, 14, 38, 39, 40, 6, 41, 17, 61, 62, 63, 64, 65, 66, 67, 68, 69, 70, 71, 72, 73, 74, 75, 76, 77, 78, 79, 80, 81, 82, 83, 84, 85, 86] (by decide +kernel) (by decide +kernel)
set_option maxRecDepth 20000 in
theorem gX7_isSo_X7_hears : GoodIn wsX7_isSo (wsV RX7 157 RX7 yX7_hears wsX7_hears) := goodIn_app (goodIn_of _ (by decide +kernel)) ggX7_isSo_X7_hears
set_option maxRecDepth 20000 in
theorem ggX7_isSo_X7_saysOf : GoodIn wsX7_isSo wsX7_saysOf := goodIn_r _ [45, 16, 14, 17, 33, 34, 35, 6, 36, 37, 19, 18, 38, 39, 40, 41, 61, 62, 63, 64, 65, 66, 67, 68, 69, 70, 71, 72, 73, 74, 75, 76, 77, 78, 79, 80, 81, 82, 83, 84, 85, 86] (by decide +kernel) (by decide +kernel)
set_option maxRecDepth 20000 in
theorem gX7_isSo_X7_saysOf : GoodIn wsX7_isSo (wsV RX7 160 RX7 yX7_saysOf wsX7_saysOf) := goodIn_app (goodIn_of _ (by decide +kernel)) ggX7_isSo_X7_saysOf
set_option maxRecDepth 20000 in
theorem ggX7_isSo_X7_goesDay : GoodIn wsX7_isSo wsX7_goesDay := goodIn_r _ [49, 22, 21, 19, 50, 51, 52, 6, 53, 18, 23, 54, 55, 56, 61, 62, 63, 64, 65, 66, 67, 68, 69, 70, 71, 72, 73, 74, 75, 76, 77, 78, 79, 80, 81, 82, 83, 84, 85, 86] (by decide +kernel) (by decide +kernel)
set_option maxRecDepth 20000 in
theorem gX7_isSo_X7_goesDay : GoodIn wsX7_isSo (wsV RX7 183 RX7 yX7_goesDay wsX7_goesDay) := goodIn_app (goodIn_of _ (by decide +kernel)) ggX7_isSo_X7_goesDay
set_option maxRecDepth 20000 in
theorem ggX7_isSo_X7_forgets : GoodIn wsX7_isSo wsX7_forgets := goodIn_r _ [60, 8, 9, 10, 6, 11, 12, 13, 14, 15, 16, 17, 18, 19, 20, 21, 22, 23, 24, 25, 26, 27, 28, 29, 30, 31, 32, 61, 62, 63, 64, 65, 66, 67, 68, 69, 70, 71, 72, 73, 74, 75, 76, 77, 78, 79, 80, 81, 82, 83, 84, 85, 86] (by decide +kernel) (by decide +kernel)
set_option maxRecDepth 20000 in
theorem gX7_isSo_X7_forgets : GoodIn wsX7_isSo (wsV RX7 203 RX7 yX7_forgets wsX7_forgets) := goodIn_app (goodIn_of _ (by decide +kernel)) ggX7_isSo_X7_forgets
theorem dX7_isSo_0 : decode cX7_isSo 0 = .ok (.aload_n 0, 1) := by decide +kernel
theorem dX7_isSo_1 : decode cX7_isSo 1 = .ok (.invokevirtual 200, 3) := by decide +kernel
theorem dX7_isSo_4 : decode cX7_isSo 4 = .ok (.iconst 1, 1) := by decide +kernel
theorem dX7_isSo_5 : decode cX7_isSo 5 = .ok (.istore_n 3, 1) := by decide +kernel
theorem dX7_isSo_6 : decode cX7_isSo 6 = .ok (.iconst 0, 1) := by decide +kernel
theorem dX7_isSo_7 : decode cX7_isSo 7 = .ok (.istore 4, 2) := by decide +kernel
theorem dX7_isSo_9 : decode cX7_isSo 9 = .ok (.iload 4, 2) := by decide +kernel
theorem dX7_isSo_11 : decode cX7_isSo 11 = .ok (.aload_n 0, 1) := by decide +kernel
theorem dX7_isSo_12 : decode cX7_isSo 12 = .ok (.getfield 288, 3) := by decide +kernel
theorem dX7_isSo_15 : decode cX7_isSo 15 = .ok (.if_icmp .ge 54, 3) := by decide +kernel
theorem dX7_isSo_18 : decode cX7_isSo 18 = .ok (.iload_n 3, 1) := by decide +kernel
theorem dX7_isSo_19 : decode cX7_isSo 19 = .ok (.ifCond .eq 50, 3) := by decide +kernel
theorem dX7_isSo_22 : decode cX7_isSo 22 = .ok (.aload_n 0, 1) := by decide +kernel
theorem dX7_isSo_23 : decode cX7_isSo 23 = .ok (.iload_n 1, 1) := by decide +kernel
theorem dX7_isSo_24 : decode cX7_isSo 24 = .ok (.iload_n 2, 1) := by decide +kernel
theorem dX7_isSo_25 : decode cX7_isSo 25 = .ok (.invokevirtual 157, 3) := by decide +kernel
theorem dX7_isSo_28 : decode cX7_isSo 28 = .ok (.ifCond .eq 12, 3) := by decide +kernel
theorem dX7_isSo_31 : decode cX7_isSo 31 = .ok (.aload_n 0, 1) := by decide +kernel
theorem dX7_isSo_32 : decode cX7_isSo 32 = .ok (.iload_n 1, 1) := by decide +kernel
theorem dX7_isSo_33 : decode cX7_isSo 33 = .ok (.iload_n 2, 1) := by decide +kernel
theorem dX7_isSo_34 : decode cX7_isSo 34 = .ok (.invokevirtual 160, 3) := by decide +kernel
theorem dX7_isSo_37 : decode cX7_isSo 37 = .ok (.goto 5, 3) := by decide +kernel
theorem dX7_isSo_40 : decode cX7_isSo 40 = .ok (.bipush 99, 2) := by decide +kernel
theorem dX7_isSo_42 : decode cX7_isSo 42 = .ok (.aload_n 0, 1) := by decide +kernel
theorem dX7_isSo_43 : decode cX7_isSo 43 = .ok (.getfield 53, 3) := by decide +kernel
theorem dX7_isSo_46 : decode cX7_isSo 46 = .ok (.iload 4, 2) := by decide +kernel
theorem dX7_isSo_48 : decode cX7_isSo 48 = .ok (.iaload, 1) := by decide +kernel
theorem dX7_isSo_49 : decode cX7_isSo 49 = .ok (.if_icmp .ne 7, 3) := by decide +kernel
theorem dX7_isSo_52 : decode cX7_isSo 52 = .ok (.iconst 1, 1) := by decide +kernel
theorem dX7_isSo_53 : decode cX7_isSo 53 = .ok (.goto 4, 3) := by decide +kernel
theorem dX7_isSo_56 : decode cX7_isSo 56 = .ok (.iconst 0, 1) := by decide +kernel
theorem dX7_isSo_57 : decode cX7_isSo 57 = .ok (.istore_n 3, 1) := by decide +kernel
theorem dX7_isSo_58 : decode cX7_isSo 58 = .ok (.aload_n 0, 1) := by decide +kernel
theorem dX7_isSo_59 : decode cX7_isSo 59 = .ok (.iconst 0, 1) := by decide +kernel
theorem dX7_isSo_60 : decode cX7_isSo 60 = .ok (.invokevirtual 183, 3) := by decide +kernel
theorem dX7_isSo_63 : decode cX7_isSo 63 = .ok (.iinc 4 1, 3) := by decide +kernel
theorem dX7_isSo_66 : decode cX7_isSo 66 = .ok (.goto (-57), 3) := by decide +kernel
theorem dX7_isSo_69 : decode cX7_isSo 69 = .ok (.aload_n 0, 1) := by decide +kernel
theorem dX7_isSo_70 : decode cX7_isSo 70 = .ok (.invokevirtual 203, 3) := by decide +kernel
theorem dX7_isSo_73 : decode cX7_isSo 73 = .ok (.iload_n 3, 1) := by decide +kernel
theorem dX7_isSo_74 : decode cX7_isSo 74 = .ok (.ireturn, 1) := by decide +kernel
set_option maxRecDepth 20000 in
theorem ggX7_bitsFor_X7_isSo : GoodIn wsX7_bitsFor wsX7_isSo := goodIn_r _ [5, 6, 7, 8, 9, 10, 4, 11, 12, 13, 14, 15, 16, 17, 18, 19, 20, 21, 22, 23, 24, 25, 26, 27, 28, 29, 30, 31, 32, 33, 34, 35, 36, 37, 38, 39, 40, 41, 42, 43, 44, 45, 46, 47, 48, 49, 50, 51, 52, 53, 54, 55, 56, 57, 58, 59, 60, 61, 62, 63, 64, 65, 66, 67, 68, 69, 70, 71, 72, 73, 74, 75, 76, 77, 78, 79, 80, 81, 82, 83, 84, 85, 86, 87, 88, 89, 90] (by decide +kernel) (by decide +kernel)
set_option maxRecDepth 20000 in
theorem gX7_bitsFor_X7_isSo : GoodIn wsX7_bitsFor (wsV RX7 291 RX7 yX7_isSo wsX7_isSo) := goodIn_app (goodIn_of _ (by decide +kernel)) ggX7_bitsFor_X7_isSo
theorem dX7_bitsFor_0 : decode cX7_bitsFor 0 = .ok (.aload_n 1, 1) := by decide +kernel
theorem dX7_bitsFor_1 : decode cX7_bitsFor 1 = .ok (.iload_n 2, 1) := by decide +kernel
theorem dX7_bitsFor_2 : decode cX7_bitsFor 2 = .ok (.iaload, 1) := by decide +kernel
theorem dX7_bitsFor_3 : decode cX7_bitsFor 3 = .ok (.istore 5, 2) := by decide +kernel
theorem dX7_bitsFor_5 : decode cX7_bitsFor 5 = .ok (.iconst 0, 1) := by decide +kernel
theorem dX7_bitsFor_6 : decode cX7_bitsFor 6 = .ok (.istore 6, 2) := by decide +kernel
theorem dX7_bitsFor_8 : decode cX7_bitsFor 8 = .ok (.iconst 0, 1) := by decide +kernel
theorem dX7_bitsFor_9 : decode cX7_bitsFor 9 = .ok (.istore 7, 2) := by decide +kernel
theorem dX7_bitsFor_11 : decode cX7_bitsFor 11 = .ok (.iload 7, 2) := by decide +kernel
theorem dX7_bitsFor_13 : decode cX7_bitsFor 13 = .ok (.iload_n 3, 1) := by decide +kernel
theorem dX7_bitsFor_14 : decode cX7_bitsFor 14 = .ok (.if_icmp .ge 37, 3) := by decide +kernel
theorem dX7_bitsFor_17 : decode cX7_bitsFor 17 = .ok (.aload_n 1, 1) := by decide +kernel
theorem dX7_bitsFor_18 : decode cX7_bitsFor 18 = .ok (.iload_n 2, 1) := by decide +kernel
theorem dX7_bitsFor_19 : decode cX7_bitsFor 19 = .ok (.iload 7, 2) := by decide +kernel
theorem dX7_bitsFor_21 : decode cX7_bitsFor 21 = .ok (.iastore, 1) := by decide +kernel
theorem dX7_bitsFor_22 : decode cX7_bitsFor 22 = .ok (.iload 6, 2) := by decide +kernel
theorem dX7_bitsFor_24 : decode cX7_bitsFor 24 = .ok (.aload_n 0, 1) := by decide +kernel
theorem dX7_bitsFor_25 : decode cX7_bitsFor 25 = .ok (.iload_n 2, 1) := by decide +kernel
theorem dX7_bitsFor_26 : decode cX7_bitsFor 26 = .ok (.iload 4, 2) := by decide +kernel
theorem dX7_bitsFor_28 : decode cX7_bitsFor 28 = .ok (.invokevirtual 291, 3) := by decide +kernel
theorem dX7_bitsFor_31 : decode cX7_bitsFor 31 = .ok (.ifCond .eq 10, 3) := by decide +kernel
theorem dX7_bitsFor_34 : decode cX7_bitsFor 34 = .ok (.iconst 1, 1) := by decide +kernel
theorem dX7_bitsFor_35 : decode cX7_bitsFor 35 = .ok (.iload 7, 2) := by decide +kernel
theorem dX7_bitsFor_37 : decode cX7_bitsFor 37 = .ok (.ishl, 1) := by decide +kernel
theorem dX7_bitsFor_38 : decode cX7_bitsFor 38 = .ok (.goto 4, 3) := by decide +kernel
theorem dX7_bitsFor_41 : decode cX7_bitsFor 41 = .ok (.iconst 0, 1) := by decide +kernel
theorem dX7_bitsFor_42 : decode cX7_bitsFor 42 = .ok (.ior, 1) := by decide +kernel
theorem dX7_bitsFor_43 : decode cX7_bitsFor 43 = .ok (.istore 6, 2) := by decide +kernel
theorem dX7_bitsFor_45 : decode cX7_bitsFor 45 = .ok (.iinc 7 1, 3) := by decide +kernel
theorem dX7_bitsFor_48 : decode cX7_bitsFor 48 = .ok (.goto (-37), 3) := by decide +kernel
theorem dX7_bitsFor_51 : decode cX7_bitsFor 51 = .ok (.aload_n 1, 1) := by decide +kernel
theorem dX7_bitsFor_52 : decode cX7_bitsFor 52 = .ok (.iload_n 2, 1) := by decide +kernel
theorem dX7_bitsFor_53 : decode cX7_bitsFor 53 = .ok (.iload 5, 2) := by decide +kernel
theorem dX7_bitsFor_55 : decode cX7_bitsFor 55 = .ok (.iastore, 1) := by decide +kernel
theorem dX7_bitsFor_56 : decode cX7_bitsFor 56 = .ok (.iload 6, 2) := by decide +kernel
theorem dX7_bitsFor_58 : decode cX7_bitsFor 58 = .ok (.ireturn, 1) := by decide +kernel
set_option maxRecDepth 20000 in
theorem ggX7_whatIs_X7_isOne : GoodIn wsX7_whatIs wsX7_isOne := goodIn_r _ [7, 8, 85, 86, 87, 88, 89, 90, 91, 92, 93, 94, 95, 96, 97, 98, 99, 100, 101, 102, 103, 104, 105, 106, 107, 108, 109, 110] (by decide +kernel) (by decide +kernel)
set_option maxRecDepth 20000 in
theorem gX7_whatIs_X7_isOne : GoodIn wsX7_whatIs (wsV RX7 120 RX7 yX7_isOne wsX7_isOne) := goodIn_app (goodIn_of _ (by decide +kernel)) ggX7_whatIs_X7_isOne
set_option maxRecDepth 20000 in
theorem ggX7_whatIs_X7_isBell : GoodIn wsX7_whatIs wsX7_isBell := goodIn_r _ [12, 13, 85, 86, 87, 88, 89, 90, 91, 92, 93, 94, 95, 96, 97, 98, 99, 100, 101, 102, 103, 104, 105, 106, 107, 108, 109, 110] (by decide +kernel) (by decide +kernel)
set_option maxRecDepth 20000 in
theorem gX7_whatIs_X7_isBell : GoodIn wsX7_whatIs (wsV RX7 187 RX7 yX7_isBell wsX7_isBell) := goodIn_app (goodIn_of _ (by decide +kernel)) ggX7_whatIs_X7_isBell
set_option maxRecDepth 20000 in
theorem ggX7_whatIs_X7_isIn : GoodIn wsX7_whatIs wsX7_isIn := goodIn_r _ [16] (by decide +kernel) (by decide +kernel)
set_option maxRecDepth 20000 in
theorem gX7_whatIs_X7_isIn : GoodIn wsX7_whatIs (va_wsS RX7 86 yX7_isIn wsX7_isIn) := goodIn_app (goodIn_of _ (by decide +kernel)) ggX7_whatIs_X7_isIn
set_option maxRecDepth 20000 in
theorem ggX7_whatIs_X7_no : GoodIn wsX7_whatIs wsX7_no := goodIn_r _ [20, 21, 85, 86, 87, 88, 89, 90, 91, 92, 93, 94, 95, 96, 97, 98, 99, 100, 101, 102, 103, 104, 105, 106, 107, 108, 109, 110] (by decide +kernel) (by decide +kernel)
set_option maxRecDepth 20000 in
theorem gX7_whatIs_X7_no : GoodIn wsX7_whatIs (wsV RX7 75 RX7 yX7_no wsX7_no) := goodIn_app (goodIn_of _ (by decide +kernel)) ggX7_whatIs_X7_no
set_option maxRecDepth 20000 in
theorem ggX7_whatIs_X7_bitsFor : GoodIn wsX7_whatIs wsX7_bitsFor := goodIn_r _ [25, 26, 27, 28, 6, 29, 30, 31, 32, 33, 34, 35, 36, 37, 38, 39, 40, 41, 42, 43, 1, 2, 44, 45, 13, 8, 46, 47, 48, 49, 50, 51, 52, 53, 54, 55, 56, 57, 58, 59, 60, 61, 62, 63, 64, 65, 66, 67, 68, 69, 70, 71, 72, 73, 74, 75, 76, 77, 78, 79, 80, 81, 82, 83, 84, 85, 86, 87, 88, 89, 90, 91, 92, 93, 94, 95, 96, 97, 98, 99, 100, 101, 102, 103, 104, 105, 106, 107, 108, 109, 110] (by decide +kernel) (by decide +kernel)
set_option maxRecDepth 20000 in
theorem gX7_whatIs_X7_bitsFor : GoodIn wsX7_whatIs (wsV RX7 294 RX7 yX7_bitsFor wsX7_bitsFor) := goodIn_app (goodIn_of _ (by decide +kernel)) ggX7_whatIs_X7_bitsFor
theorem dX7_whatIs_0 : decode cX7_whatIs 0 = .ok (.aload_n 0, 1) := by decide +kernel
theorem dX7_whatIs_1 : decode cX7_whatIs 1 = .ok (.iload_n 1, 1) := by decide +kernel
theorem dX7_whatIs_2 : decode cX7_whatIs 2 = .ok (.invokevirtual 120, 3) := by decide +kernel
theorem dX7_whatIs_5 : decode cX7_whatIs 5 = .ok (.ifCond .eq 11, 3) := by decide +kernel
theorem dX7_whatIs_8 : decode cX7_whatIs 8 = .ok (.aload_n 0, 1) := by decide +kernel
theorem dX7_whatIs_9 : decode cX7_whatIs 9 = .ok (.iload_n 2, 1) := by decide +kernel
theorem dX7_whatIs_10 : decode cX7_whatIs 10 = .ok (.invokevirtual 187, 3) := by decide +kernel
theorem dX7_whatIs_13 : decode cX7_whatIs 13 = .ok (.ifCond .ne 7, 3) := by decide +kernel
theorem dX7_whatIs_16 : decode cX7_whatIs 16 = .ok (.iconst (-1), 1) := by decide +kernel
theorem dX7_whatIs_17 : decode cX7_whatIs 17 = .ok (.goto 18, 3) := by decide +kernel
theorem dX7_whatIs_20 : decode cX7_whatIs 20 = .ok (.iload_n 3, 1) := by decide +kernel
theorem dX7_whatIs_21 : decode cX7_whatIs 21 = .ok (.iconst 0, 1) := by decide +kernel
theorem dX7_whatIs_22 : decode cX7_whatIs 22 = .ok (.iconst 1, 1) := by decide +kernel
theorem dX7_whatIs_23 : decode cX7_whatIs 23 = .ok (.invokestatic 86, 3) := by decide +kernel
theorem dX7_whatIs_26 : decode cX7_whatIs 26 = .ok (.ifCond .ne 8, 3) := by decide +kernel
theorem dX7_whatIs_29 : decode cX7_whatIs 29 = .ok (.bipush (-2), 2) := by decide +kernel
theorem dX7_whatIs_31 : decode cX7_whatIs 31 = .ok (.goto 4, 3) := by decide +kernel
theorem dX7_whatIs_34 : decode cX7_whatIs 34 = .ok (.iconst 0, 1) := by decide +kernel
theorem dX7_whatIs_35 : decode cX7_whatIs 35 = .ok (.istore 4, 2) := by decide +kernel
theorem dX7_whatIs_37 : decode cX7_whatIs 37 = .ok (.iload 4, 2) := by decide +kernel
theorem dX7_whatIs_39 : decode cX7_whatIs 39 = .ok (.ifCond .eq 10, 3) := by decide +kernel
theorem dX7_whatIs_42 : decode cX7_whatIs 42 = .ok (.aload_n 0, 1) := by decide +kernel
theorem dX7_whatIs_43 : decode cX7_whatIs 43 = .ok (.iload 4, 2) := by decide +kernel
theorem dX7_whatIs_45 : decode cX7_whatIs 45 = .ok (.invokevirtual 75, 3) := by decide +kernel
theorem dX7_whatIs_48 : decode cX7_whatIs 48 = .ok (.ireturn, 1) := by decide +kernel
theorem dX7_whatIs_49 : decode cX7_whatIs 49 = .ok (.iload_n 3, 1) := by decide +kernel
theorem dX7_whatIs_50 : decode cX7_whatIs 50 = .ok (.ifCond .ne 18, 3) := by decide +kernel
theorem dX7_whatIs_53 : decode cX7_whatIs 53 = .ok (.aload_n 0, 1) := by decide +kernel
theorem dX7_whatIs_54 : decode cX7_whatIs 54 = .ok (.aload_n 0, 1) := by decide +kernel
theorem dX7_whatIs_55 : decode cX7_whatIs 55 = .ok (.getfield 19, 3) := by decide +kernel
theorem dX7_whatIs_58 : decode cX7_whatIs 58 = .ok (.iload_n 1, 1) := by decide +kernel
theorem dX7_whatIs_59 : decode cX7_whatIs 59 = .ok (.bipush 6, 2) := by decide +kernel
theorem dX7_whatIs_61 : decode cX7_whatIs 61 = .ok (.iload_n 2, 1) := by decide +kernel
theorem dX7_whatIs_62 : decode cX7_whatIs 62 = .ok (.invokevirtual 294, 3) := by decide +kernel
theorem dX7_whatIs_65 : decode cX7_whatIs 65 = .ok (.goto 15, 3) := by decide +kernel
theorem dX7_whatIs_68 : decode cX7_whatIs 68 = .ok (.aload_n 0, 1) := by decide +kernel
theorem dX7_whatIs_69 : decode cX7_whatIs 69 = .ok (.aload_n 0, 1) := by decide +kernel
theorem dX7_whatIs_70 : decode cX7_whatIs 70 = .ok (.getfield 22, 3) := by decide +kernel
theorem dX7_whatIs_73 : decode cX7_whatIs 73 = .ok (.iload_n 1, 1) := by decide +kernel
theorem dX7_whatIs_74 : decode cX7_whatIs 74 = .ok (.bipush 10, 2) := by decide +kernel
theorem dX7_whatIs_76 : decode cX7_whatIs 76 = .ok (.iload_n 2, 1) := by decide +kernel
theorem dX7_whatIs_77 : decode cX7_whatIs 77 = .ok (.invokevirtual 294, 3) := by decide +kernel
theorem dX7_whatIs_80 : decode cX7_whatIs 80 = .ok (.ireturn, 1) := by decide +kernel
set_option maxRecDepth 20000 in
theorem ggX7_row_X7_bound : GoodIn wsX7_row wsX7_bound := goodIn_r _ [6] (by decide +kernel) (by decide +kernel)
set_option maxRecDepth 20000 in
theorem gX7_row_X7_bound : GoodIn wsX7_row (va_wsS RX7 68 yX7_bound wsX7_bound) := goodIn_app (goodIn_of _ (by decide +kernel)) ggX7_row_X7_bound
set_option maxRecDepth 20000 in
theorem ggX7_row_X7_no : GoodIn wsX7_row wsX7_no := goodIn_r _ [10, 11, 12, 13, 14, 15, 16, 17, 18, 19, 20, 21, 22, 23, 24, 25, 26, 27, 28, 29, 30, 31, 32, 33, 34, 35, 36, 37] (by decide +kernel) (by decide +kernel)
set_option maxRecDepth 20000 in
theorem gX7_row_X7_no : GoodIn wsX7_row (wsV RX7 75 RX7 yX7_no wsX7_no) := goodIn_app (goodIn_of _ (by decide +kernel)) ggX7_row_X7_no
theorem dX7_row_0 : decode cX7_row 0 = .ok (.iload_n 1, 1) := by decide +kernel
theorem dX7_row_1 : decode cX7_row 1 = .ok (.iconst 0, 1) := by decide +kernel
theorem dX7_row_2 : decode cX7_row 2 = .ok (.bipush 99, 2) := by decide +kernel
theorem dX7_row_4 : decode cX7_row 4 = .ok (.invokestatic 68, 3) := by decide +kernel
theorem dX7_row_7 : decode cX7_row 7 = .ok (.istore_n 2, 1) := by decide +kernel
theorem dX7_row_8 : decode cX7_row 8 = .ok (.iload_n 2, 1) := by decide +kernel
theorem dX7_row_9 : decode cX7_row 9 = .ok (.ifCond .ne 15, 3) := by decide +kernel
theorem dX7_row_12 : decode cX7_row 12 = .ok (.aload_n 0, 1) := by decide +kernel
theorem dX7_row_13 : decode cX7_row 13 = .ok (.getfield 288, 3) := by decide +kernel
theorem dX7_row_16 : decode cX7_row 16 = .ok (.bipush 16, 2) := by decide +kernel
theorem dX7_row_18 : decode cX7_row 18 = .ok (.if_icmp .ne 6, 3) := by decide +kernel
theorem dX7_row_21 : decode cX7_row 21 = .ok (.bipush (-6), 2) := by decide +kernel
theorem dX7_row_23 : decode cX7_row 23 = .ok (.istore_n 2, 1) := by decide +kernel
theorem dX7_row_24 : decode cX7_row 24 = .ok (.iload_n 2, 1) := by decide +kernel
theorem dX7_row_25 : decode cX7_row 25 = .ok (.ifCond .eq 9, 3) := by decide +kernel
theorem dX7_row_28 : decode cX7_row 28 = .ok (.aload_n 0, 1) := by decide +kernel
theorem dX7_row_29 : decode cX7_row 29 = .ok (.iload_n 2, 1) := by decide +kernel
theorem dX7_row_30 : decode cX7_row 30 = .ok (.invokevirtual 75, 3) := by decide +kernel
theorem dX7_row_33 : decode cX7_row 33 = .ok (.ireturn, 1) := by decide +kernel
theorem dX7_row_34 : decode cX7_row 34 = .ok (.aload_n 0, 1) := by decide +kernel
theorem dX7_row_35 : decode cX7_row 35 = .ok (.getfield 53, 3) := by decide +kernel
theorem dX7_row_38 : decode cX7_row 38 = .ok (.aload_n 0, 1) := by decide +kernel
theorem dX7_row_39 : decode cX7_row 39 = .ok (.getfield 288, 3) := by decide +kernel
theorem dX7_row_42 : decode cX7_row 42 = .ok (.iload_n 1, 1) := by decide +kernel
theorem dX7_row_43 : decode cX7_row 43 = .ok (.iastore, 1) := by decide +kernel
theorem dX7_row_44 : decode cX7_row 44 = .ok (.aload_n 0, 1) := by decide +kernel
theorem dX7_row_45 : decode cX7_row 45 = .ok (.dup, 1) := by decide +kernel
theorem dX7_row_46 : decode cX7_row 46 = .ok (.getfield 288, 3) := by decide +kernel
theorem dX7_row_49 : decode cX7_row 49 = .ok (.iconst 1, 1) := by decide +kernel
theorem dX7_row_50 : decode cX7_row 50 = .ok (.iadd, 1) := by decide +kernel
theorem dX7_row_51 : decode cX7_row 51 = .ok (.putfield 288, 3) := by decide +kernel
theorem dX7_row_54 : decode cX7_row 54 = .ok (.aload_n 0, 1) := by decide +kernel
theorem dX7_row_55 : decode cX7_row 55 = .ok (.getfield 288, 3) := by decide +kernel
theorem dX7_row_58 : decode cX7_row 58 = .ok (.ireturn, 1) := by decide +kernel
set_option maxRecDepth 20000 in
theorem ggX7_judge_X7_thinks : GoodIn wsX7_judge wsX7_thinks := goodIn_r _ [7, 8, 9, 10, 6, 11, 12, 13, 14, 15, 16, 17, 18, 19, 20, 21, 22, 23, 24, 25, 26, 27, 28, 29, 30, 31, 32, 65, 66, 67, 68, 69, 70, 71, 72, 73, 74, 75, 76, 77, 78, 79, 80, 81, 82, 83, 84, 85, 86, 87, 88, 89, 90] (by decide +kernel) (by decide +kernel)
set_option maxRecDepth 20000 in
theorem gX7_judge_X7_thinks : GoodIn wsX7_judge (wsV RX7 200 RX7 yX7_thinks wsX7_thinks) := goodIn_app (goodIn_of _ (by decide +kernel)) ggX7_judge_X7_thinks
set_option maxRecDepth 20000 in
theorem ggX7_judge_X7_manyHear : GoodIn wsX7_judge wsX7_manyHear := goodIn_r _ [36, 21, 37, 38, 39, 6, 40, 20, 41, 42, 43, 44, 45, 19, 18, 16, 14, 46, 47, 48, 49, 17, 65, 66, 67, 68, 69, 70, 71, 72, 73, 74, 75, 76, 77, 78, 79, 80, 81, 82, 83, 84, 85, 86, 87, 88, 89, 90] (by decide +kernel) (by decide +kernel)
set_option maxRecDepth 20000 in
theorem gX7_judge_X7_manyHear : GoodIn wsX7_judge (wsV RX7 194 RX7 yX7_manyHear wsX7_manyHear) := goodIn_app (goodIn_of _ (by decide +kernel)) ggX7_judge_X7_manyHear
set_option maxRecDepth 20000 in
theorem ggX7_judge_X7_goesDay : GoodIn wsX7_judge wsX7_goesDay := goodIn_r _ [53, 22, 21, 19, 54, 55, 56, 6, 57, 18, 23, 58, 59, 60, 65, 66, 67, 68, 69, 70, 71, 72, 73, 74, 75, 76, 77, 78, 79, 80, 81, 82, 83, 84, 85, 86, 87, 88, 89, 90] (by decide +kernel) (by decide +kernel)
set_option maxRecDepth 20000 in
theorem gX7_judge_X7_goesDay : GoodIn wsX7_judge (wsV RX7 183 RX7 yX7_goesDay wsX7_goesDay) := goodIn_app (goodIn_of _ (by decide +kernel)) ggX7_judge_X7_goesDay
set_option maxRecDepth 20000 in
theorem ggX7_judge_X7_forgets : GoodIn wsX7_judge wsX7_forgets := goodIn_r _ [64, 8, 9, 10, 6, 11, 12, 13, 14, 15, 16, 17, 18, 19, 20, 21, 22, 23, 24, 25, 26, 27, 28, 29, 30, 31, 32, 65, 66, 67, 68, 69, 70, 71, 72, 73, 74, 75, 76, 77, 78, 79, 80, 81, 82, 83, 84, 85, 86, 87, 88, 89, 90] (by decide +kernel) (by decide +kernel)
set_option maxRecDepth 20000 in
theorem gX7_judge_X7_forgets : GoodIn wsX7_judge (wsV RX7 203 RX7 yX7_forgets wsX7_forgets) := goodIn_app (goodIn_of _ (by decide +kernel)) ggX7_judge_X7_forgets
theorem dX7_judge_0 : decode cX7_judge 0 = .ok (.aload_n 0, 1) := by decide +kernel
theorem dX7_judge_1 : decode cX7_judge 1 = .ok (.getfield 288, 3) := by decide +kernel
theorem dX7_judge_4 : decode cX7_judge 4 = .ok (.istore_n 1, 1) := by decide +kernel
theorem dX7_judge_5 : decode cX7_judge 5 = .ok (.aload_n 0, 1) := by decide +kernel
theorem dX7_judge_6 : decode cX7_judge 6 = .ok (.iconst 0, 1) := by decide +kernel
theorem dX7_judge_7 : decode cX7_judge 7 = .ok (.putfield 288, 3) := by decide +kernel
theorem dX7_judge_10 : decode cX7_judge 10 = .ok (.aload_n 0, 1) := by decide +kernel
theorem dX7_judge_11 : decode cX7_judge 11 = .ok (.invokevirtual 200, 3) := by decide +kernel
theorem dX7_judge_14 : decode cX7_judge 14 = .ok (.bipush (-9), 2) := by decide +kernel
theorem dX7_judge_16 : decode cX7_judge 16 = .ok (.istore_n 2, 1) := by decide +kernel
theorem dX7_judge_17 : decode cX7_judge 17 = .ok (.iconst 0, 1) := by decide +kernel
theorem dX7_judge_18 : decode cX7_judge 18 = .ok (.istore_n 3, 1) := by decide +kernel
theorem dX7_judge_19 : decode cX7_judge 19 = .ok (.iload_n 3, 1) := by decide +kernel
theorem dX7_judge_20 : decode cX7_judge 20 = .ok (.iload_n 1, 1) := by decide +kernel
theorem dX7_judge_21 : decode cX7_judge 21 = .ok (.if_icmp .ge 38, 3) := by decide +kernel
theorem dX7_judge_24 : decode cX7_judge 24 = .ok (.iload_n 2, 1) := by decide +kernel
theorem dX7_judge_25 : decode cX7_judge 25 = .ok (.ifCond .ge 34, 3) := by decide +kernel
theorem dX7_judge_28 : decode cX7_judge 28 = .ok (.aload_n 0, 1) := by decide +kernel
theorem dX7_judge_29 : decode cX7_judge 29 = .ok (.invokevirtual 194, 3) := by decide +kernel
theorem dX7_judge_32 : decode cX7_judge 32 = .ok (.aload_n 0, 1) := by decide +kernel
theorem dX7_judge_33 : decode cX7_judge 33 = .ok (.getfield 53, 3) := by decide +kernel
theorem dX7_judge_36 : decode cX7_judge 36 = .ok (.iload_n 3, 1) := by decide +kernel
theorem dX7_judge_37 : decode cX7_judge 37 = .ok (.iaload, 1) := by decide +kernel
theorem dX7_judge_38 : decode cX7_judge 38 = .ok (.if_icmp .ne 8, 3) := by decide +kernel
theorem dX7_judge_41 : decode cX7_judge 41 = .ok (.bipush (-9), 2) := by decide +kernel
theorem dX7_judge_43 : decode cX7_judge 43 = .ok (.goto 4, 3) := by decide +kernel
theorem dX7_judge_46 : decode cX7_judge 46 = .ok (.iload_n 3, 1) := by decide +kernel
theorem dX7_judge_47 : decode cX7_judge 47 = .ok (.istore_n 2, 1) := by decide +kernel
theorem dX7_judge_48 : decode cX7_judge 48 = .ok (.aload_n 0, 1) := by decide +kernel
theorem dX7_judge_49 : decode cX7_judge 49 = .ok (.iconst 0, 1) := by decide +kernel
theorem dX7_judge_50 : decode cX7_judge 50 = .ok (.invokevirtual 183, 3) := by decide +kernel
theorem dX7_judge_53 : decode cX7_judge 53 = .ok (.iinc 3 1, 3) := by decide +kernel
theorem dX7_judge_56 : decode cX7_judge 56 = .ok (.goto (-37), 3) := by decide +kernel
theorem dX7_judge_59 : decode cX7_judge 59 = .ok (.aload_n 0, 1) := by decide +kernel
theorem dX7_judge_60 : decode cX7_judge 60 = .ok (.invokevirtual 203, 3) := by decide +kernel
theorem dX7_judge_63 : decode cX7_judge 63 = .ok (.iload_n 2, 1) := by decide +kernel
theorem dX7_judge_64 : decode cX7_judge 64 = .ok (.ireturn, 1) := by decide +kernel
theorem dX7_clear_0 : decode cX7_clear 0 = .ok (.aload_n 0, 1) := by decide +kernel
theorem dX7_clear_1 : decode cX7_clear 1 = .ok (.getfield 288, 3) := by decide +kernel
theorem dX7_clear_4 : decode cX7_clear 4 = .ok (.istore_n 1, 1) := by decide +kernel
theorem dX7_clear_5 : decode cX7_clear 5 = .ok (.aload_n 0, 1) := by decide +kernel
theorem dX7_clear_6 : decode cX7_clear 6 = .ok (.iconst 0, 1) := by decide +kernel
theorem dX7_clear_7 : decode cX7_clear 7 = .ok (.putfield 288, 3) := by decide +kernel
theorem dX7_clear_10 : decode cX7_clear 10 = .ok (.iload_n 1, 1) := by decide +kernel
theorem dX7_clear_11 : decode cX7_clear 11 = .ok (.ireturn, 1) := by decide +kernel
set_option maxRecDepth 20000 in
theorem ggX7_lots_X7_bound : GoodIn wsX7_lots wsX7_bound := goodIn_r _ [9] (by decide +kernel) (by decide +kernel)
set_option maxRecDepth 20000 in
theorem gX7_lots_X7_bound : GoodIn wsX7_lots (va_wsS RX7 68 yX7_bound wsX7_bound) := goodIn_app (goodIn_of _ (by decide +kernel)) ggX7_lots_X7_bound
set_option maxRecDepth 20000 in
theorem ggX7_lots_X7_isIn : GoodIn wsX7_lots wsX7_isIn := goodIn_r _ [12] (by decide +kernel) (by decide +kernel)
set_option maxRecDepth 20000 in
theorem gX7_lots_X7_isIn : GoodIn wsX7_lots (va_wsS RX7 86 yX7_isIn wsX7_isIn) := goodIn_app (goodIn_of _ (by decide +kernel)) ggX7_lots_X7_isIn
set_option maxRecDepth 20000 in
theorem ggX7_lots_X7_no : GoodIn wsX7_lots wsX7_no := goodIn_r _ [16, 17, 85, 86, 87, 88, 89, 90, 91, 92, 93, 94, 95, 96, 97, 98, 99, 100, 101, 102, 103, 104, 105, 106, 107, 108, 109, 110] (by decide +kernel) (by decide +kernel)
set_option maxRecDepth 20000 in
theorem gX7_lots_X7_no : GoodIn wsX7_lots (wsV RX7 75 RX7 yX7_no wsX7_no) := goodIn_app (goodIn_of _ (by decide +kernel)) ggX7_lots_X7_no
set_option maxRecDepth 20000 in
theorem ggX7_lots_X7_thinks : GoodIn wsX7_lots wsX7_thinks := goodIn_r _ [21, 22, 23, 24, 8, 25, 26, 27, 28, 29, 30, 31, 4, 32, 33, 1, 34, 35, 36, 37, 38, 39, 40, 41, 42, 43, 44, 85, 86, 87, 88, 89, 90, 91, 92, 93, 94, 95, 96, 97, 98, 99, 100, 101, 102, 103, 104, 105, 106, 107, 108, 109, 110] (by decide +kernel) (by decide +kernel)
set_option maxRecDepth 20000 in
theorem gX7_lots_X7_thinks : GoodIn wsX7_lots (wsV RX7 200 RX7 yX7_thinks wsX7_thinks) := goodIn_app (goodIn_of _ (by decide +kernel)) ggX7_lots_X7_thinks
set_option maxRecDepth 20000 in
theorem ggX7_lots_X7_goesOn : GoodIn wsX7_lots wsX7_goesOn := goodIn_r _ [48, 49, 50, 51, 8, 52, 34, 1, 32, 53, 54, 55, 56, 4, 35, 57, 58, 59, 85, 86, 87, 88, 89, 90, 91, 92, 93, 94, 95, 96, 97, 98, 99, 100, 101, 102, 103, 104, 105, 106, 107, 108, 109, 110] (by decide +kernel) (by decide +kernel)
set_option maxRecDepth 20000 in
theorem gX7_lots_X7_goesOn : GoodIn wsX7_lots (wsV RX7 110 RX7 yX7_goesOn wsX7_goesOn) := goodIn_app (goodIn_of _ (by decide +kernel)) ggX7_lots_X7_goesOn
set_option maxRecDepth 20000 in
theorem ggX7_lots_X7_manyHear : GoodIn wsX7_lots wsX7_manyHear := goodIn_r _ [63, 1, 64, 65, 66, 8, 67, 33, 68, 69, 70, 71, 72, 32, 4, 30, 28, 73, 74, 75, 76, 31, 85, 86, 87, 88, 89, 90, 91, 92, 93, 94, 95, 96, 97, 98, 99, 100, 101, 102, 103, 104, 105, 106, 107, 108, 109, 110] (by decide +kernel) (by decide +kernel)
set_option maxRecDepth 20000 in
theorem gX7_lots_X7_manyHear : GoodIn wsX7_lots (wsV RX7 194 RX7 yX7_manyHear wsX7_manyHear) := goodIn_app (goodIn_of _ (by decide +kernel)) ggX7_lots_X7_manyHear
set_option maxRecDepth 20000 in
theorem ggX7_lots_X7_allSlept : GoodIn wsX7_lots wsX7_allSlept := goodIn_r _ [80, 1, 4, 85, 86, 87, 88, 89, 90, 91, 92, 93, 94, 95, 96, 97, 98, 99, 100, 101, 102, 103, 104, 105, 106, 107, 108, 109, 110] (by decide +kernel) (by decide +kernel)
set_option maxRecDepth 20000 in
theorem gX7_lots_X7_allSlept : GoodIn wsX7_lots (wsV RX7 285 RX7 yX7_allSlept wsX7_allSlept) := goodIn_app (goodIn_of _ (by decide +kernel)) ggX7_lots_X7_allSlept
set_option maxRecDepth 20000 in
theorem ggX7_lots_X7_forgets : GoodIn wsX7_lots wsX7_forgets := goodIn_r _ [84, 22, 23, 24, 8, 25, 26, 27, 28, 29, 30, 31, 4, 32, 33, 1, 34, 35, 36, 37, 38, 39, 40, 41, 42, 43, 44, 85, 86, 87, 88, 89, 90, 91, 92, 93, 94, 95, 96, 97, 98, 99, 100, 101, 102, 103, 104, 105, 106, 107, 108, 109, 110] (by decide +kernel) (by decide +kernel)
set_option maxRecDepth 20000 in
theorem gX7_lots_X7_forgets : GoodIn wsX7_lots (wsV RX7 203 RX7 yX7_forgets wsX7_forgets) := goodIn_app (goodIn_of _ (by decide +kernel)) ggX7_lots_X7_forgets
theorem dX7_lots_0 : decode cX7_lots 0 = .ok (.iload_n 1, 1) := by decide +kernel
theorem dX7_lots_1 : decode cX7_lots 1 = .ok (.iconst 1, 1) := by decide +kernel
theorem dX7_lots_2 : decode cX7_lots 2 = .ok (.bipush 20, 2) := by decide +kernel
theorem dX7_lots_4 : decode cX7_lots 4 = .ok (.invokestatic 68, 3) := by decide +kernel
theorem dX7_lots_7 : decode cX7_lots 7 = .ok (.istore 4, 2) := by decide +kernel
theorem dX7_lots_9 : decode cX7_lots 9 = .ok (.iload 4, 2) := by decide +kernel
theorem dX7_lots_11 : decode cX7_lots 11 = .ok (.ifCond .ne 16, 3) := by decide +kernel
theorem dX7_lots_14 : decode cX7_lots 14 = .ok (.iload_n 3, 1) := by decide +kernel
theorem dX7_lots_15 : decode cX7_lots 15 = .ok (.iconst 0, 1) := by decide +kernel
theorem dX7_lots_16 : decode cX7_lots 16 = .ok (.iconst 1, 1) := by decide +kernel
theorem dX7_lots_17 : decode cX7_lots 17 = .ok (.invokestatic 86, 3) := by decide +kernel
theorem dX7_lots_20 : decode cX7_lots 20 = .ok (.ifCond .ne 7, 3) := by decide +kernel
theorem dX7_lots_23 : decode cX7_lots 23 = .ok (.bipush (-2), 2) := by decide +kernel
theorem dX7_lots_25 : decode cX7_lots 25 = .ok (.istore 4, 2) := by decide +kernel
theorem dX7_lots_27 : decode cX7_lots 27 = .ok (.iload 4, 2) := by decide +kernel
theorem dX7_lots_29 : decode cX7_lots 29 = .ok (.ifCond .eq 10, 3) := by decide +kernel
theorem dX7_lots_32 : decode cX7_lots 32 = .ok (.aload_n 0, 1) := by decide +kernel
theorem dX7_lots_33 : decode cX7_lots 33 = .ok (.iload 4, 2) := by decide +kernel
theorem dX7_lots_35 : decode cX7_lots 35 = .ok (.invokevirtual 75, 3) := by decide +kernel
theorem dX7_lots_38 : decode cX7_lots 38 = .ok (.ireturn, 1) := by decide +kernel
theorem dX7_lots_39 : decode cX7_lots 39 = .ok (.iload_n 2, 1) := by decide +kernel
theorem dX7_lots_40 : decode cX7_lots 40 = .ok (.istore 5, 2) := by decide +kernel
theorem dX7_lots_42 : decode cX7_lots 42 = .ok (.iconst 0, 1) := by decide +kernel
theorem dX7_lots_43 : decode cX7_lots 43 = .ok (.istore 6, 2) := by decide +kernel
theorem dX7_lots_45 : decode cX7_lots 45 = .ok (.iconst 0, 1) := by decide +kernel
theorem dX7_lots_46 : decode cX7_lots 46 = .ok (.istore 7, 2) := by decide +kernel
theorem dX7_lots_48 : decode cX7_lots 48 = .ok (.iload 7, 2) := by decide +kernel
theorem dX7_lots_50 : decode cX7_lots 50 = .ok (.iload_n 1, 1) := by decide +kernel
theorem dX7_lots_51 : decode cX7_lots 51 = .ok (.if_icmp .ge 93, 3) := by decide +kernel
theorem dX7_lots_54 : decode cX7_lots 54 = .ok (.aload_n 0, 1) := by decide +kernel
theorem dX7_lots_55 : decode cX7_lots 55 = .ok (.invokevirtual 200, 3) := by decide +kernel
theorem dX7_lots_58 : decode cX7_lots 58 = .ok (.iconst 0, 1) := by decide +kernel
theorem dX7_lots_59 : decode cX7_lots 59 = .ok (.istore 8, 2) := by decide +kernel
theorem dX7_lots_61 : decode cX7_lots 61 = .ok (.iload 8, 2) := by decide +kernel
theorem dX7_lots_63 : decode cX7_lots 63 = .ok (.aload_n 0, 1) := by decide +kernel
theorem dX7_lots_64 : decode cX7_lots 64 = .ok (.getfield 65, 3) := by decide +kernel
theorem dX7_lots_67 : decode cX7_lots 67 = .ok (.if_icmp .ge 41, 3) := by decide +kernel
theorem dX7_lots_70 : decode cX7_lots 70 = .ok (.iload 5, 2) := by decide +kernel
theorem dX7_lots_72 : decode cX7_lots 72 = .ok (.ldc_w 297, 3) := by decide +kernel
theorem dX7_lots_75 : decode cX7_lots 75 = .ok (.imul, 1) := by decide +kernel
theorem dX7_lots_76 : decode cX7_lots 76 = .ok (.ldc_w 298, 3) := by decide +kernel
theorem dX7_lots_79 : decode cX7_lots 79 = .ok (.iadd, 1) := by decide +kernel
theorem dX7_lots_80 : decode cX7_lots 80 = .ok (.istore 5, 2) := by decide +kernel
theorem dX7_lots_82 : decode cX7_lots 82 = .ok (.aload_n 0, 1) := by decide +kernel
theorem dX7_lots_83 : decode cX7_lots 83 = .ok (.getfield 25, 3) := by decide +kernel
theorem dX7_lots_86 : decode cX7_lots 86 = .ok (.iload 8, 2) := by decide +kernel
theorem dX7_lots_88 : decode cX7_lots 88 = .ok (.iload 5, 2) := by decide +kernel
theorem dX7_lots_90 : decode cX7_lots 90 = .ok (.ldc_w 299, 3) := by decide +kernel
theorem dX7_lots_93 : decode cX7_lots 93 = .ok (.iand, 1) := by decide +kernel
theorem dX7_lots_94 : decode cX7_lots 94 = .ok (.sipush 256, 3) := by decide +kernel
theorem dX7_lots_97 : decode cX7_lots 97 = .ok (.idiv, 1) := by decide +kernel
theorem dX7_lots_98 : decode cX7_lots 98 = .ok (.bipush 20, 2) := by decide +kernel
theorem dX7_lots_100 : decode cX7_lots 100 = .ok (.irem, 1) := by decide +kernel
theorem dX7_lots_101 : decode cX7_lots 101 = .ok (.iastore, 1) := by decide +kernel
theorem dX7_lots_102 : decode cX7_lots 102 = .ok (.iinc 8 1, 3) := by decide +kernel
theorem dX7_lots_105 : decode cX7_lots 105 = .ok (.goto (-44), 3) := by decide +kernel
theorem dX7_lots_108 : decode cX7_lots 108 = .ok (.aload_n 0, 1) := by decide +kernel
theorem dX7_lots_109 : decode cX7_lots 109 = .ok (.bipush 10, 2) := by decide +kernel
theorem dX7_lots_111 : decode cX7_lots 111 = .ok (.invokevirtual 110, 3) := by decide +kernel
theorem dX7_lots_114 : decode cX7_lots 114 = .ok (.iload 6, 2) := by decide +kernel
theorem dX7_lots_116 : decode cX7_lots 116 = .ok (.iload_n 3, 1) := by decide +kernel
theorem dX7_lots_117 : decode cX7_lots 117 = .ok (.ifCond .ne 10, 3) := by decide +kernel
theorem dX7_lots_120 : decode cX7_lots 120 = .ok (.aload_n 0, 1) := by decide +kernel
theorem dX7_lots_121 : decode cX7_lots 121 = .ok (.invokevirtual 194, 3) := by decide +kernel
theorem dX7_lots_124 : decode cX7_lots 124 = .ok (.goto 7, 3) := by decide +kernel
theorem dX7_lots_127 : decode cX7_lots 127 = .ok (.aload_n 0, 1) := by decide +kernel
theorem dX7_lots_128 : decode cX7_lots 128 = .ok (.invokevirtual 285, 3) := by decide +kernel
theorem dX7_lots_131 : decode cX7_lots 131 = .ok (.iadd, 1) := by decide +kernel
theorem dX7_lots_132 : decode cX7_lots 132 = .ok (.istore 6, 2) := by decide +kernel
theorem dX7_lots_134 : decode cX7_lots 134 = .ok (.aload_n 0, 1) := by decide +kernel
theorem dX7_lots_135 : decode cX7_lots 135 = .ok (.invokevirtual 203, 3) := by decide +kernel
theorem dX7_lots_138 : decode cX7_lots 138 = .ok (.iinc 7 1, 3) := by decide +kernel
theorem dX7_lots_141 : decode cX7_lots 141 = .ok (.goto (-93), 3) := by decide +kernel
theorem dX7_lots_144 : decode cX7_lots 144 = .ok (.iload 6, 2) := by decide +kernel
theorem dX7_lots_146 : decode cX7_lots 146 = .ok (.ireturn, 1) := by decide +kernel
set_option maxRecDepth 20000 in
theorem ggX7_count_X7_isIn : GoodIn wsX7_count wsX7_isIn := goodIn_r _ [11] (by decide +kernel) (by decide +kernel)
set_option maxRecDepth 20000 in
theorem gX7_count_X7_isIn : GoodIn wsX7_count (va_wsS RX7 86 yX7_isIn wsX7_isIn) := goodIn_app (goodIn_of _ (by decide +kernel)) ggX7_count_X7_isIn
set_option maxRecDepth 20000 in
theorem ggX7_count_X7_manyHear : GoodIn wsX7_count wsX7_manyHear := goodIn_r _ [15, 3, 16, 17, 18, 10, 19, 2, 20, 21, 22, 23, 24, 25, 26, 27, 28, 29, 30, 31, 32, 33, 38, 39, 40, 41, 42, 43, 44, 45, 46, 47, 48, 49, 50, 51, 52, 53, 54, 55, 56, 57, 58, 59, 60, 61, 62, 63] (by decide +kernel) (by decide +kernel)
set_option maxRecDepth 20000 in
theorem gX7_count_X7_manyHear : GoodIn wsX7_count (wsV RX7 194 RX7 yX7_manyHear wsX7_manyHear) := goodIn_app (goodIn_of _ (by decide +kernel)) ggX7_count_X7_manyHear
set_option maxRecDepth 20000 in
theorem ggX7_count_X7_allSlept : GoodIn wsX7_count wsX7_allSlept := goodIn_r _ [37, 3, 26, 38, 39, 40, 41, 42, 43, 44, 45, 46, 47, 48, 49, 50, 51, 52, 53, 54, 55, 56, 57, 58, 59, 60, 61, 62, 63] (by decide +kernel) (by decide +kernel)
set_option maxRecDepth 20000 in
theorem gX7_count_X7_allSlept : GoodIn wsX7_count (wsV RX7 285 RX7 yX7_allSlept wsX7_allSlept) := goodIn_app (goodIn_of _ (by decide +kernel)) ggX7_count_X7_allSlept
theorem dX7_count_0 : decode cX7_count 0 = .ok (.iload_n 1, 1) := by decide +kernel
theorem dX7_count_1 : decode cX7_count 1 = .ok (.bipush 11, 2) := by decide +kernel
theorem dX7_count_3 : decode cX7_count 3 = .ok (.bipush 16, 2) := by decide +kernel
theorem dX7_count_5 : decode cX7_count 5 = .ok (.invokestatic 86, 3) := by decide +kernel
theorem dX7_count_8 : decode cX7_count 8 = .ok (.ifCond .eq 13, 3) := by decide +kernel
theorem dX7_count_11 : decode cX7_count 11 = .ok (.aload_n 0, 1) := by decide +kernel
theorem dX7_count_12 : decode cX7_count 12 = .ok (.getfield 7, 3) := by decide +kernel
theorem dX7_count_15 : decode cX7_count 15 = .ok (.iload_n 1, 1) := by decide +kernel
theorem dX7_count_16 : decode cX7_count 16 = .ok (.bipush 10, 2) := by decide +kernel
theorem dX7_count_18 : decode cX7_count 18 = .ok (.isub, 1) := by decide +kernel
theorem dX7_count_19 : decode cX7_count 19 = .ok (.iaload, 1) := by decide +kernel
theorem dX7_count_20 : decode cX7_count 20 = .ok (.ireturn, 1) := by decide +kernel
theorem dX7_count_21 : decode cX7_count 21 = .ok (.iload_n 1, 1) := by decide +kernel
theorem dX7_count_22 : decode cX7_count 22 = .ok (.tableswitch 86 0 7 #[46, 51, 56, 61, 66, 71, 76, 81], 46) := by decide +kernel
theorem dX7_count_68 : decode cX7_count 68 = .ok (.aload_n 0, 1) := by decide +kernel
theorem dX7_count_69 : decode cX7_count 69 = .ok (.getfield 62, 3) := by decide +kernel
theorem dX7_count_72 : decode cX7_count 72 = .ok (.ireturn, 1) := by decide +kernel
theorem dX7_count_73 : decode cX7_count 73 = .ok (.aload_n 0, 1) := by decide +kernel
theorem dX7_count_74 : decode cX7_count 74 = .ok (.getfield 65, 3) := by decide +kernel
theorem dX7_count_77 : decode cX7_count 77 = .ok (.ireturn, 1) := by decide +kernel
theorem dX7_count_78 : decode cX7_count 78 = .ok (.aload_n 0, 1) := by decide +kernel
theorem dX7_count_79 : decode cX7_count 79 = .ok (.getfield 107, 3) := by decide +kernel
theorem dX7_count_82 : decode cX7_count 82 = .ok (.ireturn, 1) := by decide +kernel
theorem dX7_count_83 : decode cX7_count 83 = .ok (.aload_n 0, 1) := by decide +kernel
theorem dX7_count_84 : decode cX7_count 84 = .ok (.getfield 56, 3) := by decide +kernel
theorem dX7_count_87 : decode cX7_count 87 = .ok (.ireturn, 1) := by decide +kernel
theorem dX7_count_88 : decode cX7_count 88 = .ok (.aload_n 0, 1) := by decide +kernel
theorem dX7_count_89 : decode cX7_count 89 = .ok (.invokevirtual 194, 3) := by decide +kernel
theorem dX7_count_92 : decode cX7_count 92 = .ok (.ireturn, 1) := by decide +kernel
theorem dX7_count_93 : decode cX7_count 93 = .ok (.aload_n 0, 1) := by decide +kernel
theorem dX7_count_94 : decode cX7_count 94 = .ok (.invokevirtual 285, 3) := by decide +kernel
theorem dX7_count_97 : decode cX7_count 97 = .ok (.ireturn, 1) := by decide +kernel
theorem dX7_count_98 : decode cX7_count 98 = .ok (.aload_n 0, 1) := by decide +kernel
theorem dX7_count_99 : decode cX7_count 99 = .ok (.getfield 288, 3) := by decide +kernel
theorem dX7_count_102 : decode cX7_count 102 = .ok (.ireturn, 1) := by decide +kernel
theorem dX7_count_103 : decode cX7_count 103 = .ok (.aload_n 0, 1) := by decide +kernel
theorem dX7_count_104 : decode cX7_count 104 = .ok (.getfield 72, 3) := by decide +kernel
theorem dX7_count_107 : decode cX7_count 107 = .ok (.ireturn, 1) := by decide +kernel
theorem dX7_count_108 : decode cX7_count 108 = .ok (.bipush (-9), 2) := by decide +kernel
theorem dX7_count_110 : decode cX7_count 110 = .ok (.ireturn, 1) := by decide +kernel
theorem dJ11_isValidCodePoint_9a6ad_0 : decode cJ11_isValidCodePoint_9a6ad 0 = .ok (.iload_n 0, 1) := by decide +kernel
theorem dJ11_isValidCodePoint_9a6ad_1 : decode cJ11_isValidCodePoint_9a6ad 1 = .ok (.bipush 16, 2) := by decide +kernel
theorem dJ11_isValidCodePoint_9a6ad_3 : decode cJ11_isValidCodePoint_9a6ad 3 = .ok (.iushr, 1) := by decide +kernel
theorem dJ11_isValidCodePoint_9a6ad_4 : decode cJ11_isValidCodePoint_9a6ad 4 = .ok (.istore_n 1, 1) := by decide +kernel
theorem dJ11_isValidCodePoint_9a6ad_5 : decode cJ11_isValidCodePoint_9a6ad 5 = .ok (.iload_n 1, 1) := by decide +kernel
theorem dJ11_isValidCodePoint_9a6ad_6 : decode cJ11_isValidCodePoint_9a6ad 6 = .ok (.bipush 17, 2) := by decide +kernel
theorem dJ11_isValidCodePoint_9a6ad_8 : decode cJ11_isValidCodePoint_9a6ad 8 = .ok (.if_icmp .ge 7, 3) := by decide +kernel
theorem dJ11_isValidCodePoint_9a6ad_11 : decode cJ11_isValidCodePoint_9a6ad 11 = .ok (.iconst 1, 1) := by decide +kernel
theorem dJ11_isValidCodePoint_9a6ad_12 : decode cJ11_isValidCodePoint_9a6ad 12 = .ok (.goto 4, 3) := by decide +kernel
theorem dJ11_isValidCodePoint_9a6ad_15 : decode cJ11_isValidCodePoint_9a6ad 15 = .ok (.iconst 0, 1) := by decide +kernel
theorem dJ11_isValidCodePoint_9a6ad_16 : decode cJ11_isValidCodePoint_9a6ad 16 = .ok (.ireturn, 1) := by decide +kernel
theorem dJ11_highSurrogate_5068e_0 : decode cJ11_highSurrogate_5068e 0 = .ok (.iload_n 0, 1) := by decide +kernel
theorem dJ11_highSurrogate_5068e_1 : decode cJ11_highSurrogate_5068e 1 = .ok (.bipush 10, 2) := by decide +kernel
theorem dJ11_highSurrogate_5068e_3 : decode cJ11_highSurrogate_5068e 3 = .ok (.iushr, 1) := by decide +kernel
theorem dJ11_highSurrogate_5068e_4 : decode cJ11_highSurrogate_5068e 4 = .ok (.ldc 110, 2) := by decide +kernel
theorem dJ11_highSurrogate_5068e_6 : decode cJ11_highSurrogate_5068e 6 = .ok (.iadd, 1) := by decide +kernel
theorem dJ11_highSurrogate_5068e_7 : decode cJ11_highSurrogate_5068e 7 = .ok (.i2c, 1) := by decide +kernel
theorem dJ11_highSurrogate_5068e_8 : decode cJ11_highSurrogate_5068e 8 = .ok (.ireturn, 1) := by decide +kernel
theorem dJ11_lowSurrogate_5068e_0 : decode cJ11_lowSurrogate_5068e 0 = .ok (.iload_n 0, 1) := by decide +kernel
theorem dJ11_lowSurrogate_5068e_1 : decode cJ11_lowSurrogate_5068e 1 = .ok (.sipush 1023, 3) := by decide +kernel
theorem dJ11_lowSurrogate_5068e_4 : decode cJ11_lowSurrogate_5068e 4 = .ok (.iand, 1) := by decide +kernel
theorem dJ11_lowSurrogate_5068e_5 : decode cJ11_lowSurrogate_5068e 5 = .ok (.ldc 76, 2) := by decide +kernel
theorem dJ11_lowSurrogate_5068e_7 : decode cJ11_lowSurrogate_5068e 7 = .ok (.iadd, 1) := by decide +kernel
theorem dJ11_lowSurrogate_5068e_8 : decode cJ11_lowSurrogate_5068e 8 = .ok (.i2c, 1) := by decide +kernel
theorem dJ11_lowSurrogate_5068e_9 : decode cJ11_lowSurrogate_5068e 9 = .ok (.ireturn, 1) := by decide +kernel
theorem dJ6_bitCount_0f7a4_0 : decode cJ6_bitCount_0f7a4 0 = .ok (.iload_n 0, 1) := by decide +kernel
theorem dJ6_bitCount_0f7a4_1 : decode cJ6_bitCount_0f7a4 1 = .ok (.iload_n 0, 1) := by decide +kernel
theorem dJ6_bitCount_0f7a4_2 : decode cJ6_bitCount_0f7a4 2 = .ok (.iconst 1, 1) := by decide +kernel
theorem dJ6_bitCount_0f7a4_3 : decode cJ6_bitCount_0f7a4 3 = .ok (.iushr, 1) := by decide +kernel
theorem dJ6_bitCount_0f7a4_4 : decode cJ6_bitCount_0f7a4 4 = .ok (.ldc_w 265, 3) := by decide +kernel
theorem dJ6_bitCount_0f7a4_7 : decode cJ6_bitCount_0f7a4 7 = .ok (.iand, 1) := by decide +kernel
theorem dJ6_bitCount_0f7a4_8 : decode cJ6_bitCount_0f7a4 8 = .ok (.isub, 1) := by decide +kernel
theorem dJ6_bitCount_0f7a4_9 : decode cJ6_bitCount_0f7a4 9 = .ok (.istore_n 0, 1) := by decide +kernel
theorem dJ6_bitCount_0f7a4_10 : decode cJ6_bitCount_0f7a4 10 = .ok (.iload_n 0, 1) := by decide +kernel
theorem dJ6_bitCount_0f7a4_11 : decode cJ6_bitCount_0f7a4 11 = .ok (.ldc_w 266, 3) := by decide +kernel
theorem dJ6_bitCount_0f7a4_14 : decode cJ6_bitCount_0f7a4 14 = .ok (.iand, 1) := by decide +kernel
theorem dJ6_bitCount_0f7a4_15 : decode cJ6_bitCount_0f7a4 15 = .ok (.iload_n 0, 1) := by decide +kernel
theorem dJ6_bitCount_0f7a4_16 : decode cJ6_bitCount_0f7a4 16 = .ok (.iconst 2, 1) := by decide +kernel
theorem dJ6_bitCount_0f7a4_17 : decode cJ6_bitCount_0f7a4 17 = .ok (.iushr, 1) := by decide +kernel
theorem dJ6_bitCount_0f7a4_18 : decode cJ6_bitCount_0f7a4 18 = .ok (.ldc_w 266, 3) := by decide +kernel
theorem dJ6_bitCount_0f7a4_21 : decode cJ6_bitCount_0f7a4 21 = .ok (.iand, 1) := by decide +kernel
theorem dJ6_bitCount_0f7a4_22 : decode cJ6_bitCount_0f7a4 22 = .ok (.iadd, 1) := by decide +kernel
theorem dJ6_bitCount_0f7a4_23 : decode cJ6_bitCount_0f7a4 23 = .ok (.istore_n 0, 1) := by decide +kernel
theorem dJ6_bitCount_0f7a4_24 : decode cJ6_bitCount_0f7a4 24 = .ok (.iload_n 0, 1) := by decide +kernel
theorem dJ6_bitCount_0f7a4_25 : decode cJ6_bitCount_0f7a4 25 = .ok (.iload_n 0, 1) := by decide +kernel
theorem dJ6_bitCount_0f7a4_26 : decode cJ6_bitCount_0f7a4 26 = .ok (.iconst 4, 1) := by decide +kernel
theorem dJ6_bitCount_0f7a4_27 : decode cJ6_bitCount_0f7a4 27 = .ok (.iushr, 1) := by decide +kernel
theorem dJ6_bitCount_0f7a4_28 : decode cJ6_bitCount_0f7a4 28 = .ok (.iadd, 1) := by decide +kernel
theorem dJ6_bitCount_0f7a4_29 : decode cJ6_bitCount_0f7a4 29 = .ok (.ldc_w 267, 3) := by decide +kernel
theorem dJ6_bitCount_0f7a4_32 : decode cJ6_bitCount_0f7a4 32 = .ok (.iand, 1) := by decide +kernel
theorem dJ6_bitCount_0f7a4_33 : decode cJ6_bitCount_0f7a4 33 = .ok (.istore_n 0, 1) := by decide +kernel
theorem dJ6_bitCount_0f7a4_34 : decode cJ6_bitCount_0f7a4 34 = .ok (.iload_n 0, 1) := by decide +kernel
theorem dJ6_bitCount_0f7a4_35 : decode cJ6_bitCount_0f7a4 35 = .ok (.iload_n 0, 1) := by decide +kernel
theorem dJ6_bitCount_0f7a4_36 : decode cJ6_bitCount_0f7a4 36 = .ok (.bipush 8, 2) := by decide +kernel
theorem dJ6_bitCount_0f7a4_38 : decode cJ6_bitCount_0f7a4 38 = .ok (.iushr, 1) := by decide +kernel
theorem dJ6_bitCount_0f7a4_39 : decode cJ6_bitCount_0f7a4 39 = .ok (.iadd, 1) := by decide +kernel
theorem dJ6_bitCount_0f7a4_40 : decode cJ6_bitCount_0f7a4 40 = .ok (.istore_n 0, 1) := by decide +kernel
theorem dJ6_bitCount_0f7a4_41 : decode cJ6_bitCount_0f7a4 41 = .ok (.iload_n 0, 1) := by decide +kernel
theorem dJ6_bitCount_0f7a4_42 : decode cJ6_bitCount_0f7a4 42 = .ok (.iload_n 0, 1) := by decide +kernel
theorem dJ6_bitCount_0f7a4_43 : decode cJ6_bitCount_0f7a4 43 = .ok (.bipush 16, 2) := by decide +kernel
theorem dJ6_bitCount_0f7a4_45 : decode cJ6_bitCount_0f7a4 45 = .ok (.iushr, 1) := by decide +kernel
theorem dJ6_bitCount_0f7a4_46 : decode cJ6_bitCount_0f7a4 46 = .ok (.iadd, 1) := by decide +kernel
theorem dJ6_bitCount_0f7a4_47 : decode cJ6_bitCount_0f7a4 47 = .ok (.istore_n 0, 1) := by decide +kernel
theorem dJ6_bitCount_0f7a4_48 : decode cJ6_bitCount_0f7a4 48 = .ok (.iload_n 0, 1) := by decide +kernel
theorem dJ6_bitCount_0f7a4_49 : decode cJ6_bitCount_0f7a4 49 = .ok (.bipush 63, 2) := by decide +kernel
theorem dJ6_bitCount_0f7a4_51 : decode cJ6_bitCount_0f7a4 51 = .ok (.iand, 1) := by decide +kernel
theorem dJ6_bitCount_0f7a4_52 : decode cJ6_bitCount_0f7a4 52 = .ok (.ireturn, 1) := by decide +kernel
theorem dJ9_max_7cf53_0 : decode cJ9_max_7cf53 0 = .ok (.iload_n 0, 1) := by decide +kernel
theorem dJ9_max_7cf53_1 : decode cJ9_max_7cf53 1 = .ok (.iload_n 1, 1) := by decide +kernel
theorem dJ9_max_7cf53_2 : decode cJ9_max_7cf53 2 = .ok (.if_icmp .lt 7, 3) := by decide +kernel
theorem dJ9_max_7cf53_5 : decode cJ9_max_7cf53 5 = .ok (.iload_n 0, 1) := by decide +kernel
theorem dJ9_max_7cf53_6 : decode cJ9_max_7cf53 6 = .ok (.goto 4, 3) := by decide +kernel
theorem dJ9_max_7cf53_9 : decode cJ9_max_7cf53 9 = .ok (.iload_n 1, 1) := by decide +kernel
theorem dJ9_max_7cf53_10 : decode cJ9_max_7cf53 10 = .ok (.ireturn, 1) := by decide +kernel
theorem dJ9_min_7cf53_0 : decode cJ9_min_7cf53 0 = .ok (.iload_n 0, 1) := by decide +kernel
theorem dJ9_min_7cf53_1 : decode cJ9_min_7cf53 1 = .ok (.iload_n 1, 1) := by decide +kernel
theorem dJ9_min_7cf53_2 : decode cJ9_min_7cf53 2 = .ok (.if_icmp .gt 7, 3) := by decide +kernel
theorem dJ9_min_7cf53_5 : decode cJ9_min_7cf53 5 = .ok (.iload_n 0, 1) := by decide +kernel
theorem dJ9_min_7cf53_6 : decode cJ9_min_7cf53 6 = .ok (.goto 4, 3) := by decide +kernel
theorem dJ9_min_7cf53_9 : decode cJ9_min_7cf53 9 = .ok (.iload_n 1, 1) := by decide +kernel
theorem dJ9_min_7cf53_10 : decode cJ9_min_7cf53 10 = .ok (.ireturn, 1) := by decide +kernel
set_option maxRecDepth 20000 in
theorem ggJ0_length_8abf5_J0_coder_7d493 : GoodIn wsJ0_length_8abf5 wsJ0_coder_7d493 := goodIn_r _ [6, 7, 8] (by decide +kernel) (by decide +kernel)
set_option maxRecDepth 20000 in
theorem gJ0_length_8abf5_J0_coder_7d493 : GoodIn wsJ0_length_8abf5 (wsV RJ0 335 RJ0 yJ0_coder_7d493 wsJ0_coder_7d493) := goodIn_app (goodIn_of _ (by decide +kernel)) ggJ0_length_8abf5_J0_coder_7d493
theorem dJ0_length_8abf5_0 : decode cJ0_length_8abf5 0 = .ok (.aload_n 0, 1) := by decide +kernel
theorem dJ0_length_8abf5_1 : decode cJ0_length_8abf5 1 = .ok (.getfield 9, 3) := by decide +kernel
theorem dJ0_length_8abf5_4 : decode cJ0_length_8abf5 4 = .ok (.arraylength, 1) := by decide +kernel
theorem dJ0_length_8abf5_5 : decode cJ0_length_8abf5 5 = .ok (.aload_n 0, 1) := by decide +kernel
theorem dJ0_length_8abf5_6 : decode cJ0_length_8abf5 6 = .ok (.invokevirtual 335, 3) := by decide +kernel
theorem dJ0_length_8abf5_9 : decode cJ0_length_8abf5 9 = .ok (.ishr, 1) := by decide +kernel
theorem dJ0_length_8abf5_10 : decode cJ0_length_8abf5 10 = .ok (.ireturn, 1) := by decide +kernel
set_option maxRecDepth 20000 in
theorem ggJ0_indexOf_0f7a4_J0_indexOf_7cf53 : GoodIn wsJ0_indexOf_0f7a4 wsJ0_indexOf_7cf53 := goodIn_r _ [5, 6, 7, 8, 9, 4, 10, 11, 12, 13, 14, 15, 16, 17, 18, 19, 20, 21, 22, 23, 24, 25, 26, 27, 28, 29, 30, 31, 32, 33, 34, 35, 36, 37, 38, 39, 40, 41, 42, 43, 44, 45, 46, 47, 48, 49, 50, 51, 52, 53, 54, 55, 56, 57, 58, 59, 60, 61, 62, 63, 64, 65, 66, 67, 68, 69, 70, 71, 72, 73, 74, 75, 76, 77, 78, 79, 80, 81, 82, 83, 84, 85] (by decide +kernel) (by decide +kernel)
set_option maxRecDepth 20000 in
theorem gJ0_indexOf_0f7a4_J0_indexOf_7cf53 : GoodIn wsJ0_indexOf_0f7a4 (wsV RJ0 633 RJ0 yJ0_indexOf_7cf53 wsJ0_indexOf_7cf53) := goodIn_app (goodIn_of _ (by decide +kernel)) ggJ0_indexOf_0f7a4_J0_indexOf_7cf53
theorem dJ0_indexOf_0f7a4_0 : decode cJ0_indexOf_0f7a4 0 = .ok (.aload_n 0, 1) := by decide +kernel
theorem dJ0_indexOf_0f7a4_1 : decode cJ0_indexOf_0f7a4 1 = .ok (.iload_n 1, 1) := by decide +kernel
theorem dJ0_indexOf_0f7a4_2 : decode cJ0_indexOf_0f7a4 2 = .ok (.iconst 0, 1) := by decide +kernel
theorem dJ0_indexOf_0f7a4_3 : decode cJ0_indexOf_0f7a4 3 = .ok (.invokevirtual 633, 3) := by decide +kernel
theorem dJ0_indexOf_0f7a4_6 : decode cJ0_indexOf_0f7a4 6 = .ok (.ireturn, 1) := by decide +kernel
set_option maxRecDepth 20000 in
theorem ggJ0_indexOf_7cf53_J0_isLatin1_aae02 : GoodIn wsJ0_indexOf_7cf53 wsJ0_isLatin1_aae02 := goodIn_r _ [6, 7, 8] (by decide +kernel) (by decide +kernel)
set_option maxRecDepth 20000 in
theorem gJ0_indexOf_7cf53_J0_isLatin1_aae02 : GoodIn wsJ0_indexOf_7cf53 (wsV RJ0 492 RJ0 yJ0_isLatin1_aae02 wsJ0_isLatin1_aae02) := goodIn_app (goodIn_of _ (by decide +kernel)) ggJ0_indexOf_7cf53_J0_isLatin1_aae02
set_option maxRecDepth 20000 in
theorem ggJ0_indexOf_7cf53_J0_length_8abf5 : GoodIn wsJ0_indexOf_7cf53 wsJ0_length_8abf5 := goodIn_r _ [12, 1, 13, 14, 15, 5, 16, 7, 8] (by decide +kernel) (by decide +kernel)
set_option maxRecDepth 20000 in
theorem gJ0_indexOf_7cf53_J0_length_8abf5 : GoodIn wsJ0_indexOf_7cf53 (wsV RJ0 505 RJ0 yJ0_length_8abf5 wsJ0_length_8abf5) := goodIn_app (goodIn_of _ (by decide +kernel)) ggJ0_indexOf_7cf53_J0_length_8abf5
set_option maxRecDepth 20000 in
theorem ggJ0_indexOf_7cf53_J1_indexOf_4cfef : GoodIn wsJ0_indexOf_7cf53 wsJ1_indexOf_4cfef := goodIn_r _ [20, 21, 22, 23, 24, 25, 26, 27, 28, 29, 19, 30, 31, 32, 33] (by decide +kernel) (by decide +kernel)
set_option maxRecDepth 20000 in
theorem gJ0_indexOf_7cf53_J1_indexOf_4cfef : GoodIn wsJ0_indexOf_7cf53 (va_wsS RJ0 637 yJ1_indexOf_4cfef wsJ1_indexOf_4cfef) := goodIn_app (goodIn_of _ (by decide +kernel)) ggJ0_indexOf_7cf53_J1_indexOf_4cfef
set_option maxRecDepth 20000 in
theorem ggJ0_indexOf_7cf53_J2_indexOf_4cfef : GoodIn wsJ0_indexOf_7cf53 wsJ2_indexOf_4cfef := goodIn_r _ [37, 38, 22, 23, 24, 39, 26, 27, 40, 41, 42, 36, 43, 44, 45, 46, 47, 48, 49, 50, 51, 5, 52, 53, 54, 55, 56, 57, 58, 59, 60, 61, 62, 63, 64, 65, 66, 67, 68, 69, 70, 71, 72, 73, 74, 75, 76, 77, 78, 79, 80, 81] (by decide +kernel) (by decide +kernel)
set_option maxRecDepth 20000 in
theorem gJ0_indexOf_7cf53_J2_indexOf_4cfef : GoodIn wsJ0_indexOf_7cf53 (va_wsS RJ0 640 yJ2_indexOf_4cfef wsJ2_indexOf_4cfef) := goodIn_app (goodIn_of _ (by decide +kernel)) ggJ0_indexOf_7cf53_J2_indexOf_4cfef
theorem dJ0_indexOf_7cf53_0 : decode cJ0_indexOf_7cf53 0 = .ok (.aload_n 0, 1) := by decide +kernel
theorem dJ0_indexOf_7cf53_1 : decode cJ0_indexOf_7cf53 1 = .ok (.invokevirtual 492, 3) := by decide +kernel
theorem dJ0_indexOf_7cf53_4 : decode cJ0_indexOf_7cf53 4 = .ok (.ifCond .eq 19, 3) := by decide +kernel
theorem dJ0_indexOf_7cf53_7 : decode cJ0_indexOf_7cf53 7 = .ok (.aload_n 0, 1) := by decide +kernel
theorem dJ0_indexOf_7cf53_8 : decode cJ0_indexOf_7cf53 8 = .ok (.getfield 9, 3) := by decide +kernel
theorem dJ0_indexOf_7cf53_11 : decode cJ0_indexOf_7cf53 11 = .ok (.iload_n 1, 1) := by decide +kernel
theorem dJ0_indexOf_7cf53_12 : decode cJ0_indexOf_7cf53 12 = .ok (.iload_n 2, 1) := by decide +kernel
theorem dJ0_indexOf_7cf53_13 : decode cJ0_indexOf_7cf53 13 = .ok (.aload_n 0, 1) := by decide +kernel
theorem dJ0_indexOf_7cf53_14 : decode cJ0_indexOf_7cf53 14 = .ok (.invokevirtual 505, 3) := by decide +kernel
theorem dJ0_indexOf_7cf53_17 : decode cJ0_indexOf_7cf53 17 = .ok (.invokestatic 637, 3) := by decide +kernel
theorem dJ0_indexOf_7cf53_20 : decode cJ0_indexOf_7cf53 20 = .ok (.goto 16, 3) := by decide +kernel
theorem dJ0_indexOf_7cf53_23 : decode cJ0_indexOf_7cf53 23 = .ok (.aload_n 0, 1) := by decide +kernel
theorem dJ0_indexOf_7cf53_24 : decode cJ0_indexOf_7cf53 24 = .ok (.getfield 9, 3) := by decide +kernel
theorem dJ0_indexOf_7cf53_27 : decode cJ0_indexOf_7cf53 27 = .ok (.iload_n 1, 1) := by decide +kernel
theorem dJ0_indexOf_7cf53_28 : decode cJ0_indexOf_7cf53 28 = .ok (.iload_n 2, 1) := by decide +kernel
theorem dJ0_indexOf_7cf53_29 : decode cJ0_indexOf_7cf53 29 = .ok (.aload_n 0, 1) := by decide +kernel
theorem dJ0_indexOf_7cf53_30 : decode cJ0_indexOf_7cf53 30 = .ok (.invokevirtual 505, 3) := by decide +kernel
theorem dJ0_indexOf_7cf53_33 : decode cJ0_indexOf_7cf53 33 = .ok (.invokestatic 640, 3) := by decide +kernel
theorem dJ0_indexOf_7cf53_36 : decode cJ0_indexOf_7cf53 36 = .ok (.ireturn, 1) := by decide +kernel
theorem dJ0_coder_7d493_0 : decode cJ0_coder_7d493 0 = .ok (.getstatic 38, 3) := by decide +kernel
theorem dJ0_coder_7d493_3 : decode cJ0_coder_7d493 3 = .ok (.ifCond .eq 10, 3) := by decide +kernel
theorem dJ0_coder_7d493_6 : decode cJ0_coder_7d493 6 = .ok (.aload_n 0, 1) := by decide +kernel
theorem dJ0_coder_7d493_7 : decode cJ0_coder_7d493 7 = .ok (.getfield 15, 3) := by decide +kernel
theorem dJ0_coder_7d493_10 : decode cJ0_coder_7d493 10 = .ok (.goto 4, 3) := by decide +kernel
theorem dJ0_coder_7d493_13 : decode cJ0_coder_7d493 13 = .ok (.iconst 1, 1) := by decide +kernel
theorem dJ0_coder_7d493_14 : decode cJ0_coder_7d493 14 = .ok (.ireturn, 1) := by decide +kernel
theorem dJ0_isLatin1_aae02_0 : decode cJ0_isLatin1_aae02 0 = .ok (.getstatic 38, 3) := by decide +kernel
theorem dJ0_isLatin1_aae02_3 : decode cJ0_isLatin1_aae02 3 = .ok (.ifCond .eq 14, 3) := by decide +kernel
theorem dJ0_isLatin1_aae02_6 : decode cJ0_isLatin1_aae02 6 = .ok (.aload_n 0, 1) := by decide +kernel
theorem dJ0_isLatin1_aae02_7 : decode cJ0_isLatin1_aae02 7 = .ok (.getfield 15, 3) := by decide +kernel
theorem dJ0_isLatin1_aae02_10 : decode cJ0_isLatin1_aae02 10 = .ok (.ifCond .ne 7, 3) := by decide +kernel
theorem dJ0_isLatin1_aae02_13 : decode cJ0_isLatin1_aae02 13 = .ok (.iconst 1, 1) := by decide +kernel
theorem dJ0_isLatin1_aae02_14 : decode cJ0_isLatin1_aae02 14 = .ok (.goto 4, 3) := by decide +kernel
theorem dJ0_isLatin1_aae02_17 : decode cJ0_isLatin1_aae02 17 = .ok (.iconst 0, 1) := by decide +kernel
theorem dJ0_isLatin1_aae02_18 : decode cJ0_isLatin1_aae02 18 = .ok (.ireturn, 1) := by decide +kernel
set_option maxRecDepth 20000 in
theorem ggJ0_checkBoundsBeginEnd_23922_J3_checkFromToIndex_8c36e : GoodIn wsJ0_checkBoundsBeginEnd_23922 wsJ3_checkFromToIndex_8c36e := goodIn_r _ [5] (by decide +kernel) (by decide +kernel)
set_option maxRecDepth 20000 in
theorem gJ0_checkBoundsBeginEnd_23922_J3_checkFromToIndex_8c36e : GoodIn wsJ0_checkBoundsBeginEnd_23922 (va_wsS RJ0 1062 yJ3_checkFromToIndex_8c36e wsJ3_checkFromToIndex_8c36e) := goodIn_app (goodIn_of _ (by decide +kernel)) ggJ0_checkBoundsBeginEnd_23922_J3_checkFromToIndex_8c36e
theorem dJ0_checkBoundsBeginEnd_23922_0 : decode cJ0_checkBoundsBeginEnd_23922 0 = .ok (.iload_n 0, 1) := by decide +kernel
theorem dJ0_checkBoundsBeginEnd_23922_1 : decode cJ0_checkBoundsBeginEnd_23922 1 = .ok (.iload_n 1, 1) := by decide +kernel
theorem dJ0_checkBoundsBeginEnd_23922_2 : decode cJ0_checkBoundsBeginEnd_23922 2 = .ok (.iload_n 2, 1) := by decide +kernel
theorem dJ0_checkBoundsBeginEnd_23922_3 : decode cJ0_checkBoundsBeginEnd_23922 3 = .ok (.getstatic 1053, 3) := by decide +kernel
theorem dJ0_checkBoundsBeginEnd_23922_6 : decode cJ0_checkBoundsBeginEnd_23922 6 = .ok (.invokestatic 1062, 3) := by decide +kernel
theorem dJ0_checkBoundsBeginEnd_23922_9 : decode cJ0_checkBoundsBeginEnd_23922 9 = .ok (.pop, 1) := by decide +kernel
theorem dJ0_checkBoundsBeginEnd_23922_10 : decode cJ0_checkBoundsBeginEnd_23922 10 = .ok (.return_, 1) := by decide +kernel
theorem dJ1_canEncode_9a6ad_0 : decode cJ1_canEncode_9a6ad 0 = .ok (.iload_n 0, 1) := by decide +kernel
theorem dJ1_canEncode_9a6ad_1 : decode cJ1_canEncode_9a6ad 1 = .ok (.ifCond .lt 14, 3) := by decide +kernel
theorem dJ1_canEncode_9a6ad_4 : decode cJ1_canEncode_9a6ad 4 = .ok (.iload_n 0, 1) := by decide +kernel
theorem dJ1_canEncode_9a6ad_5 : decode cJ1_canEncode_9a6ad 5 = .ok (.sipush 255, 3) := by decide +kernel
theorem dJ1_canEncode_9a6ad_8 : decode cJ1_canEncode_9a6ad 8 = .ok (.if_icmp .gt 7, 3) := by decide +kernel
theorem dJ1_canEncode_9a6ad_11 : decode cJ1_canEncode_9a6ad 11 = .ok (.iconst 1, 1) := by decide +kernel
theorem dJ1_canEncode_9a6ad_12 : decode cJ1_canEncode_9a6ad 12 = .ok (.goto 4, 3) := by decide +kernel
theorem dJ1_canEncode_9a6ad_15 : decode cJ1_canEncode_9a6ad 15 = .ok (.iconst 0, 1) := by decide +kernel
theorem dJ1_canEncode_9a6ad_16 : decode cJ1_canEncode_9a6ad 16 = .ok (.ireturn, 1) := by decide +kernel
set_option maxRecDepth 20000 in
theorem ggJ1_indexOf_4cfef_J1_canEncode_9a6ad : GoodIn wsJ1_indexOf_4cfef wsJ1_canEncode_9a6ad := goodIn_r _ [11] (by decide +kernel) (by decide +kernel)
set_option maxRecDepth 20000 in
theorem gJ1_indexOf_4cfef_J1_canEncode_9a6ad : GoodIn wsJ1_indexOf_4cfef (va_wsS RJ1 88 yJ1_canEncode_9a6ad wsJ1_canEncode_9a6ad) := goodIn_app (goodIn_of _ (by decide +kernel)) ggJ1_indexOf_4cfef_J1_canEncode_9a6ad
set_option maxRecDepth 20000 in
theorem ggJ1_indexOf_4cfef_J1_indexOfChar_4cfef : GoodIn wsJ1_indexOf_4cfef wsJ1_indexOfChar_4cfef := goodIn_r _ [14] (by decide +kernel) (by decide +kernel)
set_option maxRecDepth 20000 in
theorem gJ1_indexOf_4cfef_J1_indexOfChar_4cfef : GoodIn wsJ1_indexOf_4cfef (va_wsS RJ1 95 yJ1_indexOfChar_4cfef wsJ1_indexOfChar_4cfef) := goodIn_app (goodIn_of _ (by decide +kernel)) ggJ1_indexOf_4cfef_J1_indexOfChar_4cfef
theorem dJ1_indexOf_4cfef_0 : decode cJ1_indexOf_4cfef 0 = .ok (.iload_n 1, 1) := by decide +kernel
theorem dJ1_indexOf_4cfef_1 : decode cJ1_indexOf_4cfef 1 = .ok (.invokestatic 88, 3) := by decide +kernel
theorem dJ1_indexOf_4cfef_4 : decode cJ1_indexOf_4cfef 4 = .ok (.ifCond .ne 5, 3) := by decide +kernel
theorem dJ1_indexOf_4cfef_7 : decode cJ1_indexOf_4cfef 7 = .ok (.iconst (-1), 1) := by decide +kernel
theorem dJ1_indexOf_4cfef_8 : decode cJ1_indexOf_4cfef 8 = .ok (.ireturn, 1) := by decide +kernel
theorem dJ1_indexOf_4cfef_9 : decode cJ1_indexOf_4cfef 9 = .ok (.iload_n 2, 1) := by decide +kernel
theorem dJ1_indexOf_4cfef_10 : decode cJ1_indexOf_4cfef 10 = .ok (.iconst 0, 1) := by decide +kernel
theorem dJ1_indexOf_4cfef_11 : decode cJ1_indexOf_4cfef 11 = .ok (.invokestatic 92, 3) := by decide +kernel
theorem dJ1_indexOf_4cfef_14 : decode cJ1_indexOf_4cfef 14 = .ok (.istore_n 2, 1) := by decide +kernel
theorem dJ1_indexOf_4cfef_15 : decode cJ1_indexOf_4cfef 15 = .ok (.iload_n 3, 1) := by decide +kernel
theorem dJ1_indexOf_4cfef_16 : decode cJ1_indexOf_4cfef 16 = .ok (.aload_n 0, 1) := by decide +kernel
theorem dJ1_indexOf_4cfef_17 : decode cJ1_indexOf_4cfef 17 = .ok (.arraylength, 1) := by decide +kernel
theorem dJ1_indexOf_4cfef_18 : decode cJ1_indexOf_4cfef 18 = .ok (.invokestatic 38, 3) := by decide +kernel
theorem dJ1_indexOf_4cfef_21 : decode cJ1_indexOf_4cfef 21 = .ok (.istore_n 3, 1) := by decide +kernel
theorem dJ1_indexOf_4cfef_22 : decode cJ1_indexOf_4cfef 22 = .ok (.iload_n 2, 1) := by decide +kernel
theorem dJ1_indexOf_4cfef_23 : decode cJ1_indexOf_4cfef 23 = .ok (.iload_n 3, 1) := by decide +kernel
theorem dJ1_indexOf_4cfef_24 : decode cJ1_indexOf_4cfef 24 = .ok (.if_icmp .lt 5, 3) := by decide +kernel
theorem dJ1_indexOf_4cfef_27 : decode cJ1_indexOf_4cfef 27 = .ok (.iconst (-1), 1) := by decide +kernel
theorem dJ1_indexOf_4cfef_28 : decode cJ1_indexOf_4cfef 28 = .ok (.ireturn, 1) := by decide +kernel
theorem dJ1_indexOf_4cfef_29 : decode cJ1_indexOf_4cfef 29 = .ok (.aload_n 0, 1) := by decide +kernel
theorem dJ1_indexOf_4cfef_30 : decode cJ1_indexOf_4cfef 30 = .ok (.iload_n 1, 1) := by decide +kernel
theorem dJ1_indexOf_4cfef_31 : decode cJ1_indexOf_4cfef 31 = .ok (.iload_n 2, 1) := by decide +kernel
theorem dJ1_indexOf_4cfef_32 : decode cJ1_indexOf_4cfef 32 = .ok (.iload_n 3, 1) := by decide +kernel
theorem dJ1_indexOf_4cfef_33 : decode cJ1_indexOf_4cfef 33 = .ok (.invokestatic 95, 3) := by decide +kernel
theorem dJ1_indexOf_4cfef_36 : decode cJ1_indexOf_4cfef 36 = .ok (.ireturn, 1) := by decide +kernel
theorem dJ1_indexOfChar_4cfef_0 : decode cJ1_indexOfChar_4cfef 0 = .ok (.iload_n 1, 1) := by decide +kernel
theorem dJ1_indexOfChar_4cfef_1 : decode cJ1_indexOfChar_4cfef 1 = .ok (.i2b, 1) := by decide +kernel
theorem dJ1_indexOfChar_4cfef_2 : decode cJ1_indexOfChar_4cfef 2 = .ok (.istore 4, 2) := by decide +kernel
theorem dJ1_indexOfChar_4cfef_4 : decode cJ1_indexOfChar_4cfef 4 = .ok (.iload_n 2, 1) := by decide +kernel
theorem dJ1_indexOfChar_4cfef_5 : decode cJ1_indexOfChar_4cfef 5 = .ok (.istore 5, 2) := by decide +kernel
theorem dJ1_indexOfChar_4cfef_7 : decode cJ1_indexOfChar_4cfef 7 = .ok (.iload 5, 2) := by decide +kernel
theorem dJ1_indexOfChar_4cfef_9 : decode cJ1_indexOfChar_4cfef 9 = .ok (.iload_n 3, 1) := by decide +kernel
theorem dJ1_indexOfChar_4cfef_10 : decode cJ1_indexOfChar_4cfef 10 = .ok (.if_icmp .ge 21, 3) := by decide +kernel
theorem dJ1_indexOfChar_4cfef_13 : decode cJ1_indexOfChar_4cfef 13 = .ok (.aload_n 0, 1) := by decide +kernel
theorem dJ1_indexOfChar_4cfef_14 : decode cJ1_indexOfChar_4cfef 14 = .ok (.iload 5, 2) := by decide +kernel
theorem dJ1_indexOfChar_4cfef_16 : decode cJ1_indexOfChar_4cfef 16 = .ok (.baload, 1) := by decide +kernel
theorem dJ1_indexOfChar_4cfef_17 : decode cJ1_indexOfChar_4cfef 17 = .ok (.iload 4, 2) := by decide +kernel
theorem dJ1_indexOfChar_4cfef_19 : decode cJ1_indexOfChar_4cfef 19 = .ok (.if_icmp .ne 6, 3) := by decide +kernel
theorem dJ1_indexOfChar_4cfef_22 : decode cJ1_indexOfChar_4cfef 22 = .ok (.iload 5, 2) := by decide +kernel
theorem dJ1_indexOfChar_4cfef_24 : decode cJ1_indexOfChar_4cfef 24 = .ok (.ireturn, 1) := by decide +kernel
theorem dJ1_indexOfChar_4cfef_25 : decode cJ1_indexOfChar_4cfef 25 = .ok (.iinc 5 1, 3) := by decide +kernel
theorem dJ1_indexOfChar_4cfef_28 : decode cJ1_indexOfChar_4cfef 28 = .ok (.goto (-21), 3) := by decide +kernel
theorem dJ1_indexOfChar_4cfef_31 : decode cJ1_indexOfChar_4cfef 31 = .ok (.iconst (-1), 1) := by decide +kernel
theorem dJ1_indexOfChar_4cfef_32 : decode cJ1_indexOfChar_4cfef 32 = .ok (.ireturn, 1) := by decide +kernel
set_option maxRecDepth 20000 in
theorem ggJ2_getChar_3b067_J2_length_9d52b : GoodIn wsJ2_getChar_3b067 wsJ2_length_9d52b := goodIn_r _ [7] (by decide +kernel) (by decide +kernel)
set_option maxRecDepth 20000 in
theorem gJ2_getChar_3b067_J2_length_9d52b : GoodIn wsJ2_getChar_3b067 (va_wsS RJ2 48 yJ2_length_9d52b wsJ2_length_9d52b) := goodIn_app (goodIn_of _ (by decide +kernel)) ggJ2_getChar_3b067_J2_length_9d52b
theorem dJ2_getChar_3b067_0 : decode cJ2_getChar_3b067 0 = .ok (.getstatic 44, 3) := by decide +kernel
theorem dJ2_getChar_3b067_3 : decode cJ2_getChar_3b067 3 = .ok (.ifCond .ne 25, 3) := by decide +kernel
theorem dJ2_getChar_3b067_6 : decode cJ2_getChar_3b067 6 = .ok (.iload_n 1, 1) := by decide +kernel
theorem dJ2_getChar_3b067_7 : decode cJ2_getChar_3b067 7 = .ok (.ifCond .lt 11, 3) := by decide +kernel
theorem dJ2_getChar_3b067_10 : decode cJ2_getChar_3b067 10 = .ok (.iload_n 1, 1) := by decide +kernel
theorem dJ2_getChar_3b067_11 : decode cJ2_getChar_3b067 11 = .ok (.aload_n 0, 1) := by decide +kernel
theorem dJ2_getChar_3b067_12 : decode cJ2_getChar_3b067 12 = .ok (.invokestatic 48, 3) := by decide +kernel
theorem dJ2_getChar_3b067_15 : decode cJ2_getChar_3b067 15 = .ok (.if_icmp .lt 13, 3) := by decide +kernel
theorem dJ2_getChar_3b067_18 : decode cJ2_getChar_3b067 18 = .ok (.new 52, 3) := by decide +kernel
theorem dJ2_getChar_3b067_21 : decode cJ2_getChar_3b067 21 = .ok (.dup, 1) := by decide +kernel
theorem dJ2_getChar_3b067_22 : decode cJ2_getChar_3b067 22 = .ok (.ldc 54, 2) := by decide +kernel
theorem dJ2_getChar_3b067_24 : decode cJ2_getChar_3b067 24 = .ok (.invokespecial 56, 3) := by decide +kernel
theorem dJ2_getChar_3b067_27 : decode cJ2_getChar_3b067 27 = .ok (.athrow, 1) := by decide +kernel
theorem dJ2_getChar_3b067_28 : decode cJ2_getChar_3b067 28 = .ok (.iload_n 1, 1) := by decide +kernel
theorem dJ2_getChar_3b067_29 : decode cJ2_getChar_3b067 29 = .ok (.iconst 1, 1) := by decide +kernel
theorem dJ2_getChar_3b067_30 : decode cJ2_getChar_3b067 30 = .ok (.ishl, 1) := by decide +kernel
theorem dJ2_getChar_3b067_31 : decode cJ2_getChar_3b067 31 = .ok (.istore_n 1, 1) := by decide +kernel
theorem dJ2_getChar_3b067_32 : decode cJ2_getChar_3b067 32 = .ok (.aload_n 0, 1) := by decide +kernel
theorem dJ2_getChar_3b067_33 : decode cJ2_getChar_3b067 33 = .ok (.iload_n 1, 1) := by decide +kernel
theorem dJ2_getChar_3b067_34 : decode cJ2_getChar_3b067 34 = .ok (.iinc 1 1, 3) := by decide +kernel
theorem dJ2_getChar_3b067_37 : decode cJ2_getChar_3b067 37 = .ok (.baload, 1) := by decide +kernel
theorem dJ2_getChar_3b067_38 : decode cJ2_getChar_3b067 38 = .ok (.sipush 255, 3) := by decide +kernel
theorem dJ2_getChar_3b067_41 : decode cJ2_getChar_3b067 41 = .ok (.iand, 1) := by decide +kernel
theorem dJ2_getChar_3b067_42 : decode cJ2_getChar_3b067 42 = .ok (.getstatic 59, 3) := by decide +kernel
theorem dJ2_getChar_3b067_45 : decode cJ2_getChar_3b067 45 = .ok (.ishl, 1) := by decide +kernel
theorem dJ2_getChar_3b067_46 : decode cJ2_getChar_3b067 46 = .ok (.aload_n 0, 1) := by decide +kernel
theorem dJ2_getChar_3b067_47 : decode cJ2_getChar_3b067 47 = .ok (.iload_n 1, 1) := by decide +kernel
theorem dJ2_getChar_3b067_48 : decode cJ2_getChar_3b067 48 = .ok (.baload, 1) := by decide +kernel
theorem dJ2_getChar_3b067_49 : decode cJ2_getChar_3b067 49 = .ok (.sipush 255, 3) := by decide +kernel
theorem dJ2_getChar_3b067_52 : decode cJ2_getChar_3b067 52 = .ok (.iand, 1) := by decide +kernel
theorem dJ2_getChar_3b067_53 : decode cJ2_getChar_3b067 53 = .ok (.getstatic 63, 3) := by decide +kernel
theorem dJ2_getChar_3b067_56 : decode cJ2_getChar_3b067 56 = .ok (.ishl, 1) := by decide +kernel
theorem dJ2_getChar_3b067_57 : decode cJ2_getChar_3b067 57 = .ok (.ior, 1) := by decide +kernel
theorem dJ2_getChar_3b067_58 : decode cJ2_getChar_3b067 58 = .ok (.i2c, 1) := by decide +kernel
theorem dJ2_getChar_3b067_59 : decode cJ2_getChar_3b067 59 = .ok (.ireturn, 1) := by decide +kernel
theorem dJ2_length_9d52b_0 : decode cJ2_length_9d52b 0 = .ok (.aload_n 0, 1) := by decide +kernel
theorem dJ2_length_9d52b_1 : decode cJ2_length_9d52b 1 = .ok (.arraylength, 1) := by decide +kernel
theorem dJ2_length_9d52b_2 : decode cJ2_length_9d52b 2 = .ok (.iconst 1, 1) := by decide +kernel
theorem dJ2_length_9d52b_3 : decode cJ2_length_9d52b 3 = .ok (.ishr, 1) := by decide +kernel
theorem dJ2_length_9d52b_4 : decode cJ2_length_9d52b 4 = .ok (.ireturn, 1) := by decide +kernel
set_option maxRecDepth 20000 in
theorem ggJ2_indexOf_4cfef_J2_indexOfChar_4cfef : GoodIn wsJ2_indexOf_4cfef wsJ2_indexOfChar_4cfef := goodIn_r _ [12, 13, 14, 11, 15, 16, 17, 18, 19, 20, 21, 22, 23, 24, 25, 26, 27, 28, 29, 30, 31, 32, 33, 34, 35, 36] (by decide +kernel) (by decide +kernel)
set_option maxRecDepth 20000 in
theorem gJ2_indexOf_4cfef_J2_indexOfChar_4cfef : GoodIn wsJ2_indexOf_4cfef (va_wsS RJ2 228 yJ2_indexOfChar_4cfef wsJ2_indexOfChar_4cfef) := goodIn_app (goodIn_of _ (by decide +kernel)) ggJ2_indexOf_4cfef_J2_indexOfChar_4cfef
set_option maxRecDepth 20000 in
theorem ggJ2_indexOf_4cfef_J2_indexOfSupplementary_4cfef : GoodIn wsJ2_indexOf_4cfef wsJ2_indexOfSupplementary_4cfef := goodIn_r _ [39, 40, 41, 42, 43, 44, 45, 46, 47, 48, 49, 50, 51, 13, 14, 11, 15, 16, 17, 18, 19, 20, 21, 22, 23, 24, 25, 26, 27, 31, 32, 33, 34, 35, 36] (by decide +kernel) (by decide +kernel)
set_option maxRecDepth 20000 in
theorem gJ2_indexOf_4cfef_J2_indexOfSupplementary_4cfef : GoodIn wsJ2_indexOf_4cfef (va_wsS RJ2 232 yJ2_indexOfSupplementary_4cfef wsJ2_indexOfSupplementary_4cfef) := goodIn_app (goodIn_of _ (by decide +kernel)) ggJ2_indexOf_4cfef_J2_indexOfSupplementary_4cfef
theorem dJ2_indexOf_4cfef_0 : decode cJ2_indexOf_4cfef 0 = .ok (.iload_n 2, 1) := by decide +kernel
theorem dJ2_indexOf_4cfef_1 : decode cJ2_indexOf_4cfef 1 = .ok (.iconst 0, 1) := by decide +kernel
theorem dJ2_indexOf_4cfef_2 : decode cJ2_indexOf_4cfef 2 = .ok (.invokestatic 224, 3) := by decide +kernel
theorem dJ2_indexOf_4cfef_5 : decode cJ2_indexOf_4cfef 5 = .ok (.istore_n 2, 1) := by decide +kernel
theorem dJ2_indexOf_4cfef_6 : decode cJ2_indexOf_4cfef 6 = .ok (.iload_n 3, 1) := by decide +kernel
theorem dJ2_indexOf_4cfef_7 : decode cJ2_indexOf_4cfef 7 = .ok (.aload_n 0, 1) := by decide +kernel
theorem dJ2_indexOf_4cfef_8 : decode cJ2_indexOf_4cfef 8 = .ok (.arraylength, 1) := by decide +kernel
theorem dJ2_indexOf_4cfef_9 : decode cJ2_indexOf_4cfef 9 = .ok (.iconst 1, 1) := by decide +kernel
theorem dJ2_indexOf_4cfef_10 : decode cJ2_indexOf_4cfef 10 = .ok (.ishr, 1) := by decide +kernel
theorem dJ2_indexOf_4cfef_11 : decode cJ2_indexOf_4cfef 11 = .ok (.invokestatic 183, 3) := by decide +kernel
theorem dJ2_indexOf_4cfef_14 : decode cJ2_indexOf_4cfef 14 = .ok (.istore_n 3, 1) := by decide +kernel
theorem dJ2_indexOf_4cfef_15 : decode cJ2_indexOf_4cfef 15 = .ok (.iload_n 2, 1) := by decide +kernel
theorem dJ2_indexOf_4cfef_16 : decode cJ2_indexOf_4cfef 16 = .ok (.iload_n 3, 1) := by decide +kernel
theorem dJ2_indexOf_4cfef_17 : decode cJ2_indexOf_4cfef 17 = .ok (.if_icmp .lt 5, 3) := by decide +kernel
theorem dJ2_indexOf_4cfef_20 : decode cJ2_indexOf_4cfef 20 = .ok (.iconst (-1), 1) := by decide +kernel
theorem dJ2_indexOf_4cfef_21 : decode cJ2_indexOf_4cfef 21 = .ok (.ireturn, 1) := by decide +kernel
theorem dJ2_indexOf_4cfef_22 : decode cJ2_indexOf_4cfef 22 = .ok (.iload_n 1, 1) := by decide +kernel
theorem dJ2_indexOf_4cfef_23 : decode cJ2_indexOf_4cfef 23 = .ok (.ldc 227, 2) := by decide +kernel
theorem dJ2_indexOf_4cfef_25 : decode cJ2_indexOf_4cfef 25 = .ok (.if_icmp .ge 11, 3) := by decide +kernel
theorem dJ2_indexOf_4cfef_28 : decode cJ2_indexOf_4cfef 28 = .ok (.aload_n 0, 1) := by decide +kernel
theorem dJ2_indexOf_4cfef_29 : decode cJ2_indexOf_4cfef 29 = .ok (.iload_n 1, 1) := by decide +kernel
theorem dJ2_indexOf_4cfef_30 : decode cJ2_indexOf_4cfef 30 = .ok (.iload_n 2, 1) := by decide +kernel
theorem dJ2_indexOf_4cfef_31 : decode cJ2_indexOf_4cfef 31 = .ok (.iload_n 3, 1) := by decide +kernel
theorem dJ2_indexOf_4cfef_32 : decode cJ2_indexOf_4cfef 32 = .ok (.invokestatic 228, 3) := by decide +kernel
theorem dJ2_indexOf_4cfef_35 : decode cJ2_indexOf_4cfef 35 = .ok (.ireturn, 1) := by decide +kernel
theorem dJ2_indexOf_4cfef_36 : decode cJ2_indexOf_4cfef 36 = .ok (.aload_n 0, 1) := by decide +kernel
theorem dJ2_indexOf_4cfef_37 : decode cJ2_indexOf_4cfef 37 = .ok (.iload_n 1, 1) := by decide +kernel
theorem dJ2_indexOf_4cfef_38 : decode cJ2_indexOf_4cfef 38 = .ok (.iload_n 2, 1) := by decide +kernel
theorem dJ2_indexOf_4cfef_39 : decode cJ2_indexOf_4cfef 39 = .ok (.iload_n 3, 1) := by decide +kernel
theorem dJ2_indexOf_4cfef_40 : decode cJ2_indexOf_4cfef 40 = .ok (.invokestatic 232, 3) := by decide +kernel
theorem dJ2_indexOf_4cfef_43 : decode cJ2_indexOf_4cfef 43 = .ok (.ireturn, 1) := by decide +kernel
set_option maxRecDepth 20000 in
theorem ggJ2_indexOfChar_4cfef_J2_checkBoundsBeginEnd_d044e : GoodIn wsJ2_indexOfChar_4cfef wsJ2_checkBoundsBeginEnd_d044e := goodIn_r _ [4, 5, 6, 3, 7, 8, 9, 10, 11, 12, 13, 14, 15, 16] (by decide +kernel) (by decide +kernel)
set_option maxRecDepth 20000 in
theorem gJ2_indexOfChar_4cfef_J2_checkBoundsBeginEnd_d044e : GoodIn wsJ2_indexOfChar_4cfef (va_wsS RJ2 96 yJ2_checkBoundsBeginEnd_d044e wsJ2_checkBoundsBeginEnd_d044e) := goodIn_app (goodIn_of _ (by decide +kernel)) ggJ2_indexOfChar_4cfef_J2_checkBoundsBeginEnd_d044e
set_option maxRecDepth 20000 in
theorem ggJ2_indexOfChar_4cfef_J2_indexOfCharUnsafe_4cfef : GoodIn wsJ2_indexOfChar_4cfef wsJ2_indexOfCharUnsafe_4cfef := goodIn_r _ [19, 20, 21, 3, 22, 23, 24, 25, 5, 6, 7] (by decide +kernel) (by decide +kernel)
set_option maxRecDepth 20000 in
theorem gJ2_indexOfChar_4cfef_J2_indexOfCharUnsafe_4cfef : GoodIn wsJ2_indexOfChar_4cfef (va_wsS RJ2 244 yJ2_indexOfCharUnsafe_4cfef wsJ2_indexOfCharUnsafe_4cfef) := goodIn_app (goodIn_of _ (by decide +kernel)) ggJ2_indexOfChar_4cfef_J2_indexOfCharUnsafe_4cfef
theorem dJ2_indexOfChar_4cfef_0 : decode cJ2_indexOfChar_4cfef 0 = .ok (.iload_n 2, 1) := by decide +kernel
theorem dJ2_indexOfChar_4cfef_1 : decode cJ2_indexOfChar_4cfef 1 = .ok (.iload_n 3, 1) := by decide +kernel
theorem dJ2_indexOfChar_4cfef_2 : decode cJ2_indexOfChar_4cfef 2 = .ok (.aload_n 0, 1) := by decide +kernel
theorem dJ2_indexOfChar_4cfef_3 : decode cJ2_indexOfChar_4cfef 3 = .ok (.invokestatic 96, 3) := by decide +kernel
theorem dJ2_indexOfChar_4cfef_6 : decode cJ2_indexOfChar_4cfef 6 = .ok (.aload_n 0, 1) := by decide +kernel
theorem dJ2_indexOfChar_4cfef_7 : decode cJ2_indexOfChar_4cfef 7 = .ok (.iload_n 1, 1) := by decide +kernel
theorem dJ2_indexOfChar_4cfef_8 : decode cJ2_indexOfChar_4cfef 8 = .ok (.iload_n 2, 1) := by decide +kernel
theorem dJ2_indexOfChar_4cfef_9 : decode cJ2_indexOfChar_4cfef 9 = .ok (.iload_n 3, 1) := by decide +kernel
theorem dJ2_indexOfChar_4cfef_10 : decode cJ2_indexOfChar_4cfef 10 = .ok (.invokestatic 244, 3) := by decide +kernel
theorem dJ2_indexOfChar_4cfef_13 : decode cJ2_indexOfChar_4cfef 13 = .ok (.ireturn, 1) := by decide +kernel
set_option maxRecDepth 20000 in
theorem ggJ2_indexOfCharUnsafe_4cfef_J2_getChar_3b067 : GoodIn wsJ2_indexOfCharUnsafe_4cfef wsJ2_getChar_3b067 := goodIn_r _ [4, 5, 6, 7, 8, 9, 3, 10] (by decide +kernel) (by decide +kernel)
set_option maxRecDepth 20000 in
theorem gJ2_indexOfCharUnsafe_4cfef_J2_getChar_3b067 : GoodIn wsJ2_indexOfCharUnsafe_4cfef (va_wsS RJ2 71 yJ2_getChar_3b067 wsJ2_getChar_3b067) := goodIn_app (goodIn_of _ (by decide +kernel)) ggJ2_indexOfCharUnsafe_4cfef_J2_getChar_3b067
theorem dJ2_indexOfCharUnsafe_4cfef_0 : decode cJ2_indexOfCharUnsafe_4cfef 0 = .ok (.iload_n 2, 1) := by decide +kernel
theorem dJ2_indexOfCharUnsafe_4cfef_1 : decode cJ2_indexOfCharUnsafe_4cfef 1 = .ok (.istore 4, 2) := by decide +kernel
theorem dJ2_indexOfCharUnsafe_4cfef_3 : decode cJ2_indexOfCharUnsafe_4cfef 3 = .ok (.iload 4, 2) := by decide +kernel
theorem dJ2_indexOfCharUnsafe_4cfef_5 : decode cJ2_indexOfCharUnsafe_4cfef 5 = .ok (.iload_n 3, 1) := by decide +kernel
theorem dJ2_indexOfCharUnsafe_4cfef_6 : decode cJ2_indexOfCharUnsafe_4cfef 6 = .ok (.if_icmp .ge 22, 3) := by decide +kernel
theorem dJ2_indexOfCharUnsafe_4cfef_9 : decode cJ2_indexOfCharUnsafe_4cfef 9 = .ok (.aload_n 0, 1) := by decide +kernel
theorem dJ2_indexOfCharUnsafe_4cfef_10 : decode cJ2_indexOfCharUnsafe_4cfef 10 = .ok (.iload 4, 2) := by decide +kernel
theorem dJ2_indexOfCharUnsafe_4cfef_12 : decode cJ2_indexOfCharUnsafe_4cfef 12 = .ok (.invokestatic 71, 3) := by decide +kernel
theorem dJ2_indexOfCharUnsafe_4cfef_15 : decode cJ2_indexOfCharUnsafe_4cfef 15 = .ok (.iload_n 1, 1) := by decide +kernel
theorem dJ2_indexOfCharUnsafe_4cfef_16 : decode cJ2_indexOfCharUnsafe_4cfef 16 = .ok (.if_icmp .ne 6, 3) := by decide +kernel
theorem dJ2_indexOfCharUnsafe_4cfef_19 : decode cJ2_indexOfCharUnsafe_4cfef 19 = .ok (.iload 4, 2) := by decide +kernel
theorem dJ2_indexOfCharUnsafe_4cfef_21 : decode cJ2_indexOfCharUnsafe_4cfef 21 = .ok (.ireturn, 1) := by decide +kernel
theorem dJ2_indexOfCharUnsafe_4cfef_22 : decode cJ2_indexOfCharUnsafe_4cfef 22 = .ok (.iinc 4 1, 3) := by decide +kernel
theorem dJ2_indexOfCharUnsafe_4cfef_25 : decode cJ2_indexOfCharUnsafe_4cfef 25 = .ok (.goto (-22), 3) := by decide +kernel
theorem dJ2_indexOfCharUnsafe_4cfef_28 : decode cJ2_indexOfCharUnsafe_4cfef 28 = .ok (.iconst (-1), 1) := by decide +kernel
theorem dJ2_indexOfCharUnsafe_4cfef_29 : decode cJ2_indexOfCharUnsafe_4cfef 29 = .ok (.ireturn, 1) := by decide +kernel
set_option maxRecDepth 20000 in
theorem ggJ2_indexOfSupplementary_4cfef_J11_isValidCodePoint_9a6ad : GoodIn wsJ2_indexOfSupplementary_4cfef wsJ11_isValidCodePoint_9a6ad := goodIn_r _ [4] (by decide +kernel) (by decide +kernel)
set_option maxRecDepth 20000 in
theorem gJ2_indexOfSupplementary_4cfef_J11_isValidCodePoint_9a6ad : GoodIn wsJ2_indexOfSupplementary_4cfef (va_wsS RJ2 164 yJ11_isValidCodePoint_9a6ad wsJ11_isValidCodePoint_9a6ad) := goodIn_app (goodIn_of _ (by decide +kernel)) ggJ2_indexOfSupplementary_4cfef_J11_isValidCodePoint_9a6ad
set_option maxRecDepth 20000 in
theorem ggJ2_indexOfSupplementary_4cfef_J11_highSurrogate_5068e : GoodIn wsJ2_indexOfSupplementary_4cfef wsJ11_highSurrogate_5068e := goodIn_r _ [7, 8] (by decide +kernel) (by decide +kernel)
set_option maxRecDepth 20000 in
theorem gJ2_indexOfSupplementary_4cfef_J11_highSurrogate_5068e : GoodIn wsJ2_indexOfSupplementary_4cfef (va_wsS RJ2 157 yJ11_highSurrogate_5068e wsJ11_highSurrogate_5068e) := goodIn_app (goodIn_of _ (by decide +kernel)) ggJ2_indexOfSupplementary_4cfef_J11_highSurrogate_5068e
set_option maxRecDepth 20000 in
theorem ggJ2_indexOfSupplementary_4cfef_J11_lowSurrogate_5068e : GoodIn wsJ2_indexOfSupplementary_4cfef wsJ11_lowSurrogate_5068e := goodIn_r _ [11, 12] (by decide +kernel) (by decide +kernel)
set_option maxRecDepth 20000 in
theorem gJ2_indexOfSupplementary_4cfef_J11_lowSurrogate_5068e : GoodIn wsJ2_indexOfSupplementary_4cfef (va_wsS RJ2 161 yJ11_lowSurrogate_5068e wsJ11_lowSurrogate_5068e) := goodIn_app (goodIn_of _ (by decide +kernel)) ggJ2_indexOfSupplementary_4cfef_J11_lowSurrogate_5068e
set_option maxRecDepth 20000 in
theorem ggJ2_indexOfSupplementary_4cfef_J2_checkBoundsBeginEnd_d044e : GoodIn wsJ2_indexOfSupplementary_4cfef wsJ2_checkBoundsBeginEnd_d044e := goodIn_r _ [16, 17, 18, 15, 19, 20, 21, 22, 23, 24, 25, 26, 27, 28] (by decide +kernel) (by decide +kernel)
set_option maxRecDepth 20000 in
theorem gJ2_indexOfSupplementary_4cfef_J2_checkBoundsBeginEnd_d044e : GoodIn wsJ2_indexOfSupplementary_4cfef (va_wsS RJ2 96 yJ2_checkBoundsBeginEnd_d044e wsJ2_checkBoundsBeginEnd_d044e) := goodIn_app (goodIn_of _ (by decide +kernel)) ggJ2_indexOfSupplementary_4cfef_J2_checkBoundsBeginEnd_d044e
set_option maxRecDepth 20000 in
theorem ggJ2_indexOfSupplementary_4cfef_J2_getChar_3b067 : GoodIn wsJ2_indexOfSupplementary_4cfef wsJ2_getChar_3b067 := goodIn_r _ [31, 32, 33, 34, 17, 18, 15, 19] (by decide +kernel) (by decide +kernel)
set_option maxRecDepth 20000 in
theorem gJ2_indexOfSupplementary_4cfef_J2_getChar_3b067 : GoodIn wsJ2_indexOfSupplementary_4cfef (va_wsS RJ2 71 yJ2_getChar_3b067 wsJ2_getChar_3b067) := goodIn_app (goodIn_of _ (by decide +kernel)) ggJ2_indexOfSupplementary_4cfef_J2_getChar_3b067
theorem dJ2_indexOfSupplementary_4cfef_0 : decode cJ2_indexOfSupplementary_4cfef 0 = .ok (.iload_n 1, 1) := by decide +kernel
theorem dJ2_indexOfSupplementary_4cfef_1 : decode cJ2_indexOfSupplementary_4cfef 1 = .ok (.invokestatic 164, 3) := by decide +kernel
theorem dJ2_indexOfSupplementary_4cfef_4 : decode cJ2_indexOfSupplementary_4cfef 4 = .ok (.ifCond .eq 65, 3) := by decide +kernel
theorem dJ2_indexOfSupplementary_4cfef_7 : decode cJ2_indexOfSupplementary_4cfef 7 = .ok (.iload_n 1, 1) := by decide +kernel
theorem dJ2_indexOfSupplementary_4cfef_8 : decode cJ2_indexOfSupplementary_4cfef 8 = .ok (.invokestatic 157, 3) := by decide +kernel
theorem dJ2_indexOfSupplementary_4cfef_11 : decode cJ2_indexOfSupplementary_4cfef 11 = .ok (.istore 4, 2) := by decide +kernel
theorem dJ2_indexOfSupplementary_4cfef_13 : decode cJ2_indexOfSupplementary_4cfef 13 = .ok (.iload_n 1, 1) := by decide +kernel
theorem dJ2_indexOfSupplementary_4cfef_14 : decode cJ2_indexOfSupplementary_4cfef 14 = .ok (.invokestatic 161, 3) := by decide +kernel
theorem dJ2_indexOfSupplementary_4cfef_17 : decode cJ2_indexOfSupplementary_4cfef 17 = .ok (.istore 5, 2) := by decide +kernel
theorem dJ2_indexOfSupplementary_4cfef_19 : decode cJ2_indexOfSupplementary_4cfef 19 = .ok (.iload_n 2, 1) := by decide +kernel
theorem dJ2_indexOfSupplementary_4cfef_20 : decode cJ2_indexOfSupplementary_4cfef 20 = .ok (.iload_n 3, 1) := by decide +kernel
theorem dJ2_indexOfSupplementary_4cfef_21 : decode cJ2_indexOfSupplementary_4cfef 21 = .ok (.aload_n 0, 1) := by decide +kernel
theorem dJ2_indexOfSupplementary_4cfef_22 : decode cJ2_indexOfSupplementary_4cfef 22 = .ok (.invokestatic 96, 3) := by decide +kernel
theorem dJ2_indexOfSupplementary_4cfef_25 : decode cJ2_indexOfSupplementary_4cfef 25 = .ok (.iload_n 2, 1) := by decide +kernel
theorem dJ2_indexOfSupplementary_4cfef_26 : decode cJ2_indexOfSupplementary_4cfef 26 = .ok (.istore 6, 2) := by decide +kernel
theorem dJ2_indexOfSupplementary_4cfef_28 : decode cJ2_indexOfSupplementary_4cfef 28 = .ok (.iload 6, 2) := by decide +kernel
theorem dJ2_indexOfSupplementary_4cfef_30 : decode cJ2_indexOfSupplementary_4cfef 30 = .ok (.iload_n 3, 1) := by decide +kernel
theorem dJ2_indexOfSupplementary_4cfef_31 : decode cJ2_indexOfSupplementary_4cfef 31 = .ok (.iconst 1, 1) := by decide +kernel
theorem dJ2_indexOfSupplementary_4cfef_32 : decode cJ2_indexOfSupplementary_4cfef 32 = .ok (.isub, 1) := by decide +kernel
theorem dJ2_indexOfSupplementary_4cfef_33 : decode cJ2_indexOfSupplementary_4cfef 33 = .ok (.if_icmp .ge 36, 3) := by decide +kernel
theorem dJ2_indexOfSupplementary_4cfef_36 : decode cJ2_indexOfSupplementary_4cfef 36 = .ok (.aload_n 0, 1) := by decide +kernel
theorem dJ2_indexOfSupplementary_4cfef_37 : decode cJ2_indexOfSupplementary_4cfef 37 = .ok (.iload 6, 2) := by decide +kernel
theorem dJ2_indexOfSupplementary_4cfef_39 : decode cJ2_indexOfSupplementary_4cfef 39 = .ok (.invokestatic 71, 3) := by decide +kernel
theorem dJ2_indexOfSupplementary_4cfef_42 : decode cJ2_indexOfSupplementary_4cfef 42 = .ok (.iload 4, 2) := by decide +kernel
theorem dJ2_indexOfSupplementary_4cfef_44 : decode cJ2_indexOfSupplementary_4cfef 44 = .ok (.if_icmp .ne 19, 3) := by decide +kernel
theorem dJ2_indexOfSupplementary_4cfef_47 : decode cJ2_indexOfSupplementary_4cfef 47 = .ok (.aload_n 0, 1) := by decide +kernel
theorem dJ2_indexOfSupplementary_4cfef_48 : decode cJ2_indexOfSupplementary_4cfef 48 = .ok (.iload 6, 2) := by decide +kernel
theorem dJ2_indexOfSupplementary_4cfef_50 : decode cJ2_indexOfSupplementary_4cfef 50 = .ok (.iconst 1, 1) := by decide +kernel
theorem dJ2_indexOfSupplementary_4cfef_51 : decode cJ2_indexOfSupplementary_4cfef 51 = .ok (.iadd, 1) := by decide +kernel
theorem dJ2_indexOfSupplementary_4cfef_52 : decode cJ2_indexOfSupplementary_4cfef 52 = .ok (.invokestatic 71, 3) := by decide +kernel
theorem dJ2_indexOfSupplementary_4cfef_55 : decode cJ2_indexOfSupplementary_4cfef 55 = .ok (.iload 5, 2) := by decide +kernel
theorem dJ2_indexOfSupplementary_4cfef_57 : decode cJ2_indexOfSupplementary_4cfef 57 = .ok (.if_icmp .ne 6, 3) := by decide +kernel
theorem dJ2_indexOfSupplementary_4cfef_60 : decode cJ2_indexOfSupplementary_4cfef 60 = .ok (.iload 6, 2) := by decide +kernel
theorem dJ2_indexOfSupplementary_4cfef_62 : decode cJ2_indexOfSupplementary_4cfef 62 = .ok (.ireturn, 1) := by decide +kernel
theorem dJ2_indexOfSupplementary_4cfef_63 : decode cJ2_indexOfSupplementary_4cfef 63 = .ok (.iinc 6 1, 3) := by decide +kernel
theorem dJ2_indexOfSupplementary_4cfef_66 : decode cJ2_indexOfSupplementary_4cfef 66 = .ok (.goto (-38), 3) := by decide +kernel
theorem dJ2_indexOfSupplementary_4cfef_69 : decode cJ2_indexOfSupplementary_4cfef 69 = .ok (.iconst (-1), 1) := by decide +kernel
theorem dJ2_indexOfSupplementary_4cfef_70 : decode cJ2_indexOfSupplementary_4cfef 70 = .ok (.ireturn, 1) := by decide +kernel
set_option maxRecDepth 20000 in
theorem ggJ2_checkBoundsBeginEnd_d044e_J2_length_9d52b : GoodIn wsJ2_checkBoundsBeginEnd_d044e wsJ2_length_9d52b := goodIn_r _ [4] (by decide +kernel) (by decide +kernel)
set_option maxRecDepth 20000 in
theorem gJ2_checkBoundsBeginEnd_d044e_J2_length_9d52b : GoodIn wsJ2_checkBoundsBeginEnd_d044e (va_wsS RJ2 48 yJ2_length_9d52b wsJ2_length_9d52b) := goodIn_app (goodIn_of _ (by decide +kernel)) ggJ2_checkBoundsBeginEnd_d044e_J2_length_9d52b
set_option maxRecDepth 20000 in
theorem ggJ2_checkBoundsBeginEnd_d044e_J0_checkBoundsBeginEnd_23922 : GoodIn wsJ2_checkBoundsBeginEnd_d044e wsJ0_checkBoundsBeginEnd_23922 := goodIn_r _ [8, 9, 10, 11, 12, 13] (by decide +kernel) (by decide +kernel)
set_option maxRecDepth 20000 in
theorem gJ2_checkBoundsBeginEnd_d044e_J0_checkBoundsBeginEnd_23922 : GoodIn wsJ2_checkBoundsBeginEnd_d044e (va_wsS RJ2 241 yJ0_checkBoundsBeginEnd_23922 wsJ0_checkBoundsBeginEnd_23922) := goodIn_app (goodIn_of _ (by decide +kernel)) ggJ2_checkBoundsBeginEnd_d044e_J0_checkBoundsBeginEnd_23922
theorem dJ2_checkBoundsBeginEnd_d044e_0 : decode cJ2_checkBoundsBeginEnd_d044e 0 = .ok (.iload_n 0, 1) := by decide +kernel
theorem dJ2_checkBoundsBeginEnd_d044e_1 : decode cJ2_checkBoundsBeginEnd_d044e 1 = .ok (.iload_n 1, 1) := by decide +kernel
theorem dJ2_checkBoundsBeginEnd_d044e_2 : decode cJ2_checkBoundsBeginEnd_d044e 2 = .ok (.aload_n 2, 1) := by decide +kernel
theorem dJ2_checkBoundsBeginEnd_d044e_3 : decode cJ2_checkBoundsBeginEnd_d044e 3 = .ok (.invokestatic 48, 3) := by decide +kernel
theorem dJ2_checkBoundsBeginEnd_d044e_6 : decode cJ2_checkBoundsBeginEnd_d044e 6 = .ok (.invokestatic 241, 3) := by decide +kernel
theorem dJ2_checkBoundsBeginEnd_d044e_9 : decode cJ2_checkBoundsBeginEnd_d044e 9 = .ok (.return_, 1) := by decide +kernel
theorem dJ3_checkFromToIndex_8c36e_0 : decode cJ3_checkFromToIndex_8c36e 0 = .ok (.iload_n 0, 1) := by decide +kernel
theorem dJ3_checkFromToIndex_8c36e_1 : decode cJ3_checkFromToIndex_8c36e 1 = .ok (.ifCond .lt 13, 3) := by decide +kernel
theorem dJ3_checkFromToIndex_8c36e_4 : decode cJ3_checkFromToIndex_8c36e 4 = .ok (.iload_n 0, 1) := by decide +kernel
theorem dJ3_checkFromToIndex_8c36e_5 : decode cJ3_checkFromToIndex_8c36e 5 = .ok (.iload_n 1, 1) := by decide +kernel
theorem dJ3_checkFromToIndex_8c36e_6 : decode cJ3_checkFromToIndex_8c36e 6 = .ok (.if_icmp .gt 8, 3) := by decide +kernel
theorem dJ3_checkFromToIndex_8c36e_9 : decode cJ3_checkFromToIndex_8c36e 9 = .ok (.iload_n 1, 1) := by decide +kernel
theorem dJ3_checkFromToIndex_8c36e_10 : decode cJ3_checkFromToIndex_8c36e 10 = .ok (.iload_n 2, 1) := by decide +kernel
theorem dJ3_checkFromToIndex_8c36e_11 : decode cJ3_checkFromToIndex_8c36e 11 = .ok (.if_icmp .le 11, 3) := by decide +kernel
theorem dJ3_checkFromToIndex_8c36e_14 : decode cJ3_checkFromToIndex_8c36e 14 = .ok (.aload_n 3, 1) := by decide +kernel
theorem dJ3_checkFromToIndex_8c36e_15 : decode cJ3_checkFromToIndex_8c36e 15 = .ok (.iload_n 0, 1) := by decide +kernel
theorem dJ3_checkFromToIndex_8c36e_16 : decode cJ3_checkFromToIndex_8c36e 16 = .ok (.iload_n 1, 1) := by decide +kernel
theorem dJ3_checkFromToIndex_8c36e_17 : decode cJ3_checkFromToIndex_8c36e 17 = .ok (.iload_n 2, 1) := by decide +kernel
theorem dJ3_checkFromToIndex_8c36e_18 : decode cJ3_checkFromToIndex_8c36e 18 = .ok (.invokestatic 99, 3) := by decide +kernel
theorem dJ3_checkFromToIndex_8c36e_21 : decode cJ3_checkFromToIndex_8c36e 21 = .ok (.athrow, 1) := by decide +kernel
theorem dJ3_checkFromToIndex_8c36e_22 : decode cJ3_checkFromToIndex_8c36e 22 = .ok (.iload_n 0, 1) := by decide +kernel
theorem dJ3_checkFromToIndex_8c36e_23 : decode cJ3_checkFromToIndex_8c36e 23 = .ok (.ireturn, 1) := by decide +kernel
abbrev vwCl : List vw_C := [(RX0, TX0, 3), (RX1, TX1, 1), (RX2, TX2, 2), (RX3, TX3, 2), (RX4, TX4, 10), (RX5, TX5, 1), (RX6, TX6, 9), (RX7, TX7, 26)]
