theorem dX6_two_52 : decode cX6_two 52 = .ok (.iload 4, 2) := by decide +kernel
theorem dX6_two_54 : decode cX6_two 54 = .ok (.invokevirtual 70, 3) := by decide +kernel
theorem dX6_two_57 : decode cX6_two 57 = .ok (.ireturn, 1) := by decide +kernel
theorem dX6_two_58 : decode cX6_two 58 = .ok (.aload_n 0, 1) := by decide +kernel
theorem dX6_two_59 : decode cX6_two 59 = .ok (.getfield 50, 3) := by decide +kernel
theorem dX6_two_62 : decode cX6_two 62 = .ok (.aload_n 0, 1) := by decide +kernel
theorem dX6_two_63 : decode cX6_two 63 = .ok (.getfield 10, 3) := by decide +kernel
theorem dX6_two_66 : decode cX6_two 66 = .ok (.iload_n 1, 1) := by decide +kernel
theorem dX6_two_67 : decode cX6_two 67 = .ok (.iload_n 2, 1) := by decide +kernel
theorem dX6_two_68 : decode cX6_two 68 = .ok (.iload_n 3, 1) := by decide +kernel
theorem dX6_two_69 : decode cX6_two 69 = .ok (.invokevirtual 230, 3) := by decide +kernel
theorem dX6_two_72 : decode cX6_two 72 = .ok (.ireturn, 1) := by decide +kernel
set_option maxRecDepth 20000 in
theorem ggX6_fog_X6_noBell : GoodIn wsX6_fog wsX6_noBell := goodIn_r _ [8, 3, 9, 86, 87, 88, 89, 90, 91, 92, 93, 94, 95, 96, 97, 98, 99, 100, 101, 102, 103, 104] (by decide +kernel) (by decide +kernel)
set_option maxRecDepth 20000 in
theorem gX6_fog_X6_noBell : GoodIn wsX6_fog (wsV RX6 85 RX6 yX6_noBell wsX6_noBell) := goodIn_app (goodIn_of _ (by decide +kernel)) ggX6_fog_X6_noBell
set_option maxRecDepth 20000 in
theorem ggX6_fog_X6_first : GoodIn wsX6_fog wsX6_first := goodIn_r _ [12] (by decide +kernel) (by decide +kernel)
set_option maxRecDepth 20000 in
theorem gX6_fog_X6_first : GoodIn wsX6_fog (va_wsS RX6 66 yX6_first wsX6_first) := goodIn_app (goodIn_of _ (by decide +kernel)) ggX6_fog_X6_first
set_option maxRecDepth 20000 in
theorem ggX6_fog_X6_choice : GoodIn wsX6_fog wsX6_choice := goodIn_r _ [15] (by decide +kernel) (by decide +kernel)
set_option maxRecDepth 20000 in
theorem gX6_fog_X6_choice : GoodIn wsX6_fog (va_wsS RX6 88 yX6_choice wsX6_choice) := goodIn_app (goodIn_of _ (by decide +kernel)) ggX6_fog_X6_choice
set_option maxRecDepth 20000 in
theorem ggX6_fog_X6_refused : GoodIn wsX6_fog wsX6_refused := goodIn_r _ [19, 20, 86, 87, 88, 89, 90, 91, 92, 93, 94] (by decide +kernel) (by decide +kernel)
set_option maxRecDepth 20000 in
theorem gX6_fog_X6_refused : GoodIn wsX6_fog (wsV RX6 70 RX6 yX6_refused wsX6_refused) := goodIn_app (goodIn_of _ (by decide +kernel)) ggX6_fog_X6_refused
set_option maxRecDepth 20000 in
theorem ggX6_fog_X1_clearWays : GoodIn wsX6_fog wsX1_clearWays := goodIn_r _ [25, 26, 27, 28, 29, 30, 31, 32, 33, 34, 35, 36, 37, 38, 39, 40, 41, 42, 43, 44, 45, 46, 47, 48, 49, 50, 51, 52, 53, 54, 55, 56, 57, 58, 7, 59, 60, 61, 62, 63, 64, 65, 66, 67, 68, 69, 70, 71, 72, 73, 74, 75, 76, 77, 78, 105, 95, 96, 97, 98, 99, 100, 101, 102, 103, 104] (by decide +kernel) (by decide +kernel)
set_option maxRecDepth 20000 in
theorem gX6_fog_X1_clearWays : GoodIn wsX6_fog (wsV RX6 235 RX1 yX1_clearWays wsX1_clearWays) := goodIn_app (goodIn_of _ (by decide +kernel)) ggX6_fog_X1_clearWays
set_option maxRecDepth 20000 in
theorem ggX6_fog_X6_power : GoodIn wsX6_fog wsX6_power := goodIn_r _ [59] (by decide +kernel) (by decide +kernel)
set_option maxRecDepth 20000 in
theorem gX6_fog_X6_power : GoodIn wsX6_fog (va_wsS RX6 239 yX6_power wsX6_power) := goodIn_app (goodIn_of _ (by decide +kernel)) ggX6_fog_X6_power
set_option maxRecDepth 20000 in
theorem ggX6_fog_X6_partOf : GoodIn wsX6_fog wsX6_partOf := goodIn_r _ [82, 83, 84, 7, 85] (by decide +kernel) (by decide +kernel)
set_option maxRecDepth 20000 in
theorem gX6_fog_X6_partOf : GoodIn wsX6_fog (va_wsS RX6 243 yX6_partOf wsX6_partOf) := goodIn_app (goodIn_of _ (by decide +kernel)) ggX6_fog_X6_partOf
theorem dX6_fog_0 : decode cX6_fog 0 = .ok (.aload_n 0, 1) := by decide +kernel
theorem dX6_fog_1 : decode cX6_fog 1 = .ok (.iload_n 1, 1) := by decide +kernel
theorem dX6_fog_2 : decode cX6_fog 2 = .ok (.invokevirtual 85, 3) := by decide +kernel
theorem dX6_fog_5 : decode cX6_fog 5 = .ok (.iload_n 2, 1) := by decide +kernel
theorem dX6_fog_6 : decode cX6_fog 6 = .ok (.ifCond .lt 8, 3) := by decide +kernel
theorem dX6_fog_9 : decode cX6_fog 9 = .ok (.iload_n 3, 1) := by decide +kernel
theorem dX6_fog_10 : decode cX6_fog 10 = .ok (.iconst 2, 1) := by decide +kernel
theorem dX6_fog_11 : decode cX6_fog 11 = .ok (.if_icmp .ge 8, 3) := by decide +kernel
theorem dX6_fog_14 : decode cX6_fog 14 = .ok (.bipush (-4), 2) := by decide +kernel
theorem dX6_fog_16 : decode cX6_fog 16 = .ok (.goto 4, 3) := by decide +kernel
theorem dX6_fog_19 : decode cX6_fog 19 = .ok (.iconst 0, 1) := by decide +kernel
theorem dX6_fog_20 : decode cX6_fog 20 = .ok (.invokestatic 66, 3) := by decide +kernel
theorem dX6_fog_23 : decode cX6_fog 23 = .ok (.istore 5, 2) := by decide +kernel
theorem dX6_fog_25 : decode cX6_fog 25 = .ok (.iload 5, 2) := by decide +kernel
theorem dX6_fog_27 : decode cX6_fog 27 = .ok (.iload_n 2, 1) := by decide +kernel
theorem dX6_fog_28 : decode cX6_fog 28 = .ok (.bipush 7, 2) := by decide +kernel
theorem dX6_fog_30 : decode cX6_fog 30 = .ok (.if_icmp .gt 9, 3) := by decide +kernel
theorem dX6_fog_33 : decode cX6_fog 33 = .ok (.iload_n 3, 1) := by decide +kernel
theorem dX6_fog_34 : decode cX6_fog 34 = .ok (.bipush 20, 2) := by decide +kernel
theorem dX6_fog_36 : decode cX6_fog 36 = .ok (.if_icmp .le 8, 3) := by decide +kernel
theorem dX6_fog_39 : decode cX6_fog 39 = .ok (.bipush (-6), 2) := by decide +kernel
theorem dX6_fog_41 : decode cX6_fog 41 = .ok (.goto 4, 3) := by decide +kernel
theorem dX6_fog_44 : decode cX6_fog 44 = .ok (.iconst 0, 1) := by decide +kernel
theorem dX6_fog_45 : decode cX6_fog 45 = .ok (.invokestatic 66, 3) := by decide +kernel
theorem dX6_fog_48 : decode cX6_fog 48 = .ok (.istore 5, 2) := by decide +kernel
theorem dX6_fog_50 : decode cX6_fog 50 = .ok (.iload 5, 2) := by decide +kernel
theorem dX6_fog_52 : decode cX6_fog 52 = .ok (.iload 4, 2) := by decide +kernel
theorem dX6_fog_54 : decode cX6_fog 54 = .ok (.iconst 2, 1) := by decide +kernel
theorem dX6_fog_55 : decode cX6_fog 55 = .ok (.invokestatic 88, 3) := by decide +kernel
theorem dX6_fog_58 : decode cX6_fog 58 = .ok (.invokestatic 66, 3) := by decide +kernel
theorem dX6_fog_61 : decode cX6_fog 61 = .ok (.istore 5, 2) := by decide +kernel
theorem dX6_fog_63 : decode cX6_fog 63 = .ok (.iload 5, 2) := by decide +kernel
theorem dX6_fog_65 : decode cX6_fog 65 = .ok (.ifCond .eq 15, 3) := by decide +kernel
theorem dX6_fog_68 : decode cX6_fog 68 = .ok (.ldc2_w 233, 3) := by decide +kernel
theorem dX6_fog_71 : decode cX6_fog 71 = .ok (.aload_n 0, 1) := by decide +kernel
theorem dX6_fog_72 : decode cX6_fog 72 = .ok (.iload 5, 2) := by decide +kernel
theorem dX6_fog_74 : decode cX6_fog 74 = .ok (.invokevirtual 70, 3) := by decide +kernel
theorem dX6_fog_77 : decode cX6_fog 77 = .ok (.i2l, 1) := by decide +kernel
theorem dX6_fog_78 : decode cX6_fog 78 = .ok (.lsub, 1) := by decide +kernel
theorem dX6_fog_79 : decode cX6_fog 79 = .ok (.lreturn, 1) := by decide +kernel
theorem dX6_fog_80 : decode cX6_fog 80 = .ok (.aload_n 0, 1) := by decide +kernel
theorem dX6_fog_81 : decode cX6_fog 81 = .ok (.getfield 43, 3) := by decide +kernel
theorem dX6_fog_84 : decode cX6_fog 84 = .ok (.aload_n 0, 1) := by decide +kernel
theorem dX6_fog_85 : decode cX6_fog 85 = .ok (.getfield 10, 3) := by decide +kernel
theorem dX6_fog_88 : decode cX6_fog 88 = .ok (.iload_n 1, 1) := by decide +kernel
theorem dX6_fog_89 : decode cX6_fog 89 = .ok (.iload_n 2, 1) := by decide +kernel
theorem dX6_fog_90 : decode cX6_fog 90 = .ok (.iload_n 3, 1) := by decide +kernel
theorem dX6_fog_91 : decode cX6_fog 91 = .ok (.invokevirtual 235, 3) := by decide +kernel
theorem dX6_fog_94 : decode cX6_fog 94 = .ok (.iload_n 3, 1) := by decide +kernel
theorem dX6_fog_95 : decode cX6_fog 95 = .ok (.iload_n 2, 1) := by decide +kernel
theorem dX6_fog_96 : decode cX6_fog 96 = .ok (.invokestatic 239, 3) := by decide +kernel
theorem dX6_fog_99 : decode cX6_fog 99 = .ok (.iload 4, 2) := by decide +kernel
theorem dX6_fog_101 : decode cX6_fog 101 = .ok (.invokestatic 243, 3) := by decide +kernel
theorem dX6_fog_104 : decode cX6_fog 104 = .ok (.lreturn, 1) := by decide +kernel
set_option maxRecDepth 20000 in
theorem ggX6_mean_X6_choice : GoodIn wsX6_mean wsX6_choice := goodIn_r _ [11] (by decide +kernel) (by decide +kernel)
set_option maxRecDepth 20000 in
theorem gX6_mean_X6_choice : GoodIn wsX6_mean (va_wsS RX6 88 yX6_choice wsX6_choice) := goodIn_app (goodIn_of _ (by decide +kernel)) ggX6_mean_X6_choice
set_option maxRecDepth 20000 in
theorem ggX6_mean_X6_refused : GoodIn wsX6_mean wsX6_refused := goodIn_r _ [15, 16, 30, 31, 32, 33, 34, 35, 36, 37, 38] (by decide +kernel) (by decide +kernel)
set_option maxRecDepth 20000 in
theorem gX6_mean_X6_refused : GoodIn wsX6_mean (wsV RX6 70 RX6 yX6_refused wsX6_refused) := goodIn_app (goodIn_of _ (by decide +kernel)) ggX6_mean_X6_refused
set_option maxRecDepth 20000 in
theorem ggX6_mean_X4_allSlept : GoodIn wsX6_mean wsX4_allSlept := goodIn_r _ [21, 22, 23, 39, 40, 41, 42, 43, 44, 45, 46, 47, 48] (by decide +kernel) (by decide +kernel)
set_option maxRecDepth 20000 in
theorem gX6_mean_X4_allSlept : GoodIn wsX6_mean (wsV RX6 247 RX4 yX4_allSlept wsX4_allSlept) := goodIn_app (goodIn_of _ (by decide +kernel)) ggX6_mean_X4_allSlept
set_option maxRecDepth 20000 in
theorem ggX6_mean_X6_partOf : GoodIn wsX6_mean wsX6_partOf := goodIn_r _ [26, 27, 28, 10, 29] (by decide +kernel) (by decide +kernel)
set_option maxRecDepth 20000 in
theorem gX6_mean_X6_partOf : GoodIn wsX6_mean (va_wsS RX6 243 yX6_partOf wsX6_partOf) := goodIn_app (goodIn_of _ (by decide +kernel)) ggX6_mean_X6_partOf
theorem dX6_mean_0 : decode cX6_mean 0 = .ok (.iload_n 1, 1) := by decide +kernel
theorem dX6_mean_1 : decode cX6_mean 1 = .ok (.iconst 2, 1) := by decide +kernel
theorem dX6_mean_2 : decode cX6_mean 2 = .ok (.invokestatic 88, 3) := by decide +kernel
theorem dX6_mean_5 : decode cX6_mean 5 = .ok (.istore_n 2, 1) := by decide +kernel
theorem dX6_mean_6 : decode cX6_mean 6 = .ok (.iload_n 2, 1) := by decide +kernel
theorem dX6_mean_7 : decode cX6_mean 7 = .ok (.ifCond .eq 14, 3) := by decide +kernel
theorem dX6_mean_10 : decode cX6_mean 10 = .ok (.ldc2_w 233, 3) := by decide +kernel
theorem dX6_mean_13 : decode cX6_mean 13 = .ok (.aload_n 0, 1) := by decide +kernel
theorem dX6_mean_14 : decode cX6_mean 14 = .ok (.iload_n 2, 1) := by decide +kernel
theorem dX6_mean_15 : decode cX6_mean 15 = .ok (.invokevirtual 70, 3) := by decide +kernel
theorem dX6_mean_18 : decode cX6_mean 18 = .ok (.i2l, 1) := by decide +kernel
theorem dX6_mean_19 : decode cX6_mean 19 = .ok (.lsub, 1) := by decide +kernel
theorem dX6_mean_20 : decode cX6_mean 20 = .ok (.lreturn, 1) := by decide +kernel
theorem dX6_mean_21 : decode cX6_mean 21 = .ok (.aload_n 0, 1) := by decide +kernel
theorem dX6_mean_22 : decode cX6_mean 22 = .ok (.getfield 10, 3) := by decide +kernel
theorem dX6_mean_25 : decode cX6_mean 25 = .ok (.invokevirtual 247, 3) := by decide +kernel
theorem dX6_mean_28 : decode cX6_mean 28 = .ok (.i2l, 1) := by decide +kernel
theorem dX6_mean_29 : decode cX6_mean 29 = .ok (.iconst 1, 1) := by decide +kernel
theorem dX6_mean_30 : decode cX6_mean 30 = .ok (.aload_n 0, 1) := by decide +kernel
theorem dX6_mean_31 : decode cX6_mean 31 = .ok (.getfield 10, 3) := by decide +kernel
theorem dX6_mean_34 : decode cX6_mean 34 = .ok (.getfield 250, 3) := by decide +kernel
theorem dX6_mean_37 : decode cX6_mean 37 = .ok (.invokestatic 253, 3) := by decide +kernel
theorem dX6_mean_40 : decode cX6_mean 40 = .ok (.i2l, 1) := by decide +kernel
theorem dX6_mean_41 : decode cX6_mean 41 = .ok (.iload_n 1, 1) := by decide +kernel
theorem dX6_mean_42 : decode cX6_mean 42 = .ok (.invokestatic 243, 3) := by decide +kernel
theorem dX6_mean_45 : decode cX6_mean 45 = .ok (.lreturn, 1) := by decide +kernel
set_option maxRecDepth 20000 in
theorem ggX6_whatIs_X6_noPerson : GoodIn wsX6_whatIs wsX6_noPerson := goodIn_r _ [8, 2, 9, 108, 109, 110, 111, 112, 113, 114, 115, 116, 117, 118, 119, 120, 121, 122, 123, 124, 125, 126] (by decide +kernel) (by decide +kernel)
set_option maxRecDepth 20000 in
theorem gX6_whatIs_X6_noPerson : GoodIn wsX6_whatIs (wsV RX6 103 RX6 yX6_noPerson wsX6_noPerson) := goodIn_app (goodIn_of _ (by decide +kernel)) ggX6_whatIs_X6_noPerson
set_option maxRecDepth 20000 in
theorem ggX6_whatIs_X6_noBell : GoodIn wsX6_whatIs wsX6_noBell := goodIn_r _ [13, 2, 14, 108, 109, 110, 111, 112, 113, 114, 115, 116, 117, 118, 119, 120, 121, 122, 123, 124, 125, 126] (by decide +kernel) (by decide +kernel)
set_option maxRecDepth 20000 in
theorem gX6_whatIs_X6_noBell : GoodIn wsX6_whatIs (wsV RX6 85 RX6 yX6_noBell wsX6_noBell) := goodIn_app (goodIn_of _ (by decide +kernel)) ggX6_whatIs_X6_noBell
set_option maxRecDepth 20000 in
theorem ggX6_whatIs_X6_first : GoodIn wsX6_whatIs wsX6_first := goodIn_r _ [17] (by decide +kernel) (by decide +kernel)
set_option maxRecDepth 20000 in
theorem gX6_whatIs_X6_first : GoodIn wsX6_whatIs (va_wsS RX6 66 yX6_first wsX6_first) := goodIn_app (goodIn_of _ (by decide +kernel)) ggX6_whatIs_X6_first
set_option maxRecDepth 20000 in
theorem ggX6_whatIs_X6_choice : GoodIn wsX6_whatIs wsX6_choice := goodIn_r _ [20] (by decide +kernel) (by decide +kernel)
set_option maxRecDepth 20000 in
theorem gX6_whatIs_X6_choice : GoodIn wsX6_whatIs (va_wsS RX6 88 yX6_choice wsX6_choice) := goodIn_app (goodIn_of _ (by decide +kernel)) ggX6_whatIs_X6_choice
set_option maxRecDepth 20000 in
theorem ggX6_whatIs_X6_refused : GoodIn wsX6_whatIs wsX6_refused := goodIn_r _ [24, 25, 108, 109, 110, 111, 112, 113, 114, 115, 116] (by decide +kernel) (by decide +kernel)
set_option maxRecDepth 20000 in
theorem gX6_whatIs_X6_refused : GoodIn wsX6_whatIs (wsV RX6 70 RX6 yX6_refused wsX6_refused) := goodIn_app (goodIn_of _ (by decide +kernel)) ggX6_whatIs_X6_refused
set_option maxRecDepth 20000 in
theorem ggX6_whatIs_X1_kindsBy : GoodIn wsX6_whatIs wsX1_kindsBy := goodIn_r _ [30, 31, 32, 33, 34, 35, 36, 37, 38, 39, 40, 41, 42, 43, 44, 45, 46, 47, 48, 49, 50, 51, 52, 53, 54, 55, 56, 57, 58, 59, 29, 60, 61, 62, 63, 64, 65, 66, 67, 68, 69, 70, 71, 72, 73, 74, 75, 76, 77, 78, 79, 80, 81, 82, 83, 84, 85, 86, 87, 88, 89, 90, 91, 92, 93, 94, 95, 96, 97, 98, 99, 100, 101, 102, 127, 128, 129, 117, 118, 119, 120, 121, 122, 123, 124, 125, 126] (by decide +kernel) (by decide +kernel)
set_option maxRecDepth 20000 in
theorem gX6_whatIs_X1_kindsBy : GoodIn wsX6_whatIs (wsV RX6 258 RX1 yX1_kindsBy wsX1_kindsBy) := goodIn_app (goodIn_of _ (by decide +kernel)) ggX6_whatIs_X1_kindsBy
set_option maxRecDepth 20000 in
theorem ggX6_whatIs_X1_figuresBy : GoodIn wsX6_whatIs wsX1_figuresBy := goodIn_r _ [106, 31, 32, 107, 34, 35, 36, 37, 38, 39, 40, 41, 42, 43, 44, 45, 46, 47, 48, 49, 50, 51, 52, 53, 54, 55, 56, 57, 58, 59, 29, 60, 61, 62, 63, 64, 65, 66, 67, 68, 69, 70, 71, 72, 73, 74, 75, 76, 77, 78, 79, 80, 81, 82, 83, 84, 85, 86, 87, 88, 89, 90, 91, 92, 93, 94, 95, 96, 97, 98, 99, 100, 101, 102, 127, 128, 129, 117, 118, 119, 120, 121, 122, 123, 124, 125, 126] (by decide +kernel) (by decide +kernel)
set_option maxRecDepth 20000 in
theorem gX6_whatIs_X1_figuresBy : GoodIn wsX6_whatIs (wsV RX6 262 RX1 yX1_figuresBy wsX1_figuresBy) := goodIn_app (goodIn_of _ (by decide +kernel)) ggX6_whatIs_X1_figuresBy
theorem dX6_whatIs_0 : decode cX6_whatIs 0 = .ok (.aload_n 0, 1) := by decide +kernel
theorem dX6_whatIs_1 : decode cX6_whatIs 1 = .ok (.iload_n 1, 1) := by decide +kernel
theorem dX6_whatIs_2 : decode cX6_whatIs 2 = .ok (.invokevirtual 103, 3) := by decide +kernel
theorem dX6_whatIs_5 : decode cX6_whatIs 5 = .ok (.aload_n 0, 1) := by decide +kernel
theorem dX6_whatIs_6 : decode cX6_whatIs 6 = .ok (.iload_n 2, 1) := by decide +kernel
theorem dX6_whatIs_7 : decode cX6_whatIs 7 = .ok (.invokevirtual 85, 3) := by decide +kernel
theorem dX6_whatIs_10 : decode cX6_whatIs 10 = .ok (.invokestatic 66, 3) := by decide +kernel
theorem dX6_whatIs_13 : decode cX6_whatIs 13 = .ok (.istore 4, 2) := by decide +kernel
theorem dX6_whatIs_15 : decode cX6_whatIs 15 = .ok (.iload 4, 2) := by decide +kernel
theorem dX6_whatIs_17 : decode cX6_whatIs 17 = .ok (.iload_n 3, 1) := by decide +kernel
theorem dX6_whatIs_18 : decode cX6_whatIs 18 = .ok (.iconst 2, 1) := by decide +kernel
theorem dX6_whatIs_19 : decode cX6_whatIs 19 = .ok (.invokestatic 88, 3) := by decide +kernel
theorem dX6_whatIs_22 : decode cX6_whatIs 22 = .ok (.invokestatic 66, 3) := by decide +kernel
theorem dX6_whatIs_25 : decode cX6_whatIs 25 = .ok (.istore 4, 2) := by decide +kernel
theorem dX6_whatIs_27 : decode cX6_whatIs 27 = .ok (.iload 4, 2) := by decide +kernel
theorem dX6_whatIs_29 : decode cX6_whatIs 29 = .ok (.ifCond .eq 10, 3) := by decide +kernel
theorem dX6_whatIs_32 : decode cX6_whatIs 32 = .ok (.aload_n 0, 1) := by decide +kernel
theorem dX6_whatIs_33 : decode cX6_whatIs 33 = .ok (.iload 4, 2) := by decide +kernel
theorem dX6_whatIs_35 : decode cX6_whatIs 35 = .ok (.invokevirtual 70, 3) := by decide +kernel
theorem dX6_whatIs_38 : decode cX6_whatIs 38 = .ok (.ireturn, 1) := by decide +kernel
theorem dX6_whatIs_39 : decode cX6_whatIs 39 = .ok (.iload_n 3, 1) := by decide +kernel
theorem dX6_whatIs_40 : decode cX6_whatIs 40 = .ok (.ifCond .ne 23, 3) := by decide +kernel
theorem dX6_whatIs_43 : decode cX6_whatIs 43 = .ok (.aload_n 0, 1) := by decide +kernel
theorem dX6_whatIs_44 : decode cX6_whatIs 44 = .ok (.getfield 43, 3) := by decide +kernel
theorem dX6_whatIs_47 : decode cX6_whatIs 47 = .ok (.aload_n 0, 1) := by decide +kernel
theorem dX6_whatIs_48 : decode cX6_whatIs 48 = .ok (.getfield 10, 3) := by decide +kernel
theorem dX6_whatIs_51 : decode cX6_whatIs 51 = .ok (.iload_n 1, 1) := by decide +kernel
theorem dX6_whatIs_52 : decode cX6_whatIs 52 = .ok (.iload_n 2, 1) := by decide +kernel
theorem dX6_whatIs_53 : decode cX6_whatIs 53 = .ok (.aload_n 0, 1) := by decide +kernel
theorem dX6_whatIs_54 : decode cX6_whatIs 54 = .ok (.getfield 29, 3) := by decide +kernel
theorem dX6_whatIs_57 : decode cX6_whatIs 57 = .ok (.invokevirtual 258, 3) := by decide +kernel
theorem dX6_whatIs_60 : decode cX6_whatIs 60 = .ok (.goto 20, 3) := by decide +kernel
theorem dX6_whatIs_63 : decode cX6_whatIs 63 = .ok (.aload_n 0, 1) := by decide +kernel
theorem dX6_whatIs_64 : decode cX6_whatIs 64 = .ok (.getfield 43, 3) := by decide +kernel
theorem dX6_whatIs_67 : decode cX6_whatIs 67 = .ok (.aload_n 0, 1) := by decide +kernel
theorem dX6_whatIs_68 : decode cX6_whatIs 68 = .ok (.getfield 10, 3) := by decide +kernel
theorem dX6_whatIs_71 : decode cX6_whatIs 71 = .ok (.iload_n 1, 1) := by decide +kernel
theorem dX6_whatIs_72 : decode cX6_whatIs 72 = .ok (.iload_n 2, 1) := by decide +kernel
theorem dX6_whatIs_73 : decode cX6_whatIs 73 = .ok (.aload_n 0, 1) := by decide +kernel
theorem dX6_whatIs_74 : decode cX6_whatIs 74 = .ok (.getfield 29, 3) := by decide +kernel
theorem dX6_whatIs_77 : decode cX6_whatIs 77 = .ok (.invokevirtual 262, 3) := by decide +kernel
theorem dX6_whatIs_80 : decode cX6_whatIs 80 = .ok (.ireturn, 1) := by decide +kernel
set_option maxRecDepth 20000 in
theorem ggX6_row_X6_range : GoodIn wsX6_row wsX6_range := goodIn_r _ [6] (by decide +kernel) (by decide +kernel)
set_option maxRecDepth 20000 in
theorem gX6_row_X6_range : GoodIn wsX6_row (va_wsS RX6 58 yX6_range wsX6_range) := goodIn_app (goodIn_of _ (by decide +kernel)) ggX6_row_X6_range
set_option maxRecDepth 20000 in
theorem ggX6_row_X6_first : GoodIn wsX6_row wsX6_first := goodIn_r _ [9] (by decide +kernel) (by decide +kernel)
set_option maxRecDepth 20000 in
theorem gX6_row_X6_first : GoodIn wsX6_row (va_wsS RX6 66 yX6_first wsX6_first) := goodIn_app (goodIn_of _ (by decide +kernel)) ggX6_row_X6_first
set_option maxRecDepth 20000 in
theorem ggX6_row_X6_refused : GoodIn wsX6_row wsX6_refused := goodIn_r _ [13, 14, 22, 23, 24, 25, 26, 27, 28, 29, 30] (by decide +kernel) (by decide +kernel)
set_option maxRecDepth 20000 in
theorem gX6_row_X6_refused : GoodIn wsX6_row (wsV RX6 70 RX6 yX6_refused wsX6_refused) := goodIn_app (goodIn_of _ (by decide +kernel)) ggX6_row_X6_refused
set_option maxRecDepth 20000 in
theorem ggX6_row_X2_add : GoodIn wsX6_row wsX2_add := goodIn_r _ [19, 20, 21, 31, 32] (by decide +kernel) (by decide +kernel)
set_option maxRecDepth 20000 in
theorem gX6_row_X2_add : GoodIn wsX6_row (wsV RX6 268 RX2 yX2_add wsX2_add) := goodIn_app (goodIn_of _ (by decide +kernel)) ggX6_row_X2_add
theorem dX6_row_0 : decode cX6_row 0 = .ok (.iload_n 1, 1) := by decide +kernel
theorem dX6_row_1 : decode cX6_row 1 = .ok (.iconst 0, 1) := by decide +kernel
theorem dX6_row_2 : decode cX6_row 2 = .ok (.bipush 99, 2) := by decide +kernel
theorem dX6_row_4 : decode cX6_row 4 = .ok (.invokestatic 58, 3) := by decide +kernel
theorem dX6_row_7 : decode cX6_row 7 = .ok (.aload_n 0, 1) := by decide +kernel
theorem dX6_row_8 : decode cX6_row 8 = .ok (.getfield 29, 3) := by decide +kernel
theorem dX6_row_11 : decode cX6_row 11 = .ok (.getfield 265, 3) := by decide +kernel
theorem dX6_row_14 : decode cX6_row 14 = .ok (.bipush 16, 2) := by decide +kernel
theorem dX6_row_16 : decode cX6_row 16 = .ok (.if_icmp .ge 7, 3) := by decide +kernel
theorem dX6_row_19 : decode cX6_row 19 = .ok (.iconst 0, 1) := by decide +kernel
theorem dX6_row_20 : decode cX6_row 20 = .ok (.goto 5, 3) := by decide +kernel
theorem dX6_row_23 : decode cX6_row 23 = .ok (.bipush (-6), 2) := by decide +kernel
theorem dX6_row_25 : decode cX6_row 25 = .ok (.invokestatic 66, 3) := by decide +kernel
theorem dX6_row_28 : decode cX6_row 28 = .ok (.istore_n 2, 1) := by decide +kernel
theorem dX6_row_29 : decode cX6_row 29 = .ok (.iload_n 2, 1) := by decide +kernel
theorem dX6_row_30 : decode cX6_row 30 = .ok (.ifCond .eq 9, 3) := by decide +kernel
theorem dX6_row_33 : decode cX6_row 33 = .ok (.aload_n 0, 1) := by decide +kernel
theorem dX6_row_34 : decode cX6_row 34 = .ok (.iload_n 2, 1) := by decide +kernel
theorem dX6_row_35 : decode cX6_row 35 = .ok (.invokevirtual 70, 3) := by decide +kernel
theorem dX6_row_38 : decode cX6_row 38 = .ok (.ireturn, 1) := by decide +kernel
theorem dX6_row_39 : decode cX6_row 39 = .ok (.aload_n 0, 1) := by decide +kernel
theorem dX6_row_40 : decode cX6_row 40 = .ok (.getfield 29, 3) := by decide +kernel
theorem dX6_row_43 : decode cX6_row 43 = .ok (.iload_n 1, 1) := by decide +kernel
theorem dX6_row_44 : decode cX6_row 44 = .ok (.invokevirtual 268, 3) := by decide +kernel
theorem dX6_row_47 : decode cX6_row 47 = .ok (.aload_n 0, 1) := by decide +kernel
theorem dX6_row_48 : decode cX6_row 48 = .ok (.getfield 29, 3) := by decide +kernel
theorem dX6_row_51 : decode cX6_row 51 = .ok (.getfield 265, 3) := by decide +kernel
theorem dX6_row_54 : decode cX6_row 54 = .ok (.ireturn, 1) := by decide +kernel
set_option maxRecDepth 20000 in
theorem ggX6_judge_X1_firstUntrue : GoodIn wsX6_judge wsX1_firstUntrue := goodIn_r _ [8, 9, 10, 11, 12, 13, 14, 15, 16, 17, 18, 19, 20, 21, 22, 23, 24, 25, 26, 27, 28, 29, 30, 31, 32, 33, 34, 35, 36, 37, 38, 39, 40, 41, 42, 43, 44, 45, 46, 47, 48, 49, 50, 51, 52, 53, 54, 55, 56, 57, 58, 59, 60, 61, 62, 63, 64, 65, 66, 67, 68, 69, 70, 71, 72, 73, 74, 75, 76, 77, 78, 92, 93, 94, 95, 96, 97, 98, 99, 100, 101, 102, 103, 104] (by decide +kernel) (by decide +kernel)
set_option maxRecDepth 20000 in
theorem gX6_judge_X1_firstUntrue : GoodIn wsX6_judge (wsV RX6 269 RX1 yX1_firstUntrue wsX1_firstUntrue) := goodIn_app (goodIn_of _ (by decide +kernel)) ggX6_judge_X1_firstUntrue
set_option maxRecDepth 20000 in
theorem ggX6_judge_X2_forget : GoodIn wsX6_judge wsX2_forget := goodIn_r _ [82, 58, 93, 94] (by decide +kernel) (by decide +kernel)
set_option maxRecDepth 20000 in
theorem gX6_judge_X2_forget : GoodIn wsX6_judge (wsV RX6 273 RX2 yX2_forget wsX2_forget) := goodIn_app (goodIn_of _ (by decide +kernel)) ggX6_judge_X2_forget
theorem dX6_judge_0 : decode cX6_judge 0 = .ok (.aload_n 0, 1) := by decide +kernel
theorem dX6_judge_1 : decode cX6_judge 1 = .ok (.getfield 43, 3) := by decide +kernel
theorem dX6_judge_4 : decode cX6_judge 4 = .ok (.aload_n 0, 1) := by decide +kernel
theorem dX6_judge_5 : decode cX6_judge 5 = .ok (.getfield 10, 3) := by decide +kernel
theorem dX6_judge_8 : decode cX6_judge 8 = .ok (.aload_n 0, 1) := by decide +kernel
theorem dX6_judge_9 : decode cX6_judge 9 = .ok (.getfield 29, 3) := by decide +kernel
theorem dX6_judge_12 : decode cX6_judge 12 = .ok (.invokevirtual 269, 3) := by decide +kernel
theorem dX6_judge_15 : decode cX6_judge 15 = .ok (.istore_n 1, 1) := by decide +kernel
theorem dX6_judge_16 : decode cX6_judge 16 = .ok (.aload_n 0, 1) := by decide +kernel
theorem dX6_judge_17 : decode cX6_judge 17 = .ok (.getfield 29, 3) := by decide +kernel
theorem dX6_judge_20 : decode cX6_judge 20 = .ok (.invokevirtual 273, 3) := by decide +kernel
theorem dX6_judge_23 : decode cX6_judge 23 = .ok (.iload_n 1, 1) := by decide +kernel
theorem dX6_judge_24 : decode cX6_judge 24 = .ok (.ireturn, 1) := by decide +kernel
set_option maxRecDepth 20000 in
theorem ggX6_clear_X2_forget : GoodIn wsX6_clear wsX2_forget := goodIn_r _ [7, 8, 18, 19] (by decide +kernel) (by decide +kernel)
set_option maxRecDepth 20000 in
theorem gX6_clear_X2_forget : GoodIn wsX6_clear (wsV RX6 273 RX2 yX2_forget wsX2_forget) := goodIn_app (goodIn_of _ (by decide +kernel)) ggX6_clear_X2_forget
theorem dX6_clear_0 : decode cX6_clear 0 = .ok (.aload_n 0, 1) := by decide +kernel
theorem dX6_clear_1 : decode cX6_clear 1 = .ok (.getfield 29, 3) := by decide +kernel
theorem dX6_clear_4 : decode cX6_clear 4 = .ok (.getfield 265, 3) := by decide +kernel
theorem dX6_clear_7 : decode cX6_clear 7 = .ok (.istore_n 1, 1) := by decide +kernel
theorem dX6_clear_8 : decode cX6_clear 8 = .ok (.aload_n 0, 1) := by decide +kernel
theorem dX6_clear_9 : decode cX6_clear 9 = .ok (.getfield 29, 3) := by decide +kernel
theorem dX6_clear_12 : decode cX6_clear 12 = .ok (.invokevirtual 273, 3) := by decide +kernel
theorem dX6_clear_15 : decode cX6_clear 15 = .ok (.iload_n 1, 1) := by decide +kernel
theorem dX6_clear_16 : decode cX6_clear 16 = .ok (.ireturn, 1) := by decide +kernel
set_option maxRecDepth 20000 in
theorem ggX6_lots_X6_range : GoodIn wsX6_lots wsX6_range := goodIn_r _ [6] (by decide +kernel) (by decide +kernel)
set_option maxRecDepth 20000 in
theorem gX6_lots_X6_range : GoodIn wsX6_lots (va_wsS RX6 58 yX6_range wsX6_range) := goodIn_app (goodIn_of _ (by decide +kernel)) ggX6_lots_X6_range
set_option maxRecDepth 20000 in
theorem ggX6_lots_X6_choice : GoodIn wsX6_lots wsX6_choice := goodIn_r _ [9] (by decide +kernel) (by decide +kernel)
set_option maxRecDepth 20000 in
theorem gX6_lots_X6_choice : GoodIn wsX6_lots (va_wsS RX6 88 yX6_choice wsX6_choice) := goodIn_app (goodIn_of _ (by decide +kernel)) ggX6_lots_X6_choice
set_option maxRecDepth 20000 in
theorem ggX6_lots_X6_first : GoodIn wsX6_lots wsX6_first := goodIn_r _ [12] (by decide +kernel) (by decide +kernel)
set_option maxRecDepth 20000 in
theorem gX6_lots_X6_first : GoodIn wsX6_lots (va_wsS RX6 66 yX6_first wsX6_first) := goodIn_app (goodIn_of _ (by decide +kernel)) ggX6_lots_X6_first
set_option maxRecDepth 20000 in
theorem ggX6_lots_X6_refused : GoodIn wsX6_lots wsX6_refused := goodIn_r _ [16, 17, 94, 95, 96, 97, 98, 99, 100, 101, 102] (by decide +kernel) (by decide +kernel)
set_option maxRecDepth 20000 in
theorem gX6_lots_X6_refused : GoodIn wsX6_lots (wsV RX6 70 RX6 yX6_refused wsX6_refused) := goodIn_app (goodIn_of _ (by decide +kernel)) ggX6_lots_X6_refused
set_option maxRecDepth 20000 in
theorem ggX6_lots_X1_townsByLot : GoodIn wsX6_lots wsX1_townsByLot := goodIn_r _ [22, 23, 24, 25, 26, 27, 28, 29, 30, 31, 32, 33, 34, 35, 36, 37, 38, 39, 40, 41, 42, 43, 44, 45, 46, 47, 48, 49, 50, 51, 52, 53, 54, 55, 56, 57, 58, 59, 60, 61, 62, 63, 64, 65, 66, 67, 68, 69, 70, 71, 72, 73, 74, 75, 76, 77, 78, 79, 80, 81, 82, 83, 84, 85, 86, 87, 88, 89, 90, 91, 92, 93, 103, 104, 105, 106, 107, 108, 109, 110, 111, 112, 113] (by decide +kernel) (by decide +kernel)
set_option maxRecDepth 20000 in
theorem gX6_lots_X1_townsByLot : GoodIn wsX6_lots (wsV RX6 274 RX1 yX1_townsByLot wsX1_townsByLot) := goodIn_app (goodIn_of _ (by decide +kernel)) ggX6_lots_X1_townsByLot
theorem dX6_lots_0 : decode cX6_lots 0 = .ok (.iload_n 1, 1) := by decide +kernel
theorem dX6_lots_1 : decode cX6_lots 1 = .ok (.iconst 1, 1) := by decide +kernel
theorem dX6_lots_2 : decode cX6_lots 2 = .ok (.bipush 20, 2) := by decide +kernel
theorem dX6_lots_4 : decode cX6_lots 4 = .ok (.invokestatic 58, 3) := by decide +kernel
theorem dX6_lots_7 : decode cX6_lots 7 = .ok (.iload_n 3, 1) := by decide +kernel
theorem dX6_lots_8 : decode cX6_lots 8 = .ok (.iconst 2, 1) := by decide +kernel
theorem dX6_lots_9 : decode cX6_lots 9 = .ok (.invokestatic 88, 3) := by decide +kernel
theorem dX6_lots_12 : decode cX6_lots 12 = .ok (.invokestatic 66, 3) := by decide +kernel
theorem dX6_lots_15 : decode cX6_lots 15 = .ok (.istore 4, 2) := by decide +kernel
theorem dX6_lots_17 : decode cX6_lots 17 = .ok (.iload 4, 2) := by decide +kernel
theorem dX6_lots_19 : decode cX6_lots 19 = .ok (.ifCond .eq 10, 3) := by decide +kernel
theorem dX6_lots_22 : decode cX6_lots 22 = .ok (.aload_n 0, 1) := by decide +kernel
theorem dX6_lots_23 : decode cX6_lots 23 = .ok (.iload 4, 2) := by decide +kernel
theorem dX6_lots_25 : decode cX6_lots 25 = .ok (.invokevirtual 70, 3) := by decide +kernel
theorem dX6_lots_28 : decode cX6_lots 28 = .ok (.ireturn, 1) := by decide +kernel
theorem dX6_lots_29 : decode cX6_lots 29 = .ok (.aload_n 0, 1) := by decide +kernel
theorem dX6_lots_30 : decode cX6_lots 30 = .ok (.getfield 43, 3) := by decide +kernel
theorem dX6_lots_33 : decode cX6_lots 33 = .ok (.aload_n 0, 1) := by decide +kernel
theorem dX6_lots_34 : decode cX6_lots 34 = .ok (.getfield 10, 3) := by decide +kernel
theorem dX6_lots_37 : decode cX6_lots 37 = .ok (.iload_n 1, 1) := by decide +kernel
theorem dX6_lots_38 : decode cX6_lots 38 = .ok (.iload_n 2, 1) := by decide +kernel
theorem dX6_lots_39 : decode cX6_lots 39 = .ok (.iload_n 3, 1) := by decide +kernel
theorem dX6_lots_40 : decode cX6_lots 40 = .ok (.ifCond .ne 7, 3) := by decide +kernel
theorem dX6_lots_43 : decode cX6_lots 43 = .ok (.iconst 1, 1) := by decide +kernel
theorem dX6_lots_44 : decode cX6_lots 44 = .ok (.goto 4, 3) := by decide +kernel
theorem dX6_lots_47 : decode cX6_lots 47 = .ok (.iconst 0, 1) := by decide +kernel
theorem dX6_lots_48 : decode cX6_lots 48 = .ok (.invokevirtual 274, 3) := by decide +kernel
theorem dX6_lots_51 : decode cX6_lots 51 = .ok (.ireturn, 1) := by decide +kernel
set_option maxRecDepth 20000 in
theorem ggX6_image_X4_become : GoodIn wsX6_image wsX4_become := goodIn_r _ [9, 10, 11, 12, 13, 14, 15, 16, 17, 18, 19, 20, 21, 22, 23, 33, 34, 35, 36, 37, 38, 39, 40, 41, 42] (by decide +kernel) (by decide +kernel)
set_option maxRecDepth 20000 in
theorem gX6_image_X4_become : GoodIn wsX6_image (wsV RX6 278 RX4 yX4_become wsX4_become) := goodIn_app (goodIn_of _ (by decide +kernel)) ggX6_image_X4_become
theorem dX6_image_0 : decode cX6_image 0 = .ok (.aload_n 0, 1) := by decide +kernel
theorem dX6_image_1 : decode cX6_image 1 = .ok (.getfield 16, 3) := by decide +kernel
theorem dX6_image_4 : decode cX6_image 4 = .ok (.aload_n 0, 1) := by decide +kernel
theorem dX6_image_5 : decode cX6_image 5 = .ok (.getfield 10, 3) := by decide +kernel
theorem dX6_image_8 : decode cX6_image 8 = .ok (.invokevirtual 278, 3) := by decide +kernel
theorem dX6_image_11 : decode cX6_image 11 = .ok (.aload_n 0, 1) := by decide +kernel
theorem dX6_image_12 : decode cX6_image 12 = .ok (.iconst 1, 1) := by decide +kernel
theorem dX6_image_13 : decode cX6_image 13 = .ok (.putfield 282, 3) := by decide +kernel
theorem dX6_image_16 : decode cX6_image 16 = .ok (.aload_n 0, 1) := by decide +kernel
theorem dX6_image_17 : decode cX6_image 17 = .ok (.getfield 10, 3) := by decide +kernel
theorem dX6_image_20 : decode cX6_image 20 = .ok (.getfield 135, 3) := by decide +kernel
theorem dX6_image_23 : decode cX6_image 23 = .ok (.ireturn, 1) := by decide +kernel
set_option maxRecDepth 20000 in
theorem ggX6_on_X6_refused : GoodIn wsX6_on wsX6_refused := goodIn_r _ [9, 10, 30, 31, 32, 33, 34, 35, 36, 37, 38] (by decide +kernel) (by decide +kernel)
set_option maxRecDepth 20000 in
theorem gX6_on_X6_refused : GoodIn wsX6_on (wsV RX6 70 RX6 yX6_refused wsX6_refused) := goodIn_app (goodIn_of _ (by decide +kernel)) ggX6_on_X6_refused
set_option maxRecDepth 20000 in
theorem ggX6_on_X4_become : GoodIn wsX6_on wsX4_become := goodIn_r _ [15, 16, 17, 18, 19, 20, 21, 22, 23, 24, 25, 26, 27, 28, 29, 39, 40, 41, 42, 43, 44, 45, 46, 47, 48] (by decide +kernel) (by decide +kernel)
set_option maxRecDepth 20000 in
theorem gX6_on_X4_become : GoodIn wsX6_on (wsV RX6 278 RX4 yX4_become wsX4_become) := goodIn_app (goodIn_of _ (by decide +kernel)) ggX6_on_X4_become
theorem dX6_on_0 : decode cX6_on 0 = .ok (.aload_n 0, 1) := by decide +kernel
theorem dX6_on_1 : decode cX6_on 1 = .ok (.getfield 282, 3) := by decide +kernel
theorem dX6_on_4 : decode cX6_on 4 = .ok (.ifCond .ne 10, 3) := by decide +kernel
theorem dX6_on_7 : decode cX6_on 7 = .ok (.aload_n 0, 1) := by decide +kernel
theorem dX6_on_8 : decode cX6_on 8 = .ok (.bipush (-3), 2) := by decide +kernel
theorem dX6_on_10 : decode cX6_on 10 = .ok (.invokevirtual 70, 3) := by decide +kernel
theorem dX6_on_13 : decode cX6_on 13 = .ok (.ireturn, 1) := by decide +kernel
theorem dX6_on_14 : decode cX6_on 14 = .ok (.aload_n 0, 1) := by decide +kernel
theorem dX6_on_15 : decode cX6_on 15 = .ok (.getfield 10, 3) := by decide +kernel
theorem dX6_on_18 : decode cX6_on 18 = .ok (.aload_n 0, 1) := by decide +kernel
theorem dX6_on_19 : decode cX6_on 19 = .ok (.getfield 16, 3) := by decide +kernel
theorem dX6_on_22 : decode cX6_on 22 = .ok (.invokevirtual 278, 3) := by decide +kernel
theorem dX6_on_25 : decode cX6_on 25 = .ok (.aload_n 0, 1) := by decide +kernel
theorem dX6_on_26 : decode cX6_on 26 = .ok (.getfield 10, 3) := by decide +kernel
theorem dX6_on_29 : decode cX6_on 29 = .ok (.getfield 135, 3) := by decide +kernel
theorem dX6_on_32 : decode cX6_on 32 = .ok (.ireturn, 1) := by decide +kernel
set_option maxRecDepth 20000 in
theorem ggX6_count_X4_hearersOfSome : GoodIn wsX6_count wsX4_hearersOfSome := goodIn_r _ [15, 16, 17, 18, 19, 14, 20, 21, 22, 23, 24, 25, 26, 27, 28, 29, 30, 31, 32, 33, 34, 55, 56, 57, 58, 59, 60, 61, 62, 63, 64] (by decide +kernel) (by decide +kernel)
set_option maxRecDepth 20000 in
theorem gX6_count_X4_hearersOfSome : GoodIn wsX6_count (wsV RX6 141 RX4 yX4_hearersOfSome wsX4_hearersOfSome) := goodIn_app (goodIn_of _ (by decide +kernel)) ggX6_count_X4_hearersOfSome
set_option maxRecDepth 20000 in
theorem ggX6_count_J6_bitCount_0f7a4 : GoodIn wsX6_count wsJ6_bitCount_0f7a4 := goodIn_r _ [38, 39, 40, 41] (by decide +kernel) (by decide +kernel)
set_option maxRecDepth 20000 in
theorem gX6_count_J6_bitCount_0f7a4 : GoodIn wsX6_count (va_wsS RX6 145 yJ6_bitCount_0f7a4 wsJ6_bitCount_0f7a4) := goodIn_app (goodIn_of _ (by decide +kernel)) ggX6_count_J6_bitCount_0f7a4
set_option maxRecDepth 20000 in
theorem ggX6_count_X4_allSlept : GoodIn wsX6_count wsX4_allSlept := goodIn_r _ [45, 16, 27, 55, 56, 57, 58, 59, 60, 61, 62, 63, 64] (by decide +kernel) (by decide +kernel)
set_option maxRecDepth 20000 in
theorem gX6_count_X4_allSlept : GoodIn wsX6_count (wsV RX6 247 RX4 yX4_allSlept wsX4_allSlept) := goodIn_app (goodIn_of _ (by decide +kernel)) ggX6_count_X4_allSlept
theorem dX6_count_0 : decode cX6_count 0 = .ok (.iload_n 1, 1) := by decide +kernel
theorem dX6_count_1 : decode cX6_count 1 = .ok (.tableswitch 114 0 7 #[47, 55, 63, 71, 79, 90, 98, 106], 47) := by decide +kernel
theorem dX6_count_48 : decode cX6_count 48 = .ok (.aload_n 0, 1) := by decide +kernel
theorem dX6_count_49 : decode cX6_count 49 = .ok (.getfield 10, 3) := by decide +kernel
theorem dX6_count_52 : decode cX6_count 52 = .ok (.getfield 286, 3) := by decide +kernel
theorem dX6_count_55 : decode cX6_count 55 = .ok (.ireturn, 1) := by decide +kernel
theorem dX6_count_56 : decode cX6_count 56 = .ok (.aload_n 0, 1) := by decide +kernel
theorem dX6_count_57 : decode cX6_count 57 = .ok (.getfield 10, 3) := by decide +kernel
theorem dX6_count_60 : decode cX6_count 60 = .ok (.getfield 250, 3) := by decide +kernel
theorem dX6_count_63 : decode cX6_count 63 = .ok (.ireturn, 1) := by decide +kernel
theorem dX6_count_64 : decode cX6_count 64 = .ok (.aload_n 0, 1) := by decide +kernel
theorem dX6_count_65 : decode cX6_count 65 = .ok (.getfield 10, 3) := by decide +kernel
theorem dX6_count_68 : decode cX6_count 68 = .ok (.getfield 135, 3) := by decide +kernel
theorem dX6_count_71 : decode cX6_count 71 = .ok (.ireturn, 1) := by decide +kernel
theorem dX6_count_72 : decode cX6_count 72 = .ok (.aload_n 0, 1) := by decide +kernel
theorem dX6_count_73 : decode cX6_count 73 = .ok (.getfield 10, 3) := by decide +kernel
theorem dX6_count_76 : decode cX6_count 76 = .ok (.getfield 128, 3) := by decide +kernel
theorem dX6_count_79 : decode cX6_count 79 = .ok (.ireturn, 1) := by decide +kernel
theorem dX6_count_80 : decode cX6_count 80 = .ok (.aload_n 0, 1) := by decide +kernel
theorem dX6_count_81 : decode cX6_count 81 = .ok (.getfield 10, 3) := by decide +kernel
theorem dX6_count_84 : decode cX6_count 84 = .ok (.invokevirtual 141, 3) := by decide +kernel
theorem dX6_count_87 : decode cX6_count 87 = .ok (.invokestatic 145, 3) := by decide +kernel
theorem dX6_count_90 : decode cX6_count 90 = .ok (.ireturn, 1) := by decide +kernel
theorem dX6_count_91 : decode cX6_count 91 = .ok (.aload_n 0, 1) := by decide +kernel
theorem dX6_count_92 : decode cX6_count 92 = .ok (.getfield 10, 3) := by decide +kernel
theorem dX6_count_95 : decode cX6_count 95 = .ok (.invokevirtual 247, 3) := by decide +kernel
theorem dX6_count_98 : decode cX6_count 98 = .ok (.ireturn, 1) := by decide +kernel
theorem dX6_count_99 : decode cX6_count 99 = .ok (.aload_n 0, 1) := by decide +kernel
theorem dX6_count_100 : decode cX6_count 100 = .ok (.getfield 29, 3) := by decide +kernel
theorem dX6_count_103 : decode cX6_count 103 = .ok (.getfield 265, 3) := by decide +kernel
theorem dX6_count_106 : decode cX6_count 106 = .ok (.ireturn, 1) := by decide +kernel
theorem dX6_count_107 : decode cX6_count 107 = .ok (.aload_n 0, 1) := by decide +kernel
theorem dX6_count_108 : decode cX6_count 108 = .ok (.getfield 22, 3) := by decide +kernel
theorem dX6_count_111 : decode cX6_count 111 = .ok (.getfield 62, 3) := by decide +kernel
theorem dX6_count_114 : decode cX6_count 114 = .ok (.ireturn, 1) := by decide +kernel
theorem dX6_count_115 : decode cX6_count 115 = .ok (.iload_n 1, 1) := by decide +kernel
theorem dX6_count_116 : decode cX6_count 116 = .ok (.bipush 10, 2) := by decide +kernel
theorem dX6_count_118 : decode cX6_count 118 = .ok (.if_icmp .le 21, 3) := by decide +kernel
theorem dX6_count_121 : decode cX6_count 121 = .ok (.iload_n 1, 1) := by decide +kernel
theorem dX6_count_122 : decode cX6_count 122 = .ok (.bipush 16, 2) := by decide +kernel
theorem dX6_count_124 : decode cX6_count 124 = .ok (.if_icmp .gt 15, 3) := by decide +kernel
theorem dX6_count_127 : decode cX6_count 127 = .ok (.aload_n 0, 1) := by decide +kernel
theorem dX6_count_128 : decode cX6_count 128 = .ok (.getfield 54, 3) := by decide +kernel
theorem dX6_count_131 : decode cX6_count 131 = .ok (.iload_n 1, 1) := by decide +kernel
theorem dX6_count_132 : decode cX6_count 132 = .ok (.bipush 10, 2) := by decide +kernel
theorem dX6_count_134 : decode cX6_count 134 = .ok (.isub, 1) := by decide +kernel
theorem dX6_count_135 : decode cX6_count 135 = .ok (.iaload, 1) := by decide +kernel
theorem dX6_count_136 : decode cX6_count 136 = .ok (.goto 5, 3) := by decide +kernel
theorem dX6_count_139 : decode cX6_count 139 = .ok (.bipush (-9), 2) := by decide +kernel
theorem dX6_count_141 : decode cX6_count 141 = .ok (.ireturn, 1) := by decide +kernel
theorem dX6_noBell_0 : decode cX6_noBell 0 = .ok (.iload_n 1, 1) := by decide +kernel
theorem dX6_noBell_1 : decode cX6_noBell 1 = .ok (.ifCond .lt 18, 3) := by decide +kernel
theorem dX6_noBell_4 : decode cX6_noBell 4 = .ok (.iload_n 1, 1) := by decide +kernel
theorem dX6_noBell_5 : decode cX6_noBell 5 = .ok (.aload_n 0, 1) := by decide +kernel
theorem dX6_noBell_6 : decode cX6_noBell 6 = .ok (.getfield 10, 3) := by decide +kernel
theorem dX6_noBell_9 : decode cX6_noBell 9 = .ok (.getfield 286, 3) := by decide +kernel
theorem dX6_noBell_12 : decode cX6_noBell 12 = .ok (.if_icmp .ge 7, 3) := by decide +kernel
theorem dX6_noBell_15 : decode cX6_noBell 15 = .ok (.iconst 0, 1) := by decide +kernel
theorem dX6_noBell_16 : decode cX6_noBell 16 = .ok (.goto 4, 3) := by decide +kernel
theorem dX6_noBell_19 : decode cX6_noBell 19 = .ok (.iconst (-1), 1) := by decide +kernel
theorem dX6_noBell_20 : decode cX6_noBell 20 = .ok (.ireturn, 1) := by decide +kernel
theorem dX6_noPerson_0 : decode cX6_noPerson 0 = .ok (.iload_n 1, 1) := by decide +kernel
theorem dX6_noPerson_1 : decode cX6_noPerson 1 = .ok (.ifCond .lt 18, 3) := by decide +kernel
theorem dX6_noPerson_4 : decode cX6_noPerson 4 = .ok (.iload_n 1, 1) := by decide +kernel
theorem dX6_noPerson_5 : decode cX6_noPerson 5 = .ok (.aload_n 0, 1) := by decide +kernel
theorem dX6_noPerson_6 : decode cX6_noPerson 6 = .ok (.getfield 10, 3) := by decide +kernel
theorem dX6_noPerson_9 : decode cX6_noPerson 9 = .ok (.getfield 250, 3) := by decide +kernel
theorem dX6_noPerson_12 : decode cX6_noPerson 12 = .ok (.if_icmp .ge 7, 3) := by decide +kernel
theorem dX6_noPerson_15 : decode cX6_noPerson 15 = .ok (.iconst 0, 1) := by decide +kernel
theorem dX6_noPerson_16 : decode cX6_noPerson 16 = .ok (.goto 4, 3) := by decide +kernel
theorem dX6_noPerson_19 : decode cX6_noPerson 19 = .ok (.iconst (-1), 1) := by decide +kernel
theorem dX6_noPerson_20 : decode cX6_noPerson 20 = .ok (.ireturn, 1) := by decide +kernel
theorem dX6_choice_0 : decode cX6_choice 0 = .ok (.iload_n 0, 1) := by decide +kernel
theorem dX6_choice_1 : decode cX6_choice 1 = .ok (.ifCond .lt 12, 3) := by decide +kernel
theorem dX6_choice_4 : decode cX6_choice 4 = .ok (.iload_n 0, 1) := by decide +kernel
theorem dX6_choice_5 : decode cX6_choice 5 = .ok (.iload_n 1, 1) := by decide +kernel
theorem dX6_choice_6 : decode cX6_choice 6 = .ok (.if_icmp .ge 7, 3) := by decide +kernel
theorem dX6_choice_9 : decode cX6_choice 9 = .ok (.iconst 0, 1) := by decide +kernel
theorem dX6_choice_10 : decode cX6_choice 10 = .ok (.goto 5, 3) := by decide +kernel
theorem dX6_choice_13 : decode cX6_choice 13 = .ok (.bipush (-2), 2) := by decide +kernel
theorem dX6_choice_15 : decode cX6_choice 15 = .ok (.ireturn, 1) := by decide +kernel
theorem dX6_range_0 : decode cX6_range 0 = .ok (.iload_n 0, 1) := by decide +kernel
theorem dX6_range_1 : decode cX6_range 1 = .ok (.iload_n 1, 1) := by decide +kernel
theorem dX6_range_2 : decode cX6_range 2 = .ok (.if_icmp .ge 6, 3) := by decide +kernel
theorem dX6_range_5 : decode cX6_range 5 = .ok (.bipush (-4), 2) := by decide +kernel
theorem dX6_range_7 : decode cX6_range 7 = .ok (.ireturn, 1) := by decide +kernel
theorem dX6_range_8 : decode cX6_range 8 = .ok (.iload_n 0, 1) := by decide +kernel
theorem dX6_range_9 : decode cX6_range 9 = .ok (.iload_n 2, 1) := by decide +kernel
theorem dX6_range_10 : decode cX6_range 10 = .ok (.if_icmp .le 8, 3) := by decide +kernel
theorem dX6_range_13 : decode cX6_range 13 = .ok (.bipush (-6), 2) := by decide +kernel
theorem dX6_range_15 : decode cX6_range 15 = .ok (.goto 4, 3) := by decide +kernel
theorem dX6_range_18 : decode cX6_range 18 = .ok (.iconst 0, 1) := by decide +kernel
theorem dX6_range_19 : decode cX6_range 19 = .ok (.ireturn, 1) := by decide +kernel
theorem dX6_bothRanges_0 : decode cX6_bothRanges 0 = .ok (.iload_n 0, 1) := by decide +kernel
theorem dX6_bothRanges_1 : decode cX6_bothRanges 1 = .ok (.iconst 1, 1) := by decide +kernel
theorem dX6_bothRanges_2 : decode cX6_bothRanges 2 = .ok (.if_icmp .lt 8, 3) := by decide +kernel
theorem dX6_bothRanges_5 : decode cX6_bothRanges 5 = .ok (.iload_n 2, 1) := by decide +kernel
theorem dX6_bothRanges_6 : decode cX6_bothRanges 6 = .ok (.iconst 1, 1) := by decide +kernel
theorem dX6_bothRanges_7 : decode cX6_bothRanges 7 = .ok (.if_icmp .ge 6, 3) := by decide +kernel
theorem dX6_bothRanges_10 : decode cX6_bothRanges 10 = .ok (.bipush (-4), 2) := by decide +kernel
theorem dX6_bothRanges_12 : decode cX6_bothRanges 12 = .ok (.ireturn, 1) := by decide +kernel
theorem dX6_bothRanges_13 : decode cX6_bothRanges 13 = .ok (.iload_n 0, 1) := by decide +kernel
theorem dX6_bothRanges_14 : decode cX6_bothRanges 14 = .ok (.iload_n 1, 1) := by decide +kernel
theorem dX6_bothRanges_15 : decode cX6_bothRanges 15 = .ok (.if_icmp .gt 8, 3) := by decide +kernel
theorem dX6_bothRanges_18 : decode cX6_bothRanges 18 = .ok (.iload_n 2, 1) := by decide +kernel
theorem dX6_bothRanges_19 : decode cX6_bothRanges 19 = .ok (.iload_n 3, 1) := by decide +kernel
theorem dX6_bothRanges_20 : decode cX6_bothRanges 20 = .ok (.if_icmp .le 8, 3) := by decide +kernel
theorem dX6_bothRanges_23 : decode cX6_bothRanges 23 = .ok (.bipush (-6), 2) := by decide +kernel
theorem dX6_bothRanges_25 : decode cX6_bothRanges 25 = .ok (.goto 4, 3) := by decide +kernel
theorem dX6_bothRanges_28 : decode cX6_bothRanges 28 = .ok (.iconst 0, 1) := by decide +kernel
theorem dX6_bothRanges_29 : decode cX6_bothRanges 29 = .ok (.ireturn, 1) := by decide +kernel
theorem dX6_first_0 : decode cX6_first 0 = .ok (.iload_n 0, 1) := by decide +kernel
theorem dX6_first_1 : decode cX6_first 1 = .ok (.ifCond .eq 7, 3) := by decide +kernel
theorem dX6_first_4 : decode cX6_first 4 = .ok (.iload_n 0, 1) := by decide +kernel
theorem dX6_first_5 : decode cX6_first 5 = .ok (.goto 4, 3) := by decide +kernel
theorem dX6_first_8 : decode cX6_first 8 = .ok (.iload_n 1, 1) := by decide +kernel
theorem dX6_first_9 : decode cX6_first 9 = .ok (.ireturn, 1) := by decide +kernel
theorem dX6_refused_0 : decode cX6_refused 0 = .ok (.iload_n 1, 1) := by decide +kernel
theorem dX6_refused_1 : decode cX6_refused 1 = .ok (.ifCond .ge 20, 3) := by decide +kernel
theorem dX6_refused_4 : decode cX6_refused 4 = .ok (.iload_n 1, 1) := by decide +kernel
theorem dX6_refused_5 : decode cX6_refused 5 = .ok (.bipush (-6), 2) := by decide +kernel
theorem dX6_refused_7 : decode cX6_refused 7 = .ok (.if_icmp .lt 14, 3) := by decide +kernel
theorem dX6_refused_10 : decode cX6_refused 10 = .ok (.aload_n 0, 1) := by decide +kernel
theorem dX6_refused_11 : decode cX6_refused 11 = .ok (.getfield 54, 3) := by decide +kernel
theorem dX6_refused_14 : decode cX6_refused 14 = .ok (.iload_n 1, 1) := by decide +kernel
theorem dX6_refused_15 : decode cX6_refused 15 = .ok (.ineg, 1) := by decide +kernel
theorem dX6_refused_16 : decode cX6_refused 16 = .ok (.dup2, 1) := by decide +kernel
theorem dX6_refused_17 : decode cX6_refused 17 = .ok (.iaload, 1) := by decide +kernel
theorem dX6_refused_18 : decode cX6_refused 18 = .ok (.iconst 1, 1) := by decide +kernel
theorem dX6_refused_19 : decode cX6_refused 19 = .ok (.iadd, 1) := by decide +kernel
theorem dX6_refused_20 : decode cX6_refused 20 = .ok (.iastore, 1) := by decide +kernel
theorem dX6_refused_21 : decode cX6_refused 21 = .ok (.iload_n 1, 1) := by decide +kernel
theorem dX6_refused_22 : decode cX6_refused 22 = .ok (.ireturn, 1) := by decide +kernel
theorem dX6_power_0 : decode cX6_power 0 = .ok (.lconst 1, 1) := by decide +kernel
theorem dX6_power_1 : decode cX6_power 1 = .ok (.lstore_n 2, 1) := by decide +kernel
theorem dX6_power_2 : decode cX6_power 2 = .ok (.iconst 0, 1) := by decide +kernel
theorem dX6_power_3 : decode cX6_power 3 = .ok (.istore 4, 2) := by decide +kernel
theorem dX6_power_5 : decode cX6_power 5 = .ok (.iload 4, 2) := by decide +kernel
theorem dX6_power_7 : decode cX6_power 7 = .ok (.iload_n 1, 1) := by decide +kernel
theorem dX6_power_8 : decode cX6_power 8 = .ok (.if_icmp .ge 14, 3) := by decide +kernel
theorem dX6_power_11 : decode cX6_power 11 = .ok (.lload_n 2, 1) := by decide +kernel
theorem dX6_power_12 : decode cX6_power 12 = .ok (.iload_n 0, 1) := by decide +kernel
theorem dX6_power_13 : decode cX6_power 13 = .ok (.i2l, 1) := by decide +kernel
theorem dX6_power_14 : decode cX6_power 14 = .ok (.lmul, 1) := by decide +kernel
theorem dX6_power_15 : decode cX6_power 15 = .ok (.lstore_n 2, 1) := by decide +kernel
theorem dX6_power_16 : decode cX6_power 16 = .ok (.iinc 4 1, 3) := by decide +kernel
theorem dX6_power_19 : decode cX6_power 19 = .ok (.goto (-14), 3) := by decide +kernel
theorem dX6_power_22 : decode cX6_power 22 = .ok (.lload_n 2, 1) := by decide +kernel
theorem dX6_power_23 : decode cX6_power 23 = .ok (.lreturn, 1) := by decide +kernel
set_option maxRecDepth 20000 in
theorem ggX6_partOf_X6_commonDivisor : GoodIn wsX6_partOf wsX6_commonDivisor := goodIn_r _ [4] (by decide +kernel) (by decide +kernel)
set_option maxRecDepth 20000 in
theorem gX6_partOf_X6_commonDivisor : GoodIn wsX6_partOf (va_wsS RX6 289 yX6_commonDivisor wsX6_commonDivisor) := goodIn_app (goodIn_of _ (by decide +kernel)) ggX6_partOf_X6_commonDivisor
theorem dX6_partOf_0 : decode cX6_partOf 0 = .ok (.lload_n 0, 1) := by decide +kernel
theorem dX6_partOf_1 : decode cX6_partOf 1 = .ok (.lload_n 2, 1) := by decide +kernel
theorem dX6_partOf_2 : decode cX6_partOf 2 = .ok (.invokestatic 289, 3) := by decide +kernel
theorem dX6_partOf_5 : decode cX6_partOf 5 = .ok (.lstore 5, 2) := by decide +kernel
theorem dX6_partOf_7 : decode cX6_partOf 7 = .ok (.lload 5, 2) := by decide +kernel
theorem dX6_partOf_9 : decode cX6_partOf 9 = .ok (.lconst 1, 1) := by decide +kernel
theorem dX6_partOf_10 : decode cX6_partOf 10 = .ok (.lcmp, 1) := by decide +kernel
theorem dX6_partOf_11 : decode cX6_partOf 11 = .ok (.ifCond .ge 5, 3) := by decide +kernel
theorem dX6_partOf_14 : decode cX6_partOf 14 = .ok (.lconst 0, 1) := by decide +kernel
theorem dX6_partOf_15 : decode cX6_partOf 15 = .ok (.lreturn, 1) := by decide +kernel
theorem dX6_partOf_16 : decode cX6_partOf 16 = .ok (.iload 4, 2) := by decide +kernel
theorem dX6_partOf_18 : decode cX6_partOf 18 = .ok (.ifCond .ne 10, 3) := by decide +kernel
theorem dX6_partOf_21 : decode cX6_partOf 21 = .ok (.lload_n 0, 1) := by decide +kernel
theorem dX6_partOf_22 : decode cX6_partOf 22 = .ok (.lload 5, 2) := by decide +kernel
theorem dX6_partOf_24 : decode cX6_partOf 24 = .ok (.ldiv, 1) := by decide +kernel
theorem dX6_partOf_25 : decode cX6_partOf 25 = .ok (.goto 7, 3) := by decide +kernel
theorem dX6_partOf_28 : decode cX6_partOf 28 = .ok (.lload_n 2, 1) := by decide +kernel
theorem dX6_partOf_29 : decode cX6_partOf 29 = .ok (.lload 5, 2) := by decide +kernel
theorem dX6_partOf_31 : decode cX6_partOf 31 = .ok (.ldiv, 1) := by decide +kernel
theorem dX6_partOf_32 : decode cX6_partOf 32 = .ok (.lreturn, 1) := by decide +kernel
theorem dX6_commonDivisor_0 : decode cX6_commonDivisor 0 = .ok (.lload_n 0, 1) := by decide +kernel
theorem dX6_commonDivisor_1 : decode cX6_commonDivisor 1 = .ok (.lstore 4, 2) := by decide +kernel
theorem dX6_commonDivisor_3 : decode cX6_commonDivisor 3 = .ok (.lload_n 2, 1) := by decide +kernel
theorem dX6_commonDivisor_4 : decode cX6_commonDivisor 4 = .ok (.lstore 6, 2) := by decide +kernel
theorem dX6_commonDivisor_6 : decode cX6_commonDivisor 6 = .ok (.iconst 0, 1) := by decide +kernel
theorem dX6_commonDivisor_7 : decode cX6_commonDivisor 7 = .ok (.istore 8, 2) := by decide +kernel
theorem dX6_commonDivisor_9 : decode cX6_commonDivisor 9 = .ok (.iload 8, 2) := by decide +kernel
theorem dX6_commonDivisor_11 : decode cX6_commonDivisor 11 = .ok (.bipush 100, 2) := by decide +kernel
theorem dX6_commonDivisor_13 : decode cX6_commonDivisor 13 = .ok (.if_icmp .ge 31, 3) := by decide +kernel
theorem dX6_commonDivisor_16 : decode cX6_commonDivisor 16 = .ok (.lload 6, 2) := by decide +kernel
theorem dX6_commonDivisor_18 : decode cX6_commonDivisor 18 = .ok (.lconst 0, 1) := by decide +kernel
theorem dX6_commonDivisor_19 : decode cX6_commonDivisor 19 = .ok (.lcmp, 1) := by decide +kernel
theorem dX6_commonDivisor_20 : decode cX6_commonDivisor 20 = .ok (.ifCond .eq 24, 3) := by decide +kernel
theorem dX6_commonDivisor_23 : decode cX6_commonDivisor 23 = .ok (.lload 4, 2) := by decide +kernel
theorem dX6_commonDivisor_25 : decode cX6_commonDivisor 25 = .ok (.lload 6, 2) := by decide +kernel
theorem dX6_commonDivisor_27 : decode cX6_commonDivisor 27 = .ok (.lrem, 1) := by decide +kernel
theorem dX6_commonDivisor_28 : decode cX6_commonDivisor 28 = .ok (.lstore 9, 2) := by decide +kernel
theorem dX6_commonDivisor_30 : decode cX6_commonDivisor 30 = .ok (.lload 6, 2) := by decide +kernel
theorem dX6_commonDivisor_32 : decode cX6_commonDivisor 32 = .ok (.lstore 4, 2) := by decide +kernel
theorem dX6_commonDivisor_34 : decode cX6_commonDivisor 34 = .ok (.lload 9, 2) := by decide +kernel
theorem dX6_commonDivisor_36 : decode cX6_commonDivisor 36 = .ok (.lstore 6, 2) := by decide +kernel
theorem dX6_commonDivisor_38 : decode cX6_commonDivisor 38 = .ok (.iinc 8 1, 3) := by decide +kernel
theorem dX6_commonDivisor_41 : decode cX6_commonDivisor 41 = .ok (.goto (-32), 3) := by decide +kernel
theorem dX6_commonDivisor_44 : decode cX6_commonDivisor 44 = .ok (.lload 4, 2) := by decide +kernel
theorem dX6_commonDivisor_46 : decode cX6_commonDivisor 46 = .ok (.lreturn, 1) := by decide +kernel
theorem dX6_leastBit_0 : decode cX6_leastBit 0 = .ok (.iconst 0, 1) := by decide +kernel
theorem dX6_leastBit_1 : decode cX6_leastBit 1 = .ok (.istore_n 1, 1) := by decide +kernel
theorem dX6_leastBit_2 : decode cX6_leastBit 2 = .ok (.iload_n 1, 1) := by decide +kernel
theorem dX6_leastBit_3 : decode cX6_leastBit 3 = .ok (.bipush 8, 2) := by decide +kernel
theorem dX6_leastBit_5 : decode cX6_leastBit 5 = .ok (.if_icmp .ge 19, 3) := by decide +kernel
theorem dX6_leastBit_8 : decode cX6_leastBit 8 = .ok (.iload_n 0, 1) := by decide +kernel
theorem dX6_leastBit_9 : decode cX6_leastBit 9 = .ok (.iload_n 1, 1) := by decide +kernel
theorem dX6_leastBit_10 : decode cX6_leastBit 10 = .ok (.ishr, 1) := by decide +kernel
theorem dX6_leastBit_11 : decode cX6_leastBit 11 = .ok (.iconst 1, 1) := by decide +kernel
theorem dX6_leastBit_12 : decode cX6_leastBit 12 = .ok (.iand, 1) := by decide +kernel
theorem dX6_leastBit_13 : decode cX6_leastBit 13 = .ok (.ifCond .eq 5, 3) := by decide +kernel
theorem dX6_leastBit_16 : decode cX6_leastBit 16 = .ok (.iload_n 1, 1) := by decide +kernel
theorem dX6_leastBit_17 : decode cX6_leastBit 17 = .ok (.ireturn, 1) := by decide +kernel
theorem dX6_leastBit_18 : decode cX6_leastBit 18 = .ok (.iinc 1 1, 3) := by decide +kernel
theorem dX6_leastBit_21 : decode cX6_leastBit 21 = .ok (.goto (-19), 3) := by decide +kernel
theorem dX6_leastBit_24 : decode cX6_leastBit 24 = .ok (.bipush (-9), 2) := by decide +kernel
theorem dX6_leastBit_26 : decode cX6_leastBit 26 = .ok (.ireturn, 1) := by decide +kernel
theorem dX7_init_0 : decode cX7_init 0 = .ok (.aload_n 0, 1) := by decide +kernel
theorem dX7_init_1 : decode cX7_init 1 = .ok (.invokespecial 1, 3) := by decide +kernel
theorem dX7_init_4 : decode cX7_init 4 = .ok (.aload_n 0, 1) := by decide +kernel
theorem dX7_init_5 : decode cX7_init 5 = .ok (.bipush 7, 2) := by decide +kernel
theorem dX7_init_7 : decode cX7_init 7 = .ok (.newarray .int, 2) := by decide +kernel
theorem dX7_init_9 : decode cX7_init 9 = .ok (.putfield 7, 3) := by decide +kernel
theorem dX7_init_12 : decode cX7_init 12 = .ok (.aload_n 0, 1) := by decide +kernel
theorem dX7_init_13 : decode cX7_init 13 = .ok (.bipush 6, 2) := by decide +kernel
theorem dX7_init_15 : decode cX7_init 15 = .ok (.newarray .int, 2) := by decide +kernel
theorem dX7_init_17 : decode cX7_init 17 = .ok (.putfield 13, 3) := by decide +kernel
theorem dX7_init_20 : decode cX7_init 20 = .ok (.aload_n 0, 1) := by decide +kernel
theorem dX7_init_21 : decode cX7_init 21 = .ok (.bipush 6, 2) := by decide +kernel
theorem dX7_init_23 : decode cX7_init 23 = .ok (.newarray .int, 2) := by decide +kernel
theorem dX7_init_25 : decode cX7_init 25 = .ok (.putfield 16, 3) := by decide +kernel
theorem dX7_init_28 : decode cX7_init 28 = .ok (.aload_n 0, 1) := by decide +kernel
theorem dX7_init_29 : decode cX7_init 29 = .ok (.bipush 8, 2) := by decide +kernel
theorem dX7_init_31 : decode cX7_init 31 = .ok (.newarray .int, 2) := by decide +kernel
theorem dX7_init_33 : decode cX7_init 33 = .ok (.putfield 19, 3) := by decide +kernel
theorem dX7_init_36 : decode cX7_init 36 = .ok (.aload_n 0, 1) := by decide +kernel
theorem dX7_init_37 : decode cX7_init 37 = .ok (.bipush 8, 2) := by decide +kernel
theorem dX7_init_39 : decode cX7_init 39 = .ok (.newarray .int, 2) := by decide +kernel
theorem dX7_init_41 : decode cX7_init 41 = .ok (.putfield 22, 3) := by decide +kernel
theorem dX7_init_44 : decode cX7_init 44 = .ok (.aload_n 0, 1) := by decide +kernel
theorem dX7_init_45 : decode cX7_init 45 = .ok (.bipush 8, 2) := by decide +kernel
theorem dX7_init_47 : decode cX7_init 47 = .ok (.newarray .int, 2) := by decide +kernel
theorem dX7_init_49 : decode cX7_init 49 = .ok (.putfield 25, 3) := by decide +kernel
theorem dX7_init_52 : decode cX7_init 52 = .ok (.aload_n 0, 1) := by decide +kernel
theorem dX7_init_53 : decode cX7_init 53 = .ok (.bipush 8, 2) := by decide +kernel
theorem dX7_init_55 : decode cX7_init 55 = .ok (.newarray .int, 2) := by decide +kernel
theorem dX7_init_57 : decode cX7_init 57 = .ok (.putfield 28, 3) := by decide +kernel
theorem dX7_init_60 : decode cX7_init 60 = .ok (.aload_n 0, 1) := by decide +kernel
theorem dX7_init_61 : decode cX7_init 61 = .ok (.bipush (-9), 2) := by decide +kernel
theorem dX7_init_63 : decode cX7_init 63 = .ok (.putfield 31, 3) := by decide +kernel
theorem dX7_init_66 : decode cX7_init 66 = .ok (.aload_n 0, 1) := by decide +kernel
theorem dX7_init_67 : decode cX7_init 67 = .ok (.bipush 96, 2) := by decide +kernel
theorem dX7_init_69 : decode cX7_init 69 = .ok (.newarray .int, 2) := by decide +kernel
theorem dX7_init_71 : decode cX7_init 71 = .ok (.putfield 35, 3) := by decide +kernel
theorem dX7_init_74 : decode cX7_init 74 = .ok (.aload_n 0, 1) := by decide +kernel
theorem dX7_init_75 : decode cX7_init 75 = .ok (.bipush 48, 2) := by decide +kernel
theorem dX7_init_77 : decode cX7_init 77 = .ok (.newarray .int, 2) := by decide +kernel
theorem dX7_init_79 : decode cX7_init 79 = .ok (.putfield 38, 3) := by decide +kernel
theorem dX7_init_82 : decode cX7_init 82 = .ok (.aload_n 0, 1) := by decide +kernel
theorem dX7_init_83 : decode cX7_init 83 = .ok (.bipush 48, 2) := by decide +kernel
theorem dX7_init_85 : decode cX7_init 85 = .ok (.newarray .int, 2) := by decide +kernel
theorem dX7_init_87 : decode cX7_init 87 = .ok (.putfield 41, 3) := by decide +kernel
theorem dX7_init_90 : decode cX7_init 90 = .ok (.aload_n 0, 1) := by decide +kernel
theorem dX7_init_91 : decode cX7_init 91 = .ok (.sipush 144, 3) := by decide +kernel
theorem dX7_init_94 : decode cX7_init 94 = .ok (.newarray .int, 2) := by decide +kernel
theorem dX7_init_96 : decode cX7_init 96 = .ok (.putfield 44, 3) := by decide +kernel
theorem dX7_init_99 : decode cX7_init 99 = .ok (.aload_n 0, 1) := by decide +kernel
theorem dX7_init_100 : decode cX7_init 100 = .ok (.sipush 144, 3) := by decide +kernel
theorem dX7_init_103 : decode cX7_init 103 = .ok (.newarray .int, 2) := by decide +kernel
theorem dX7_init_105 : decode cX7_init 105 = .ok (.putfield 47, 3) := by decide +kernel
theorem dX7_init_108 : decode cX7_init 108 = .ok (.aload_n 0, 1) := by decide +kernel
theorem dX7_init_109 : decode cX7_init 109 = .ok (.iconst 4, 1) := by decide +kernel
theorem dX7_init_110 : decode cX7_init 110 = .ok (.newarray .int, 2) := by decide +kernel
theorem dX7_init_112 : decode cX7_init 112 = .ok (.putfield 50, 3) := by decide +kernel
theorem dX7_init_115 : decode cX7_init 115 = .ok (.aload_n 0, 1) := by decide +kernel
theorem dX7_init_116 : decode cX7_init 116 = .ok (.bipush 16, 2) := by decide +kernel
theorem dX7_init_118 : decode cX7_init 118 = .ok (.newarray .int, 2) := by decide +kernel
theorem dX7_init_120 : decode cX7_init 120 = .ok (.putfield 53, 3) := by decide +kernel
theorem dX7_init_123 : decode cX7_init 123 = .ok (.aload_n 0, 1) := by decide +kernel
theorem dX7_init_124 : decode cX7_init 124 = .ok (.bipush 8, 2) := by decide +kernel
theorem dX7_init_126 : decode cX7_init 126 = .ok (.putfield 56, 3) := by decide +kernel
theorem dX7_init_129 : decode cX7_init 129 = .ok (.return_, 1) := by decide +kernel
theorem dX7_no_0 : decode cX7_no 0 = .ok (.aload_n 0, 1) := by decide +kernel
theorem dX7_no_1 : decode cX7_no 1 = .ok (.getfield 7, 3) := by decide +kernel
theorem dX7_no_4 : decode cX7_no 4 = .ok (.iload_n 1, 1) := by decide +kernel
theorem dX7_no_5 : decode cX7_no 5 = .ok (.ineg, 1) := by decide +kernel
theorem dX7_no_6 : decode cX7_no 6 = .ok (.dup2, 1) := by decide +kernel
theorem dX7_no_7 : decode cX7_no 7 = .ok (.iaload, 1) := by decide +kernel
theorem dX7_no_8 : decode cX7_no 8 = .ok (.iconst 1, 1) := by decide +kernel
theorem dX7_no_9 : decode cX7_no 9 = .ok (.iadd, 1) := by decide +kernel
theorem dX7_no_10 : decode cX7_no 10 = .ok (.iastore, 1) := by decide +kernel
theorem dX7_no_11 : decode cX7_no 11 = .ok (.iload_n 1, 1) := by decide +kernel
theorem dX7_no_12 : decode cX7_no 12 = .ok (.ireturn, 1) := by decide +kernel
theorem dX7_lower_0 : decode cX7_lower 0 = .ok (.aload_n 0, 1) := by decide +kernel
theorem dX7_lower_1 : decode cX7_lower 1 = .ok (.getfield 7, 3) := by decide +kernel
theorem dX7_lower_4 : decode cX7_lower 4 = .ok (.iload_n 1, 1) := by decide +kernel
theorem dX7_lower_5 : decode cX7_lower 5 = .ok (.ineg, 1) := by decide +kernel
theorem dX7_lower_6 : decode cX7_lower 6 = .ok (.dup2, 1) := by decide +kernel
theorem dX7_lower_7 : decode cX7_lower 7 = .ok (.iaload, 1) := by decide +kernel
theorem dX7_lower_8 : decode cX7_lower 8 = .ok (.iconst 1, 1) := by decide +kernel
theorem dX7_lower_9 : decode cX7_lower 9 = .ok (.iadd, 1) := by decide +kernel
theorem dX7_lower_10 : decode cX7_lower 10 = .ok (.iastore, 1) := by decide +kernel
theorem dX7_lower_11 : decode cX7_lower 11 = .ok (.ldc 59, 2) := by decide +kernel
theorem dX7_lower_13 : decode cX7_lower 13 = .ok (.iload_n 1, 1) := by decide +kernel
theorem dX7_lower_14 : decode cX7_lower 14 = .ok (.isub, 1) := by decide +kernel
theorem dX7_lower_15 : decode cX7_lower 15 = .ok (.ireturn, 1) := by decide +kernel
theorem dX7_lowest_0 : decode cX7_lowest 0 = .ok (.aload_n 0, 1) := by decide +kernel
theorem dX7_lowest_1 : decode cX7_lowest 1 = .ok (.getfield 7, 3) := by decide +kernel
theorem dX7_lowest_4 : decode cX7_lowest 4 = .ok (.iload_n 1, 1) := by decide +kernel
theorem dX7_lowest_5 : decode cX7_lowest 5 = .ok (.ineg, 1) := by decide +kernel
theorem dX7_lowest_6 : decode cX7_lowest 6 = .ok (.dup2, 1) := by decide +kernel
theorem dX7_lowest_7 : decode cX7_lowest 7 = .ok (.iaload, 1) := by decide +kernel
theorem dX7_lowest_8 : decode cX7_lowest 8 = .ok (.iconst 1, 1) := by decide +kernel
theorem dX7_lowest_9 : decode cX7_lowest 9 = .ok (.iadd, 1) := by decide +kernel
theorem dX7_lowest_10 : decode cX7_lowest 10 = .ok (.iastore, 1) := by decide +kernel
theorem dX7_lowest_11 : decode cX7_lowest 11 = .ok (.ldc2_w 60, 3) := by decide +kernel
theorem dX7_lowest_14 : decode cX7_lowest 14 = .ok (.iload_n 1, 1) := by decide +kernel
theorem dX7_lowest_15 : decode cX7_lowest 15 = .ok (.i2l, 1) := by decide +kernel
theorem dX7_lowest_16 : decode cX7_lowest 16 = .ok (.lsub, 1) := by decide +kernel
theorem dX7_lowest_17 : decode cX7_lowest 17 = .ok (.lreturn, 1) := by decide +kernel
theorem dX7_isIn_0 : decode cX7_isIn 0 = .ok (.iload_n 0, 1) := by decide +kernel
theorem dX7_isIn_1 : decode cX7_isIn 1 = .ok (.iload_n 1, 1) := by decide +kernel
theorem dX7_isIn_2 : decode cX7_isIn 2 = .ok (.if_icmp .lt 12, 3) := by decide +kernel
theorem dX7_isIn_5 : decode cX7_isIn 5 = .ok (.iload_n 0, 1) := by decide +kernel
theorem dX7_isIn_6 : decode cX7_isIn 6 = .ok (.iload_n 2, 1) := by decide +kernel
theorem dX7_isIn_7 : decode cX7_isIn 7 = .ok (.if_icmp .gt 7, 3) := by decide +kernel
theorem dX7_isIn_10 : decode cX7_isIn 10 = .ok (.iconst 1, 1) := by decide +kernel
theorem dX7_isIn_11 : decode cX7_isIn 11 = .ok (.goto 4, 3) := by decide +kernel
theorem dX7_isIn_14 : decode cX7_isIn 14 = .ok (.iconst 0, 1) := by decide +kernel
theorem dX7_isIn_15 : decode cX7_isIn 15 = .ok (.ireturn, 1) := by decide +kernel
theorem dX7_bound_0 : decode cX7_bound 0 = .ok (.iload_n 0, 1) := by decide +kernel
theorem dX7_bound_1 : decode cX7_bound 1 = .ok (.iload_n 1, 1) := by decide +kernel
theorem dX7_bound_2 : decode cX7_bound 2 = .ok (.if_icmp .ge 8, 3) := by decide +kernel
theorem dX7_bound_5 : decode cX7_bound 5 = .ok (.bipush (-4), 2) := by decide +kernel
theorem dX7_bound_7 : decode cX7_bound 7 = .ok (.goto 14, 3) := by decide +kernel
theorem dX7_bound_10 : decode cX7_bound 10 = .ok (.iload_n 0, 1) := by decide +kernel
theorem dX7_bound_11 : decode cX7_bound 11 = .ok (.iload_n 2, 1) := by decide +kernel
theorem dX7_bound_12 : decode cX7_bound 12 = .ok (.if_icmp .le 8, 3) := by decide +kernel
theorem dX7_bound_15 : decode cX7_bound 15 = .ok (.bipush (-6), 2) := by decide +kernel
theorem dX7_bound_17 : decode cX7_bound 17 = .ok (.goto 4, 3) := by decide +kernel
theorem dX7_bound_20 : decode cX7_bound 20 = .ok (.iconst 0, 1) := by decide +kernel
theorem dX7_bound_21 : decode cX7_bound 21 = .ok (.ireturn, 1) := by decide +kernel
theorem dX7_held_0 : decode cX7_held 0 = .ok (.iload_n 0, 1) := by decide +kernel
theorem dX7_held_1 : decode cX7_held 1 = .ok (.iload_n 1, 1) := by decide +kernel
theorem dX7_held_2 : decode cX7_held 2 = .ok (.if_icmp .ge 7, 3) := by decide +kernel
theorem dX7_held_5 : decode cX7_held 5 = .ok (.iload_n 1, 1) := by decide +kernel
theorem dX7_held_6 : decode cX7_held 6 = .ok (.goto 13, 3) := by decide +kernel
theorem dX7_held_9 : decode cX7_held 9 = .ok (.iload_n 0, 1) := by decide +kernel
theorem dX7_held_10 : decode cX7_held 10 = .ok (.iload_n 2, 1) := by decide +kernel
theorem dX7_held_11 : decode cX7_held 11 = .ok (.if_icmp .le 7, 3) := by decide +kernel
theorem dX7_held_14 : decode cX7_held 14 = .ok (.iload_n 2, 1) := by decide +kernel
theorem dX7_held_15 : decode cX7_held 15 = .ok (.goto 4, 3) := by decide +kernel
theorem dX7_held_18 : decode cX7_held 18 = .ok (.iload_n 0, 1) := by decide +kernel
theorem dX7_held_19 : decode cX7_held 19 = .ok (.ireturn, 1) := by decide +kernel
theorem dX7_has_0 : decode cX7_has 0 = .ok (.iload_n 0, 1) := by decide +kernel
theorem dX7_has_1 : decode cX7_has 1 = .ok (.iload_n 1, 1) := by decide +kernel
theorem dX7_has_2 : decode cX7_has 2 = .ok (.ishr, 1) := by decide +kernel
theorem dX7_has_3 : decode cX7_has 3 = .ok (.iconst 1, 1) := by decide +kernel
theorem dX7_has_4 : decode cX7_has 4 = .ok (.iand, 1) := by decide +kernel
theorem dX7_has_5 : decode cX7_has 5 = .ok (.iconst 1, 1) := by decide +kernel
theorem dX7_has_6 : decode cX7_has 6 = .ok (.if_icmp .ne 7, 3) := by decide +kernel
theorem dX7_has_9 : decode cX7_has 9 = .ok (.iconst 1, 1) := by decide +kernel
theorem dX7_has_10 : decode cX7_has 10 = .ok (.goto 4, 3) := by decide +kernel
theorem dX7_has_13 : decode cX7_has 13 = .ok (.iconst 0, 1) := by decide +kernel
theorem dX7_has_14 : decode cX7_has 14 = .ok (.ireturn, 1) := by decide +kernel
theorem dX7_bits_0 : decode cX7_bits 0 = .ok (.iconst 0, 1) := by decide +kernel
theorem dX7_bits_1 : decode cX7_bits 1 = .ok (.istore_n 1, 1) := by decide +kernel
theorem dX7_bits_2 : decode cX7_bits 2 = .ok (.iconst 0, 1) := by decide +kernel
theorem dX7_bits_3 : decode cX7_bits 3 = .ok (.istore_n 2, 1) := by decide +kernel
theorem dX7_bits_4 : decode cX7_bits 4 = .ok (.iload_n 2, 1) := by decide +kernel
theorem dX7_bits_5 : decode cX7_bits 5 = .ok (.bipush 31, 2) := by decide +kernel
theorem dX7_bits_7 : decode cX7_bits 7 = .ok (.if_icmp .ge 17, 3) := by decide +kernel
theorem dX7_bits_10 : decode cX7_bits 10 = .ok (.iload_n 1, 1) := by decide +kernel
theorem dX7_bits_11 : decode cX7_bits 11 = .ok (.iload_n 0, 1) := by decide +kernel
theorem dX7_bits_12 : decode cX7_bits 12 = .ok (.iload_n 2, 1) := by decide +kernel
theorem dX7_bits_13 : decode cX7_bits 13 = .ok (.ishr, 1) := by decide +kernel
theorem dX7_bits_14 : decode cX7_bits 14 = .ok (.iconst 1, 1) := by decide +kernel
theorem dX7_bits_15 : decode cX7_bits 15 = .ok (.iand, 1) := by decide +kernel
theorem dX7_bits_16 : decode cX7_bits 16 = .ok (.iadd, 1) := by decide +kernel
theorem dX7_bits_17 : decode cX7_bits 17 = .ok (.istore_n 1, 1) := by decide +kernel
theorem dX7_bits_18 : decode cX7_bits 18 = .ok (.iinc 2 1, 3) := by decide +kernel
theorem dX7_bits_21 : decode cX7_bits 21 = .ok (.goto (-17), 3) := by decide +kernel
theorem dX7_bits_24 : decode cX7_bits 24 = .ok (.iload_n 1, 1) := by decide +kernel
theorem dX7_bits_25 : decode cX7_bits 25 = .ok (.ireturn, 1) := by decide +kernel
theorem dX7_isBell_0 : decode cX7_isBell 0 = .ok (.iload_n 1, 1) := by decide +kernel
theorem dX7_isBell_1 : decode cX7_isBell 1 = .ok (.ifCond .lt 15, 3) := by decide +kernel
theorem dX7_isBell_4 : decode cX7_isBell 4 = .ok (.iload_n 1, 1) := by decide +kernel
theorem dX7_isBell_5 : decode cX7_isBell 5 = .ok (.aload_n 0, 1) := by decide +kernel
theorem dX7_isBell_6 : decode cX7_isBell 6 = .ok (.getfield 62, 3) := by decide +kernel
theorem dX7_isBell_9 : decode cX7_isBell 9 = .ok (.if_icmp .ge 7, 3) := by decide +kernel
theorem dX7_isBell_12 : decode cX7_isBell 12 = .ok (.iconst 1, 1) := by decide +kernel
theorem dX7_isBell_13 : decode cX7_isBell 13 = .ok (.goto 4, 3) := by decide +kernel
theorem dX7_isBell_16 : decode cX7_isBell 16 = .ok (.iconst 0, 1) := by decide +kernel
theorem dX7_isBell_17 : decode cX7_isBell 17 = .ok (.ireturn, 1) := by decide +kernel
theorem dX7_isOne_0 : decode cX7_isOne 0 = .ok (.iload_n 1, 1) := by decide +kernel
theorem dX7_isOne_1 : decode cX7_isOne 1 = .ok (.ifCond .lt 15, 3) := by decide +kernel
theorem dX7_isOne_4 : decode cX7_isOne 4 = .ok (.iload_n 1, 1) := by decide +kernel
theorem dX7_isOne_5 : decode cX7_isOne 5 = .ok (.aload_n 0, 1) := by decide +kernel
theorem dX7_isOne_6 : decode cX7_isOne 6 = .ok (.getfield 65, 3) := by decide +kernel
theorem dX7_isOne_9 : decode cX7_isOne 9 = .ok (.if_icmp .ge 7, 3) := by decide +kernel
theorem dX7_isOne_12 : decode cX7_isOne 12 = .ok (.iconst 1, 1) := by decide +kernel
theorem dX7_isOne_13 : decode cX7_isOne 13 = .ok (.goto 4, 3) := by decide +kernel
theorem dX7_isOne_16 : decode cX7_isOne 16 = .ok (.iconst 0, 1) := by decide +kernel
theorem dX7_isOne_17 : decode cX7_isOne 17 = .ok (.ireturn, 1) := by decide +kernel
set_option maxRecDepth 20000 in
theorem ggX7_letter_X7_bound : GoodIn wsX7_letter wsX7_bound := goodIn_r _ [6] (by decide +kernel) (by decide +kernel)
set_option maxRecDepth 20000 in
theorem gX7_letter_X7_bound : GoodIn wsX7_letter (va_wsS RX7 68 yX7_bound wsX7_bound) := goodIn_app (goodIn_of _ (by decide +kernel)) ggX7_letter_X7_bound
set_option maxRecDepth 20000 in
theorem ggX7_letter_X7_no : GoodIn wsX7_letter wsX7_no := goodIn_r _ [10, 11, 12, 13, 14, 15, 16, 17, 18, 19, 20, 21, 22, 23, 24, 25, 26, 27, 28, 29, 30, 31, 32, 33, 34, 35, 36, 37] (by decide +kernel) (by decide +kernel)
set_option maxRecDepth 20000 in
theorem gX7_letter_X7_no : GoodIn wsX7_letter (wsV RX7 75 RX7 yX7_no wsX7_no) := goodIn_app (goodIn_of _ (by decide +kernel)) ggX7_letter_X7_no
theorem dX7_letter_0 : decode cX7_letter 0 = .ok (.iload_n 1, 1) := by decide +kernel
theorem dX7_letter_1 : decode cX7_letter 1 = .ok (.iconst 0, 1) := by decide +kernel
theorem dX7_letter_2 : decode cX7_letter 2 = .ok (.sipush 255, 3) := by decide +kernel
theorem dX7_letter_5 : decode cX7_letter 5 = .ok (.invokestatic 68, 3) := by decide +kernel
theorem dX7_letter_8 : decode cX7_letter 8 = .ok (.istore_n 2, 1) := by decide +kernel
theorem dX7_letter_9 : decode cX7_letter 9 = .ok (.iload_n 2, 1) := by decide +kernel
theorem dX7_letter_10 : decode cX7_letter 10 = .ok (.ifCond .ne 15, 3) := by decide +kernel
theorem dX7_letter_13 : decode cX7_letter 13 = .ok (.aload_n 0, 1) := by decide +kernel
theorem dX7_letter_14 : decode cX7_letter 14 = .ok (.getfield 72, 3) := by decide +kernel
theorem dX7_letter_17 : decode cX7_letter 17 = .ok (.bipush 96, 2) := by decide +kernel
theorem dX7_letter_19 : decode cX7_letter 19 = .ok (.if_icmp .ne 6, 3) := by decide +kernel
theorem dX7_letter_22 : decode cX7_letter 22 = .ok (.bipush (-6), 2) := by decide +kernel
theorem dX7_letter_24 : decode cX7_letter 24 = .ok (.istore_n 2, 1) := by decide +kernel
theorem dX7_letter_25 : decode cX7_letter 25 = .ok (.iload_n 2, 1) := by decide +kernel
theorem dX7_letter_26 : decode cX7_letter 26 = .ok (.ifCond .eq 9, 3) := by decide +kernel
theorem dX7_letter_29 : decode cX7_letter 29 = .ok (.aload_n 0, 1) := by decide +kernel
theorem dX7_letter_30 : decode cX7_letter 30 = .ok (.iload_n 2, 1) := by decide +kernel
theorem dX7_letter_31 : decode cX7_letter 31 = .ok (.invokevirtual 75, 3) := by decide +kernel
theorem dX7_letter_34 : decode cX7_letter 34 = .ok (.ireturn, 1) := by decide +kernel
theorem dX7_letter_35 : decode cX7_letter 35 = .ok (.aload_n 0, 1) := by decide +kernel
theorem dX7_letter_36 : decode cX7_letter 36 = .ok (.getfield 35, 3) := by decide +kernel
theorem dX7_letter_39 : decode cX7_letter 39 = .ok (.aload_n 0, 1) := by decide +kernel
theorem dX7_letter_40 : decode cX7_letter 40 = .ok (.getfield 72, 3) := by decide +kernel
theorem dX7_letter_43 : decode cX7_letter 43 = .ok (.iload_n 1, 1) := by decide +kernel
theorem dX7_letter_44 : decode cX7_letter 44 = .ok (.iastore, 1) := by decide +kernel
theorem dX7_letter_45 : decode cX7_letter 45 = .ok (.aload_n 0, 1) := by decide +kernel
theorem dX7_letter_46 : decode cX7_letter 46 = .ok (.dup, 1) := by decide +kernel
theorem dX7_letter_47 : decode cX7_letter 47 = .ok (.getfield 72, 3) := by decide +kernel
theorem dX7_letter_50 : decode cX7_letter 50 = .ok (.iconst 1, 1) := by decide +kernel
theorem dX7_letter_51 : decode cX7_letter 51 = .ok (.iadd, 1) := by decide +kernel
theorem dX7_letter_52 : decode cX7_letter 52 = .ok (.putfield 72, 3) := by decide +kernel
theorem dX7_letter_55 : decode cX7_letter 55 = .ok (.aload_n 0, 1) := by decide +kernel
theorem dX7_letter_56 : decode cX7_letter 56 = .ok (.getfield 72, 3) := by decide +kernel
theorem dX7_letter_59 : decode cX7_letter 59 = .ok (.ireturn, 1) := by decide +kernel
theorem dX7_nextLetter_0 : decode cX7_nextLetter 0 = .ok (.aload_n 0, 1) := by decide +kernel
theorem dX7_nextLetter_1 : decode cX7_nextLetter 1 = .ok (.getfield 79, 3) := by decide +kernel
theorem dX7_nextLetter_4 : decode cX7_nextLetter 4 = .ok (.aload_n 0, 1) := by decide +kernel
theorem dX7_nextLetter_5 : decode cX7_nextLetter 5 = .ok (.getfield 72, 3) := by decide +kernel
theorem dX7_nextLetter_8 : decode cX7_nextLetter 8 = .ok (.if_icmp .ge 15, 3) := by decide +kernel
theorem dX7_nextLetter_11 : decode cX7_nextLetter 11 = .ok (.aload_n 0, 1) := by decide +kernel
theorem dX7_nextLetter_12 : decode cX7_nextLetter 12 = .ok (.getfield 35, 3) := by decide +kernel
theorem dX7_nextLetter_15 : decode cX7_nextLetter 15 = .ok (.aload_n 0, 1) := by decide +kernel
theorem dX7_nextLetter_16 : decode cX7_nextLetter 16 = .ok (.getfield 79, 3) := by decide +kernel
theorem dX7_nextLetter_19 : decode cX7_nextLetter 19 = .ok (.iaload, 1) := by decide +kernel
theorem dX7_nextLetter_20 : decode cX7_nextLetter 20 = .ok (.goto 4, 3) := by decide +kernel
theorem dX7_nextLetter_23 : decode cX7_nextLetter 23 = .ok (.iconst (-1), 1) := by decide +kernel
theorem dX7_nextLetter_24 : decode cX7_nextLetter 24 = .ok (.ireturn, 1) := by decide +kernel
set_option maxRecDepth 20000 in
theorem ggX7_readsDigits_X7_nextLetter : GoodIn wsX7_readsDigits wsX7_nextLetter := goodIn_r _ [7, 1, 8, 9, 13, 14, 15, 16, 17, 18, 19, 20, 21, 22, 23, 24, 25, 26, 27, 28, 29, 30, 31, 32, 33, 34, 35, 36, 37, 38] (by decide +kernel) (by decide +kernel)
set_option maxRecDepth 20000 in
theorem gX7_readsDigits_X7_nextLetter : GoodIn wsX7_readsDigits (wsV RX7 82 RX7 yX7_nextLetter wsX7_nextLetter) := goodIn_app (goodIn_of _ (by decide +kernel)) ggX7_readsDigits_X7_nextLetter
set_option maxRecDepth 20000 in
theorem ggX7_readsDigits_X7_isIn : GoodIn wsX7_readsDigits wsX7_isIn := goodIn_r _ [12] (by decide +kernel) (by decide +kernel)
set_option maxRecDepth 20000 in
theorem gX7_readsDigits_X7_isIn : GoodIn wsX7_readsDigits (va_wsS RX7 86 yX7_isIn wsX7_isIn) := goodIn_app (goodIn_of _ (by decide +kernel)) ggX7_readsDigits_X7_isIn
theorem dX7_readsDigits_0 : decode cX7_readsDigits 0 = .ok (.iconst 0, 1) := by decide +kernel
theorem dX7_readsDigits_1 : decode cX7_readsDigits 1 = .ok (.istore_n 3, 1) := by decide +kernel
theorem dX7_readsDigits_2 : decode cX7_readsDigits 2 = .ok (.iconst 0, 1) := by decide +kernel
theorem dX7_readsDigits_3 : decode cX7_readsDigits 3 = .ok (.istore 4, 2) := by decide +kernel
theorem dX7_readsDigits_5 : decode cX7_readsDigits 5 = .ok (.iload 4, 2) := by decide +kernel
theorem dX7_readsDigits_7 : decode cX7_readsDigits 7 = .ok (.iload_n 2, 1) := by decide +kernel
theorem dX7_readsDigits_8 : decode cX7_readsDigits 8 = .ok (.if_icmp .ge 48, 3) := by decide +kernel
theorem dX7_readsDigits_11 : decode cX7_readsDigits 11 = .ok (.aload_n 0, 1) := by decide +kernel
theorem dX7_readsDigits_12 : decode cX7_readsDigits 12 = .ok (.invokevirtual 82, 3) := by decide +kernel
theorem dX7_readsDigits_15 : decode cX7_readsDigits 15 = .ok (.bipush 48, 2) := by decide +kernel
theorem dX7_readsDigits_17 : decode cX7_readsDigits 17 = .ok (.bipush 57, 2) := by decide +kernel
theorem dX7_readsDigits_19 : decode cX7_readsDigits 19 = .ok (.invokestatic 86, 3) := by decide +kernel
theorem dX7_readsDigits_22 : decode cX7_readsDigits 22 = .ok (.ifCond .ne 5, 3) := by decide +kernel
theorem dX7_readsDigits_25 : decode cX7_readsDigits 25 = .ok (.iconst 0, 1) := by decide +kernel
theorem dX7_readsDigits_26 : decode cX7_readsDigits 26 = .ok (.ireturn, 1) := by decide +kernel
theorem dX7_readsDigits_27 : decode cX7_readsDigits 27 = .ok (.bipush 10, 2) := by decide +kernel
theorem dX7_readsDigits_29 : decode cX7_readsDigits 29 = .ok (.iload_n 3, 1) := by decide +kernel
theorem dX7_readsDigits_30 : decode cX7_readsDigits 30 = .ok (.imul, 1) := by decide +kernel
theorem dX7_readsDigits_31 : decode cX7_readsDigits 31 = .ok (.aload_n 0, 1) := by decide +kernel
theorem dX7_readsDigits_32 : decode cX7_readsDigits 32 = .ok (.invokevirtual 82, 3) := by decide +kernel
theorem dX7_readsDigits_35 : decode cX7_readsDigits 35 = .ok (.iadd, 1) := by decide +kernel
theorem dX7_readsDigits_36 : decode cX7_readsDigits 36 = .ok (.bipush 48, 2) := by decide +kernel
theorem dX7_readsDigits_38 : decode cX7_readsDigits 38 = .ok (.isub, 1) := by decide +kernel
theorem dX7_readsDigits_39 : decode cX7_readsDigits 39 = .ok (.istore_n 3, 1) := by decide +kernel
theorem dX7_readsDigits_40 : decode cX7_readsDigits 40 = .ok (.aload_n 0, 1) := by decide +kernel
theorem dX7_readsDigits_41 : decode cX7_readsDigits 41 = .ok (.dup, 1) := by decide +kernel
theorem dX7_readsDigits_42 : decode cX7_readsDigits 42 = .ok (.getfield 79, 3) := by decide +kernel
theorem dX7_readsDigits_45 : decode cX7_readsDigits 45 = .ok (.iconst 1, 1) := by decide +kernel
theorem dX7_readsDigits_46 : decode cX7_readsDigits 46 = .ok (.iadd, 1) := by decide +kernel
theorem dX7_readsDigits_47 : decode cX7_readsDigits 47 = .ok (.putfield 79, 3) := by decide +kernel
theorem dX7_readsDigits_50 : decode cX7_readsDigits 50 = .ok (.iinc 4 1, 3) := by decide +kernel
theorem dX7_readsDigits_53 : decode cX7_readsDigits 53 = .ok (.goto (-48), 3) := by decide +kernel
theorem dX7_readsDigits_56 : decode cX7_readsDigits 56 = .ok (.aload_n 0, 1) := by decide +kernel
theorem dX7_readsDigits_57 : decode cX7_readsDigits 57 = .ok (.getfield 44, 3) := by decide +kernel
theorem dX7_readsDigits_60 : decode cX7_readsDigits 60 = .ok (.iload_n 1, 1) := by decide +kernel
theorem dX7_readsDigits_61 : decode cX7_readsDigits 61 = .ok (.iload_n 3, 1) := by decide +kernel
theorem dX7_readsDigits_62 : decode cX7_readsDigits 62 = .ok (.iastore, 1) := by decide +kernel
theorem dX7_readsDigits_63 : decode cX7_readsDigits 63 = .ok (.iconst 1, 1) := by decide +kernel
theorem dX7_readsDigits_64 : decode cX7_readsDigits 64 = .ok (.ireturn, 1) := by decide +kernel
theorem dX7_kindOf_0 : decode cX7_kindOf 0 = .ok (.iload_n 0, 1) := by decide +kernel
theorem dX7_kindOf_1 : decode cX7_kindOf 1 = .ok (.bipush 112, 2) := by decide +kernel
theorem dX7_kindOf_3 : decode cX7_kindOf 3 = .ok (.if_icmp .ne 7, 3) := by decide +kernel
theorem dX7_kindOf_6 : decode cX7_kindOf 6 = .ok (.iconst 0, 1) := by decide +kernel
theorem dX7_kindOf_7 : decode cX7_kindOf 7 = .ok (.goto 54, 3) := by decide +kernel
theorem dX7_kindOf_10 : decode cX7_kindOf 10 = .ok (.iload_n 0, 1) := by decide +kernel
theorem dX7_kindOf_11 : decode cX7_kindOf 11 = .ok (.bipush 99, 2) := by decide +kernel
theorem dX7_kindOf_13 : decode cX7_kindOf 13 = .ok (.if_icmp .ne 7, 3) := by decide +kernel
theorem dX7_kindOf_16 : decode cX7_kindOf 16 = .ok (.iconst 1, 1) := by decide +kernel
theorem dX7_kindOf_17 : decode cX7_kindOf 17 = .ok (.goto 44, 3) := by decide +kernel
theorem dX7_kindOf_20 : decode cX7_kindOf 20 = .ok (.iload_n 0, 1) := by decide +kernel
theorem dX7_kindOf_21 : decode cX7_kindOf 21 = .ok (.bipush 119, 2) := by decide +kernel
theorem dX7_kindOf_23 : decode cX7_kindOf 23 = .ok (.if_icmp .ne 7, 3) := by decide +kernel
theorem dX7_kindOf_26 : decode cX7_kindOf 26 = .ok (.iconst 2, 1) := by decide +kernel
theorem dX7_kindOf_27 : decode cX7_kindOf 27 = .ok (.goto 34, 3) := by decide +kernel
theorem dX7_kindOf_30 : decode cX7_kindOf 30 = .ok (.iload_n 0, 1) := by decide +kernel
theorem dX7_kindOf_31 : decode cX7_kindOf 31 = .ok (.bipush 100, 2) := by decide +kernel
theorem dX7_kindOf_33 : decode cX7_kindOf 33 = .ok (.if_icmp .ne 7, 3) := by decide +kernel
theorem dX7_kindOf_36 : decode cX7_kindOf 36 = .ok (.iconst 3, 1) := by decide +kernel
theorem dX7_kindOf_37 : decode cX7_kindOf 37 = .ok (.goto 24, 3) := by decide +kernel
theorem dX7_kindOf_40 : decode cX7_kindOf 40 = .ok (.iload_n 0, 1) := by decide +kernel
theorem dX7_kindOf_41 : decode cX7_kindOf 41 = .ok (.bipush 108, 2) := by decide +kernel
theorem dX7_kindOf_43 : decode cX7_kindOf 43 = .ok (.if_icmp .ne 7, 3) := by decide +kernel
theorem dX7_kindOf_46 : decode cX7_kindOf 46 = .ok (.iconst 4, 1) := by decide +kernel
theorem dX7_kindOf_47 : decode cX7_kindOf 47 = .ok (.goto 14, 3) := by decide +kernel
theorem dX7_kindOf_50 : decode cX7_kindOf 50 = .ok (.iload_n 0, 1) := by decide +kernel
theorem dX7_kindOf_51 : decode cX7_kindOf 51 = .ok (.bipush 111, 2) := by decide +kernel
theorem dX7_kindOf_53 : decode cX7_kindOf 53 = .ok (.if_icmp .ne 7, 3) := by decide +kernel
theorem dX7_kindOf_56 : decode cX7_kindOf 56 = .ok (.iconst 5, 1) := by decide +kernel
theorem dX7_kindOf_57 : decode cX7_kindOf 57 = .ok (.goto 4, 3) := by decide +kernel
theorem dX7_kindOf_60 : decode cX7_kindOf 60 = .ok (.iconst (-1), 1) := by decide +kernel
theorem dX7_kindOf_61 : decode cX7_kindOf 61 = .ok (.ireturn, 1) := by decide +kernel
set_option maxRecDepth 20000 in
theorem ggX7_readsOne_X7_nextLetter : GoodIn wsX7_readsOne wsX7_nextLetter := goodIn_r _ [7, 2, 8, 9, 20, 21, 22, 23, 24, 25, 26, 27, 28, 29, 30, 31, 32, 33, 34, 35, 36, 37, 38, 39, 40, 41, 42, 43, 44, 45] (by decide +kernel) (by decide +kernel)
set_option maxRecDepth 20000 in
theorem gX7_readsOne_X7_nextLetter : GoodIn wsX7_readsOne (wsV RX7 82 RX7 yX7_nextLetter wsX7_nextLetter) := goodIn_app (goodIn_of _ (by decide +kernel)) ggX7_readsOne_X7_nextLetter
set_option maxRecDepth 20000 in
theorem ggX7_readsOne_X7_kindOf : GoodIn wsX7_readsOne wsX7_kindOf := goodIn_r _ [12] (by decide +kernel) (by decide +kernel)
set_option maxRecDepth 20000 in
theorem gX7_readsOne_X7_kindOf : GoodIn wsX7_readsOne (va_wsS RX7 90 yX7_kindOf wsX7_kindOf) := goodIn_app (goodIn_of _ (by decide +kernel)) ggX7_readsOne_X7_kindOf
set_option maxRecDepth 20000 in
theorem ggX7_readsOne_X7_readsDigits : GoodIn wsX7_readsOne wsX7_readsDigits := goodIn_r _ [16, 2, 1, 3, 4, 5, 6, 7, 8, 9, 17, 18, 19, 20, 21, 22, 23, 24, 25, 26, 27, 28, 29, 30, 31, 32, 33, 34, 35, 36, 37, 38, 39, 40, 41, 42, 43, 44, 45] (by decide +kernel) (by decide +kernel)
set_option maxRecDepth 20000 in
theorem gX7_readsOne_X7_readsDigits : GoodIn wsX7_readsOne (wsV RX7 93 RX7 yX7_readsDigits wsX7_readsDigits) := goodIn_app (goodIn_of _ (by decide +kernel)) ggX7_readsOne_X7_readsDigits
theorem dX7_readsOne_0 : decode cX7_readsOne 0 = .ok (.aload_n 0, 1) := by decide +kernel
theorem dX7_readsOne_1 : decode cX7_readsOne 1 = .ok (.getfield 44, 3) := by decide +kernel
theorem dX7_readsOne_4 : decode cX7_readsOne 4 = .ok (.iload_n 1, 1) := by decide +kernel
theorem dX7_readsOne_5 : decode cX7_readsOne 5 = .ok (.aload_n 0, 1) := by decide +kernel
theorem dX7_readsOne_6 : decode cX7_readsOne 6 = .ok (.invokevirtual 82, 3) := by decide +kernel
theorem dX7_readsOne_9 : decode cX7_readsOne 9 = .ok (.invokestatic 90, 3) := by decide +kernel
theorem dX7_readsOne_12 : decode cX7_readsOne 12 = .ok (.iastore, 1) := by decide +kernel
theorem dX7_readsOne_13 : decode cX7_readsOne 13 = .ok (.aload_n 0, 1) := by decide +kernel
theorem dX7_readsOne_14 : decode cX7_readsOne 14 = .ok (.getfield 44, 3) := by decide +kernel
theorem dX7_readsOne_17 : decode cX7_readsOne 17 = .ok (.iload_n 1, 1) := by decide +kernel
theorem dX7_readsOne_18 : decode cX7_readsOne 18 = .ok (.iaload, 1) := by decide +kernel
theorem dX7_readsOne_19 : decode cX7_readsOne 19 = .ok (.ifCond .ge 5, 3) := by decide +kernel
theorem dX7_readsOne_22 : decode cX7_readsOne 22 = .ok (.iconst 0, 1) := by decide +kernel
theorem dX7_readsOne_23 : decode cX7_readsOne 23 = .ok (.ireturn, 1) := by decide +kernel
theorem dX7_readsOne_24 : decode cX7_readsOne 24 = .ok (.aload_n 0, 1) := by decide +kernel
theorem dX7_readsOne_25 : decode cX7_readsOne 25 = .ok (.dup, 1) := by decide +kernel
theorem dX7_readsOne_26 : decode cX7_readsOne 26 = .ok (.getfield 79, 3) := by decide +kernel
theorem dX7_readsOne_29 : decode cX7_readsOne 29 = .ok (.iconst 1, 1) := by decide +kernel
theorem dX7_readsOne_30 : decode cX7_readsOne 30 = .ok (.iadd, 1) := by decide +kernel
theorem dX7_readsOne_31 : decode cX7_readsOne 31 = .ok (.putfield 79, 3) := by decide +kernel
theorem dX7_readsOne_34 : decode cX7_readsOne 34 = .ok (.aload_n 0, 1) := by decide +kernel
theorem dX7_readsOne_35 : decode cX7_readsOne 35 = .ok (.iload_n 1, 1) := by decide +kernel
theorem dX7_readsOne_36 : decode cX7_readsOne 36 = .ok (.iconst 1, 1) := by decide +kernel
theorem dX7_readsOne_37 : decode cX7_readsOne 37 = .ok (.iadd, 1) := by decide +kernel
theorem dX7_readsOne_38 : decode cX7_readsOne 38 = .ok (.iconst 1, 1) := by decide +kernel
theorem dX7_readsOne_39 : decode cX7_readsOne 39 = .ok (.invokevirtual 93, 3) := by decide +kernel
theorem dX7_readsOne_42 : decode cX7_readsOne 42 = .ok (.ifCond .eq 18, 3) := by decide +kernel
theorem dX7_readsOne_45 : decode cX7_readsOne 45 = .ok (.aload_n 0, 1) := by decide +kernel
theorem dX7_readsOne_46 : decode cX7_readsOne 46 = .ok (.iload_n 1, 1) := by decide +kernel
theorem dX7_readsOne_47 : decode cX7_readsOne 47 = .ok (.iconst 2, 1) := by decide +kernel
theorem dX7_readsOne_48 : decode cX7_readsOne 48 = .ok (.iadd, 1) := by decide +kernel
theorem dX7_readsOne_49 : decode cX7_readsOne 49 = .ok (.iconst 2, 1) := by decide +kernel
theorem dX7_readsOne_50 : decode cX7_readsOne 50 = .ok (.invokevirtual 93, 3) := by decide +kernel
theorem dX7_readsOne_53 : decode cX7_readsOne 53 = .ok (.ifCond .eq 7, 3) := by decide +kernel
theorem dX7_readsOne_56 : decode cX7_readsOne 56 = .ok (.iconst 1, 1) := by decide +kernel
theorem dX7_readsOne_57 : decode cX7_readsOne 57 = .ok (.goto 4, 3) := by decide +kernel
theorem dX7_readsOne_60 : decode cX7_readsOne 60 = .ok (.iconst 0, 1) := by decide +kernel
theorem dX7_readsOne_61 : decode cX7_readsOne 61 = .ok (.ireturn, 1) := by decide +kernel
set_option maxRecDepth 20000 in
theorem ggX7_readsAll_X7_readsDigits : GoodIn wsX7_readsAll wsX7_readsDigits := goodIn_r _ [5, 6, 7, 8, 9, 10, 4, 11, 12, 13, 14, 15, 16, 24, 25, 26, 27, 28, 29, 30, 31, 32, 33, 34, 35, 36, 37, 38, 39, 40, 41, 42, 43, 44, 45, 46, 47, 48, 49] (by decide +kernel) (by decide +kernel)
set_option maxRecDepth 20000 in
theorem gX7_readsAll_X7_readsDigits : GoodIn wsX7_readsAll (wsV RX7 93 RX7 yX7_readsDigits wsX7_readsDigits) := goodIn_app (goodIn_of _ (by decide +kernel)) ggX7_readsAll_X7_readsDigits
set_option maxRecDepth 20000 in
theorem ggX7_readsAll_X7_readsOne : GoodIn wsX7_readsAll wsX7_readsOne := goodIn_r _ [20, 7, 6, 8, 9, 10, 4, 11, 12, 13, 21, 22, 23, 1, 2, 3, 5, 14, 15, 16, 24, 25, 26, 27, 28, 29, 30, 31, 32, 33, 34, 35, 36, 37, 38, 39, 40, 41, 42, 43, 44, 45, 46, 47, 48, 49] (by decide +kernel) (by decide +kernel)
set_option maxRecDepth 20000 in
theorem gX7_readsAll_X7_readsOne : GoodIn wsX7_readsAll (wsV RX7 97 RX7 yX7_readsOne wsX7_readsOne) := goodIn_app (goodIn_of _ (by decide +kernel)) ggX7_readsAll_X7_readsOne
theorem dX7_readsAll_0 : decode cX7_readsAll 0 = .ok (.iload_n 1, 1) := by decide +kernel
theorem dX7_readsAll_1 : decode cX7_readsAll 1 = .ok (.lookupswitch 142 #[(98, 51), (101, 135), (103, 83), (112, 77), (115, 109)], 51) := by decide +kernel
theorem dX7_readsAll_52 : decode cX7_readsAll 52 = .ok (.aload_n 0, 1) := by decide +kernel
theorem dX7_readsAll_53 : decode cX7_readsAll 53 = .ok (.iload_n 2, 1) := by decide +kernel
theorem dX7_readsAll_54 : decode cX7_readsAll 54 = .ok (.iconst 2, 1) := by decide +kernel
theorem dX7_readsAll_55 : decode cX7_readsAll 55 = .ok (.invokevirtual 93, 3) := by decide +kernel
theorem dX7_readsAll_58 : decode cX7_readsAll 58 = .ok (.ifCond .eq 18, 3) := by decide +kernel
theorem dX7_readsAll_61 : decode cX7_readsAll 61 = .ok (.aload_n 0, 1) := by decide +kernel
theorem dX7_readsAll_62 : decode cX7_readsAll 62 = .ok (.iload_n 2, 1) := by decide +kernel
theorem dX7_readsAll_63 : decode cX7_readsAll 63 = .ok (.iconst 1, 1) := by decide +kernel
theorem dX7_readsAll_64 : decode cX7_readsAll 64 = .ok (.iadd, 1) := by decide +kernel
theorem dX7_readsAll_65 : decode cX7_readsAll 65 = .ok (.iconst 1, 1) := by decide +kernel
theorem dX7_readsAll_66 : decode cX7_readsAll 66 = .ok (.invokevirtual 93, 3) := by decide +kernel
theorem dX7_readsAll_69 : decode cX7_readsAll 69 = .ok (.ifCond .eq 7, 3) := by decide +kernel
theorem dX7_readsAll_72 : decode cX7_readsAll 72 = .ok (.iconst 1, 1) := by decide +kernel
theorem dX7_readsAll_73 : decode cX7_readsAll 73 = .ok (.goto 4, 3) := by decide +kernel
theorem dX7_readsAll_76 : decode cX7_readsAll 76 = .ok (.iconst 0, 1) := by decide +kernel
theorem dX7_readsAll_77 : decode cX7_readsAll 77 = .ok (.ireturn, 1) := by decide +kernel
theorem dX7_readsAll_78 : decode cX7_readsAll 78 = .ok (.aload_n 0, 1) := by decide +kernel
theorem dX7_readsAll_79 : decode cX7_readsAll 79 = .ok (.iload_n 2, 1) := by decide +kernel
theorem dX7_readsAll_80 : decode cX7_readsAll 80 = .ok (.invokevirtual 97, 3) := by decide +kernel
theorem dX7_readsAll_83 : decode cX7_readsAll 83 = .ok (.ireturn, 1) := by decide +kernel
theorem dX7_readsAll_84 : decode cX7_readsAll 84 = .ok (.aload_n 0, 1) := by decide +kernel
theorem dX7_readsAll_85 : decode cX7_readsAll 85 = .ok (.iload_n 2, 1) := by decide +kernel
theorem dX7_readsAll_86 : decode cX7_readsAll 86 = .ok (.iconst 1, 1) := by decide +kernel
theorem dX7_readsAll_87 : decode cX7_readsAll 87 = .ok (.invokevirtual 93, 3) := by decide +kernel
theorem dX7_readsAll_90 : decode cX7_readsAll 90 = .ok (.ifCond .eq 18, 3) := by decide +kernel
theorem dX7_readsAll_93 : decode cX7_readsAll 93 = .ok (.aload_n 0, 1) := by decide +kernel
theorem dX7_readsAll_94 : decode cX7_readsAll 94 = .ok (.iload_n 2, 1) := by decide +kernel
theorem dX7_readsAll_95 : decode cX7_readsAll 95 = .ok (.iconst 1, 1) := by decide +kernel
theorem dX7_readsAll_96 : decode cX7_readsAll 96 = .ok (.iadd, 1) := by decide +kernel
theorem dX7_readsAll_97 : decode cX7_readsAll 97 = .ok (.iconst 1, 1) := by decide +kernel
theorem dX7_readsAll_98 : decode cX7_readsAll 98 = .ok (.invokevirtual 93, 3) := by decide +kernel
theorem dX7_readsAll_101 : decode cX7_readsAll 101 = .ok (.ifCond .eq 7, 3) := by decide +kernel
theorem dX7_readsAll_104 : decode cX7_readsAll 104 = .ok (.iconst 1, 1) := by decide +kernel
theorem dX7_readsAll_105 : decode cX7_readsAll 105 = .ok (.goto 4, 3) := by decide +kernel
theorem dX7_readsAll_108 : decode cX7_readsAll 108 = .ok (.iconst 0, 1) := by decide +kernel
theorem dX7_readsAll_109 : decode cX7_readsAll 109 = .ok (.ireturn, 1) := by decide +kernel
theorem dX7_readsAll_110 : decode cX7_readsAll 110 = .ok (.aload_n 0, 1) := by decide +kernel
theorem dX7_readsAll_111 : decode cX7_readsAll 111 = .ok (.iload_n 2, 1) := by decide +kernel
theorem dX7_readsAll_112 : decode cX7_readsAll 112 = .ok (.iconst 1, 1) := by decide +kernel
theorem dX7_readsAll_113 : decode cX7_readsAll 113 = .ok (.invokevirtual 93, 3) := by decide +kernel
theorem dX7_readsAll_116 : decode cX7_readsAll 116 = .ok (.ifCond .eq 18, 3) := by decide +kernel
theorem dX7_readsAll_119 : decode cX7_readsAll 119 = .ok (.aload_n 0, 1) := by decide +kernel
theorem dX7_readsAll_120 : decode cX7_readsAll 120 = .ok (.iload_n 2, 1) := by decide +kernel
theorem dX7_readsAll_121 : decode cX7_readsAll 121 = .ok (.iconst 1, 1) := by decide +kernel
theorem dX7_readsAll_122 : decode cX7_readsAll 122 = .ok (.iadd, 1) := by decide +kernel
theorem dX7_readsAll_123 : decode cX7_readsAll 123 = .ok (.iconst 2, 1) := by decide +kernel
theorem dX7_readsAll_124 : decode cX7_readsAll 124 = .ok (.invokevirtual 93, 3) := by decide +kernel
theorem dX7_readsAll_127 : decode cX7_readsAll 127 = .ok (.ifCond .eq 7, 3) := by decide +kernel
theorem dX7_readsAll_130 : decode cX7_readsAll 130 = .ok (.iconst 1, 1) := by decide +kernel
theorem dX7_readsAll_131 : decode cX7_readsAll 131 = .ok (.goto 4, 3) := by decide +kernel
theorem dX7_readsAll_134 : decode cX7_readsAll 134 = .ok (.iconst 0, 1) := by decide +kernel
theorem dX7_readsAll_135 : decode cX7_readsAll 135 = .ok (.ireturn, 1) := by decide +kernel
theorem dX7_readsAll_136 : decode cX7_readsAll 136 = .ok (.aload_n 0, 1) := by decide +kernel
theorem dX7_readsAll_137 : decode cX7_readsAll 137 = .ok (.iload_n 2, 1) := by decide +kernel
theorem dX7_readsAll_138 : decode cX7_readsAll 138 = .ok (.iconst 1, 1) := by decide +kernel
theorem dX7_readsAll_139 : decode cX7_readsAll 139 = .ok (.invokevirtual 93, 3) := by decide +kernel
theorem dX7_readsAll_142 : decode cX7_readsAll 142 = .ok (.ireturn, 1) := by decide +kernel
theorem dX7_readsAll_143 : decode cX7_readsAll 143 = .ok (.aload_n 0, 1) := by decide +kernel
theorem dX7_readsAll_144 : decode cX7_readsAll 144 = .ok (.iload_n 2, 1) := by decide +kernel
theorem dX7_readsAll_145 : decode cX7_readsAll 145 = .ok (.iconst 2, 1) := by decide +kernel
theorem dX7_readsAll_146 : decode cX7_readsAll 146 = .ok (.invokevirtual 93, 3) := by decide +kernel
theorem dX7_readsAll_149 : decode cX7_readsAll 149 = .ok (.ireturn, 1) := by decide +kernel
set_option maxRecDepth 20000 in
theorem ggX7_statement_X7_nextLetter : GoodIn wsX7_statement wsX7_nextLetter := goodIn_r _ [9, 4, 10, 11, 31, 32, 33, 34, 35, 36, 37, 38, 39, 40, 41, 42, 43, 44, 45, 46, 47, 48, 49, 50, 51, 52, 53, 54, 55, 56] (by decide +kernel) (by decide +kernel)
set_option maxRecDepth 20000 in
theorem gX7_statement_X7_nextLetter : GoodIn wsX7_statement (wsV RX7 82 RX7 yX7_nextLetter wsX7_nextLetter) := goodIn_app (goodIn_of _ (by decide +kernel)) ggX7_statement_X7_nextLetter
set_option maxRecDepth 20000 in
theorem ggX7_statement_X7_readsAll : GoodIn wsX7_statement wsX7_readsAll := goodIn_r _ [15, 16, 17, 18, 8, 19, 4, 20, 5, 6, 7, 9, 10, 11, 21, 22, 23, 24, 25, 26, 27, 28, 29, 30, 31, 32, 33, 34, 35, 36, 37, 38, 39, 40, 41, 42, 43, 44, 45, 46, 47, 48, 49, 50, 51, 52, 53, 54, 55, 56] (by decide +kernel) (by decide +kernel)
set_option maxRecDepth 20000 in
theorem gX7_statement_X7_readsAll : GoodIn wsX7_statement (wsV RX7 104 RX7 yX7_readsAll wsX7_readsAll) := goodIn_app (goodIn_of _ (by decide +kernel)) ggX7_statement_X7_readsAll
theorem dX7_statement_0 : decode cX7_statement 0 = .ok (.aload_n 0, 1) := by decide +kernel
theorem dX7_statement_1 : decode cX7_statement 1 = .ok (.invokevirtual 82, 3) := by decide +kernel
theorem dX7_statement_4 : decode cX7_statement 4 = .ok (.istore_n 1, 1) := by decide +kernel
theorem dX7_statement_5 : decode cX7_statement 5 = .ok (.iload_n 1, 1) := by decide +kernel
theorem dX7_statement_6 : decode cX7_statement 6 = .ok (.bipush 98, 2) := by decide +kernel
theorem dX7_statement_8 : decode cX7_statement 8 = .ok (.if_icmp .eq 35, 3) := by decide +kernel
theorem dX7_statement_11 : decode cX7_statement 11 = .ok (.iload_n 1, 1) := by decide +kernel
theorem dX7_statement_12 : decode cX7_statement 12 = .ok (.bipush 112, 2) := by decide +kernel
theorem dX7_statement_14 : decode cX7_statement 14 = .ok (.if_icmp .eq 29, 3) := by decide +kernel
theorem dX7_statement_17 : decode cX7_statement 17 = .ok (.iload_n 1, 1) := by decide +kernel
theorem dX7_statement_18 : decode cX7_statement 18 = .ok (.bipush 103, 2) := by decide +kernel
theorem dX7_statement_20 : decode cX7_statement 20 = .ok (.if_icmp .eq 23, 3) := by decide +kernel
theorem dX7_statement_23 : decode cX7_statement 23 = .ok (.iload_n 1, 1) := by decide +kernel
theorem dX7_statement_24 : decode cX7_statement 24 = .ok (.bipush 115, 2) := by decide +kernel
theorem dX7_statement_26 : decode cX7_statement 26 = .ok (.if_icmp .eq 17, 3) := by decide +kernel
theorem dX7_statement_29 : decode cX7_statement 29 = .ok (.iload_n 1, 1) := by decide +kernel
theorem dX7_statement_30 : decode cX7_statement 30 = .ok (.bipush 101, 2) := by decide +kernel
theorem dX7_statement_32 : decode cX7_statement 32 = .ok (.if_icmp .eq 11, 3) := by decide +kernel
theorem dX7_statement_35 : decode cX7_statement 35 = .ok (.iload_n 1, 1) := by decide +kernel
theorem dX7_statement_36 : decode cX7_statement 36 = .ok (.bipush 100, 2) := by decide +kernel
theorem dX7_statement_38 : decode cX7_statement 38 = .ok (.if_icmp .eq 5, 3) := by decide +kernel
theorem dX7_statement_41 : decode cX7_statement 41 = .ok (.iconst 0, 1) := by decide +kernel
theorem dX7_statement_42 : decode cX7_statement 42 = .ok (.ireturn, 1) := by decide +kernel
theorem dX7_statement_43 : decode cX7_statement 43 = .ok (.aload_n 0, 1) := by decide +kernel
theorem dX7_statement_44 : decode cX7_statement 44 = .ok (.getfield 38, 3) := by decide +kernel
theorem dX7_statement_47 : decode cX7_statement 47 = .ok (.aload_n 0, 1) := by decide +kernel
theorem dX7_statement_48 : decode cX7_statement 48 = .ok (.getfield 101, 3) := by decide +kernel
theorem dX7_statement_51 : decode cX7_statement 51 = .ok (.iload_n 1, 1) := by decide +kernel
theorem dX7_statement_52 : decode cX7_statement 52 = .ok (.iastore, 1) := by decide +kernel
theorem dX7_statement_53 : decode cX7_statement 53 = .ok (.aload_n 0, 1) := by decide +kernel
theorem dX7_statement_54 : decode cX7_statement 54 = .ok (.getfield 41, 3) := by decide +kernel
theorem dX7_statement_57 : decode cX7_statement 57 = .ok (.aload_n 0, 1) := by decide +kernel
theorem dX7_statement_58 : decode cX7_statement 58 = .ok (.getfield 101, 3) := by decide +kernel
theorem dX7_statement_61 : decode cX7_statement 61 = .ok (.aload_n 0, 1) := by decide +kernel
theorem dX7_statement_62 : decode cX7_statement 62 = .ok (.getfield 79, 3) := by decide +kernel
theorem dX7_statement_65 : decode cX7_statement 65 = .ok (.iastore, 1) := by decide +kernel
theorem dX7_statement_66 : decode cX7_statement 66 = .ok (.aload_n 0, 1) := by decide +kernel
theorem dX7_statement_67 : decode cX7_statement 67 = .ok (.dup, 1) := by decide +kernel
theorem dX7_statement_68 : decode cX7_statement 68 = .ok (.getfield 79, 3) := by decide +kernel
theorem dX7_statement_71 : decode cX7_statement 71 = .ok (.iconst 1, 1) := by decide +kernel
theorem dX7_statement_72 : decode cX7_statement 72 = .ok (.iadd, 1) := by decide +kernel
theorem dX7_statement_73 : decode cX7_statement 73 = .ok (.putfield 79, 3) := by decide +kernel
theorem dX7_statement_76 : decode cX7_statement 76 = .ok (.aload_n 0, 1) := by decide +kernel
theorem dX7_statement_77 : decode cX7_statement 77 = .ok (.iload_n 1, 1) := by decide +kernel
theorem dX7_statement_78 : decode cX7_statement 78 = .ok (.iconst 3, 1) := by decide +kernel
theorem dX7_statement_79 : decode cX7_statement 79 = .ok (.aload_n 0, 1) := by decide +kernel
theorem dX7_statement_80 : decode cX7_statement 80 = .ok (.getfield 101, 3) := by decide +kernel
theorem dX7_statement_83 : decode cX7_statement 83 = .ok (.imul, 1) := by decide +kernel
theorem dX7_statement_84 : decode cX7_statement 84 = .ok (.invokevirtual 104, 3) := by decide +kernel
theorem dX7_statement_87 : decode cX7_statement 87 = .ok (.ifCond .eq 12, 3) := by decide +kernel
theorem dX7_statement_90 : decode cX7_statement 90 = .ok (.aload_n 0, 1) := by decide +kernel
theorem dX7_statement_91 : decode cX7_statement 91 = .ok (.invokevirtual 82, 3) := by decide +kernel
theorem dX7_statement_94 : decode cX7_statement 94 = .ok (.bipush 59, 2) := by decide +kernel
theorem dX7_statement_96 : decode cX7_statement 96 = .ok (.if_icmp .eq 5, 3) := by decide +kernel
theorem dX7_statement_99 : decode cX7_statement 99 = .ok (.iconst 0, 1) := by decide +kernel
theorem dX7_statement_100 : decode cX7_statement 100 = .ok (.ireturn, 1) := by decide +kernel
theorem dX7_statement_101 : decode cX7_statement 101 = .ok (.aload_n 0, 1) := by decide +kernel
theorem dX7_statement_102 : decode cX7_statement 102 = .ok (.dup, 1) := by decide +kernel
theorem dX7_statement_103 : decode cX7_statement 103 = .ok (.getfield 79, 3) := by decide +kernel
theorem dX7_statement_106 : decode cX7_statement 106 = .ok (.iconst 1, 1) := by decide +kernel
theorem dX7_statement_107 : decode cX7_statement 107 = .ok (.iadd, 1) := by decide +kernel
theorem dX7_statement_108 : decode cX7_statement 108 = .ok (.putfield 79, 3) := by decide +kernel
theorem dX7_statement_111 : decode cX7_statement 111 = .ok (.iconst 1, 1) := by decide +kernel
theorem dX7_statement_112 : decode cX7_statement 112 = .ok (.ireturn, 1) := by decide +kernel
theorem dX7_comesBell_0 : decode cX7_comesBell 0 = .ok (.iload_n 1, 1) := by decide +kernel
theorem dX7_comesBell_1 : decode cX7_comesBell 1 = .ok (.bipush 24, 2) := by decide +kernel
theorem dX7_comesBell_3 : decode cX7_comesBell 3 = .ok (.if_icmp .ge 16, 3) := by decide +kernel
theorem dX7_comesBell_6 : decode cX7_comesBell 6 = .ok (.iload_n 2, 1) := by decide +kernel
theorem dX7_comesBell_7 : decode cX7_comesBell 7 = .ok (.ifCond .eq 12, 3) := by decide +kernel
theorem dX7_comesBell_10 : decode cX7_comesBell 10 = .ok (.aload_n 0, 1) := by decide +kernel
theorem dX7_comesBell_11 : decode cX7_comesBell 11 = .ok (.getfield 62, 3) := by decide +kernel
theorem dX7_comesBell_14 : decode cX7_comesBell 14 = .ok (.bipush 6, 2) := by decide +kernel
theorem dX7_comesBell_16 : decode cX7_comesBell 16 = .ok (.if_icmp .ne 5, 3) := by decide +kernel
theorem dX7_comesBell_19 : decode cX7_comesBell 19 = .ok (.iconst 0, 1) := by decide +kernel
theorem dX7_comesBell_20 : decode cX7_comesBell 20 = .ok (.ireturn, 1) := by decide +kernel
theorem dX7_comesBell_21 : decode cX7_comesBell 21 = .ok (.aload_n 0, 1) := by decide +kernel
theorem dX7_comesBell_22 : decode cX7_comesBell 22 = .ok (.getfield 13, 3) := by decide +kernel
theorem dX7_comesBell_25 : decode cX7_comesBell 25 = .ok (.aload_n 0, 1) := by decide +kernel
theorem dX7_comesBell_26 : decode cX7_comesBell 26 = .ok (.getfield 62, 3) := by decide +kernel
theorem dX7_comesBell_29 : decode cX7_comesBell 29 = .ok (.iload_n 1, 1) := by decide +kernel
theorem dX7_comesBell_30 : decode cX7_comesBell 30 = .ok (.iastore, 1) := by decide +kernel
theorem dX7_comesBell_31 : decode cX7_comesBell 31 = .ok (.aload_n 0, 1) := by decide +kernel
theorem dX7_comesBell_32 : decode cX7_comesBell 32 = .ok (.getfield 16, 3) := by decide +kernel
theorem dX7_comesBell_35 : decode cX7_comesBell 35 = .ok (.aload_n 0, 1) := by decide +kernel
theorem dX7_comesBell_36 : decode cX7_comesBell 36 = .ok (.getfield 62, 3) := by decide +kernel
theorem dX7_comesBell_39 : decode cX7_comesBell 39 = .ok (.iload_n 2, 1) := by decide +kernel
theorem dX7_comesBell_40 : decode cX7_comesBell 40 = .ok (.iastore, 1) := by decide +kernel
theorem dX7_comesBell_41 : decode cX7_comesBell 41 = .ok (.aload_n 0, 1) := by decide +kernel
theorem dX7_comesBell_42 : decode cX7_comesBell 42 = .ok (.dup, 1) := by decide +kernel
theorem dX7_comesBell_43 : decode cX7_comesBell 43 = .ok (.getfield 62, 3) := by decide +kernel
theorem dX7_comesBell_46 : decode cX7_comesBell 46 = .ok (.iconst 1, 1) := by decide +kernel
theorem dX7_comesBell_47 : decode cX7_comesBell 47 = .ok (.iadd, 1) := by decide +kernel
theorem dX7_comesBell_48 : decode cX7_comesBell 48 = .ok (.putfield 62, 3) := by decide +kernel
theorem dX7_comesBell_51 : decode cX7_comesBell 51 = .ok (.iconst 1, 1) := by decide +kernel
theorem dX7_comesBell_52 : decode cX7_comesBell 52 = .ok (.ireturn, 1) := by decide +kernel
theorem dX7_comesOne_0 : decode cX7_comesOne 0 = .ok (.aload_n 0, 1) := by decide +kernel
theorem dX7_comesOne_1 : decode cX7_comesOne 1 = .ok (.getfield 65, 3) := by decide +kernel
theorem dX7_comesOne_4 : decode cX7_comesOne 4 = .ok (.bipush 8, 2) := by decide +kernel
theorem dX7_comesOne_6 : decode cX7_comesOne 6 = .ok (.if_icmp .ne 5, 3) := by decide +kernel
theorem dX7_comesOne_9 : decode cX7_comesOne 9 = .ok (.iconst 0, 1) := by decide +kernel
theorem dX7_comesOne_10 : decode cX7_comesOne 10 = .ok (.ireturn, 1) := by decide +kernel
theorem dX7_comesOne_11 : decode cX7_comesOne 11 = .ok (.aload_n 0, 1) := by decide +kernel
theorem dX7_comesOne_12 : decode cX7_comesOne 12 = .ok (.getfield 19, 3) := by decide +kernel
theorem dX7_comesOne_15 : decode cX7_comesOne 15 = .ok (.aload_n 0, 1) := by decide +kernel
theorem dX7_comesOne_16 : decode cX7_comesOne 16 = .ok (.getfield 65, 3) := by decide +kernel
theorem dX7_comesOne_19 : decode cX7_comesOne 19 = .ok (.iload_n 1, 1) := by decide +kernel
theorem dX7_comesOne_20 : decode cX7_comesOne 20 = .ok (.iastore, 1) := by decide +kernel
theorem dX7_comesOne_21 : decode cX7_comesOne 21 = .ok (.aload_n 0, 1) := by decide +kernel
theorem dX7_comesOne_22 : decode cX7_comesOne 22 = .ok (.getfield 22, 3) := by decide +kernel
theorem dX7_comesOne_25 : decode cX7_comesOne 25 = .ok (.aload_n 0, 1) := by decide +kernel
theorem dX7_comesOne_26 : decode cX7_comesOne 26 = .ok (.getfield 65, 3) := by decide +kernel
theorem dX7_comesOne_29 : decode cX7_comesOne 29 = .ok (.iload_n 2, 1) := by decide +kernel
theorem dX7_comesOne_30 : decode cX7_comesOne 30 = .ok (.iastore, 1) := by decide +kernel
theorem dX7_comesOne_31 : decode cX7_comesOne 31 = .ok (.aload_n 0, 1) := by decide +kernel
theorem dX7_comesOne_32 : decode cX7_comesOne 32 = .ok (.getfield 25, 3) := by decide +kernel
theorem dX7_comesOne_35 : decode cX7_comesOne 35 = .ok (.aload_n 0, 1) := by decide +kernel
theorem dX7_comesOne_36 : decode cX7_comesOne 36 = .ok (.getfield 65, 3) := by decide +kernel
theorem dX7_comesOne_39 : decode cX7_comesOne 39 = .ok (.iload_n 3, 1) := by decide +kernel
theorem dX7_comesOne_40 : decode cX7_comesOne 40 = .ok (.iastore, 1) := by decide +kernel
theorem dX7_comesOne_41 : decode cX7_comesOne 41 = .ok (.aload_n 0, 1) := by decide +kernel
theorem dX7_comesOne_42 : decode cX7_comesOne 42 = .ok (.getfield 28, 3) := by decide +kernel
theorem dX7_comesOne_45 : decode cX7_comesOne 45 = .ok (.aload_n 0, 1) := by decide +kernel
theorem dX7_comesOne_46 : decode cX7_comesOne 46 = .ok (.getfield 65, 3) := by decide +kernel
theorem dX7_comesOne_49 : decode cX7_comesOne 49 = .ok (.iconst 0, 1) := by decide +kernel
theorem dX7_comesOne_50 : decode cX7_comesOne 50 = .ok (.iastore, 1) := by decide +kernel
theorem dX7_comesOne_51 : decode cX7_comesOne 51 = .ok (.aload_n 0, 1) := by decide +kernel
theorem dX7_comesOne_52 : decode cX7_comesOne 52 = .ok (.dup, 1) := by decide +kernel
theorem dX7_comesOne_53 : decode cX7_comesOne 53 = .ok (.getfield 65, 3) := by decide +kernel
theorem dX7_comesOne_56 : decode cX7_comesOne 56 = .ok (.iconst 1, 1) := by decide +kernel
theorem dX7_comesOne_57 : decode cX7_comesOne 57 = .ok (.iadd, 1) := by decide +kernel
theorem dX7_comesOne_58 : decode cX7_comesOne 58 = .ok (.putfield 65, 3) := by decide +kernel
theorem dX7_comesOne_61 : decode cX7_comesOne 61 = .ok (.iconst 1, 1) := by decide +kernel
theorem dX7_comesOne_62 : decode cX7_comesOne 62 = .ok (.ireturn, 1) := by decide +kernel
set_option maxRecDepth 20000 in
theorem ggX7_comesDays_X7_isIn : GoodIn wsX7_comesDays wsX7_isIn := goodIn_r _ [5] (by decide +kernel) (by decide +kernel)
set_option maxRecDepth 20000 in
theorem gX7_comesDays_X7_isIn : GoodIn wsX7_comesDays (va_wsS RX7 86 yX7_isIn wsX7_isIn) := goodIn_app (goodIn_of _ (by decide +kernel)) ggX7_comesDays_X7_isIn
set_option maxRecDepth 20000 in
theorem ggX7_comesDays_X7_goesOn : GoodIn wsX7_comesDays wsX7_goesOn := goodIn_r _ [9, 10, 11, 12, 4, 13, 1, 14, 15, 16, 17, 18, 19, 20, 21, 22, 23, 24, 25, 26, 27, 28, 29, 30, 31, 32, 33, 34, 35, 36, 37, 38, 39, 40, 41, 42, 43, 44, 45, 46, 47, 48, 49, 50] (by decide +kernel) (by decide +kernel)
set_option maxRecDepth 20000 in
theorem gX7_comesDays_X7_goesOn : GoodIn wsX7_comesDays (wsV RX7 110 RX7 yX7_goesOn wsX7_goesOn) := goodIn_app (goodIn_of _ (by decide +kernel)) ggX7_comesDays_X7_goesOn
theorem dX7_comesDays_0 : decode cX7_comesDays 0 = .ok (.iload_n 1, 1) := by decide +kernel
theorem dX7_comesDays_1 : decode cX7_comesDays 1 = .ok (.iconst 1, 1) := by decide +kernel
theorem dX7_comesDays_2 : decode cX7_comesDays 2 = .ok (.bipush 60, 2) := by decide +kernel
theorem dX7_comesDays_4 : decode cX7_comesDays 4 = .ok (.invokestatic 86, 3) := by decide +kernel
theorem dX7_comesDays_7 : decode cX7_comesDays 7 = .ok (.ifCond .eq 15, 3) := by decide +kernel
theorem dX7_comesDays_10 : decode cX7_comesDays 10 = .ok (.aload_n 0, 1) := by decide +kernel
theorem dX7_comesDays_11 : decode cX7_comesDays 11 = .ok (.getfield 107, 3) := by decide +kernel
theorem dX7_comesDays_14 : decode cX7_comesDays 14 = .ok (.iload_n 1, 1) := by decide +kernel
theorem dX7_comesDays_15 : decode cX7_comesDays 15 = .ok (.iadd, 1) := by decide +kernel
theorem dX7_comesDays_16 : decode cX7_comesDays 16 = .ok (.sipush 999, 3) := by decide +kernel
theorem dX7_comesDays_19 : decode cX7_comesDays 19 = .ok (.if_icmp .le 5, 3) := by decide +kernel
theorem dX7_comesDays_22 : decode cX7_comesDays 22 = .ok (.iconst 0, 1) := by decide +kernel
theorem dX7_comesDays_23 : decode cX7_comesDays 23 = .ok (.ireturn, 1) := by decide +kernel
theorem dX7_comesDays_24 : decode cX7_comesDays 24 = .ok (.aload_n 0, 1) := by decide +kernel
theorem dX7_comesDays_25 : decode cX7_comesDays 25 = .ok (.iload_n 1, 1) := by decide +kernel
theorem dX7_comesDays_26 : decode cX7_comesDays 26 = .ok (.invokevirtual 110, 3) := by decide +kernel
theorem dX7_comesDays_29 : decode cX7_comesDays 29 = .ok (.iconst 1, 1) := by decide +kernel
theorem dX7_comesDays_30 : decode cX7_comesDays 30 = .ok (.ireturn, 1) := by decide +kernel
set_option maxRecDepth 20000 in
theorem ggX7_comes_X7_comesBell : GoodIn wsX7_comes wsX7_comesBell := goodIn_r _ [10, 11, 12, 13, 48, 49, 50, 51, 52, 53, 54, 55, 56, 57, 58, 59, 60, 61, 62, 63, 64, 65, 66, 67, 68, 69, 70, 71, 72, 73] (by decide +kernel) (by decide +kernel)
set_option maxRecDepth 20000 in
theorem gX7_comes_X7_comesBell : GoodIn wsX7_comes (wsV RX7 114 RX7 yX7_comesBell wsX7_comesBell) := goodIn_app (goodIn_of _ (by decide +kernel)) ggX7_comes_X7_comesBell
set_option maxRecDepth 20000 in
theorem ggX7_comes_X7_comesOne : GoodIn wsX7_comes wsX7_comesOne := goodIn_r _ [17, 18, 19, 20, 4, 3, 48, 49, 50, 51, 52, 53, 54, 55, 56, 57, 58, 59, 60, 61, 62, 63, 64, 65, 66, 67, 68, 69, 70, 71, 72, 73] (by decide +kernel) (by decide +kernel)
set_option maxRecDepth 20000 in
theorem gX7_comes_X7_comesOne : GoodIn wsX7_comes (wsV RX7 117 RX7 yX7_comesOne wsX7_comesOne) := goodIn_app (goodIn_of _ (by decide +kernel)) ggX7_comes_X7_comesOne
set_option maxRecDepth 20000 in
theorem ggX7_comes_X7_isOne : GoodIn wsX7_comes wsX7_isOne := goodIn_r _ [24, 18, 48, 49, 50, 51, 52, 53, 54, 55, 56, 57, 58, 59, 60, 61, 62, 63, 64, 65, 66, 67, 68, 69, 70, 71, 72, 73] (by decide +kernel) (by decide +kernel)
set_option maxRecDepth 20000 in
theorem gX7_comes_X7_isOne : GoodIn wsX7_comes (wsV RX7 120 RX7 yX7_isOne wsX7_isOne) := goodIn_app (goodIn_of _ (by decide +kernel)) ggX7_comes_X7_isOne
set_option maxRecDepth 20000 in
theorem ggX7_comes_X7_isIn : GoodIn wsX7_comes wsX7_isIn := goodIn_r _ [27] (by decide +kernel) (by decide +kernel)
set_option maxRecDepth 20000 in
theorem gX7_comes_X7_isIn : GoodIn wsX7_comes (va_wsS RX7 86 yX7_isIn wsX7_isIn) := goodIn_app (goodIn_of _ (by decide +kernel)) ggX7_comes_X7_isIn
set_option maxRecDepth 20000 in
theorem ggX7_comes_X7_comesDays : GoodIn wsX7_comes wsX7_comesDays := goodIn_r _ [31, 32, 25, 26, 9, 27, 33, 34, 35, 36, 37, 38, 39, 40, 18, 3, 41, 42, 43, 44, 4, 5, 45, 46, 47, 48, 49, 50, 51, 52, 53, 54, 55, 56, 57, 58, 59, 60, 61, 62, 63, 64, 65, 66, 67, 68, 69, 70, 71, 72, 73] (by decide +kernel) (by decide +kernel)
set_option maxRecDepth 20000 in
theorem gX7_comes_X7_comesDays : GoodIn wsX7_comes (wsV RX7 123 RX7 yX7_comesDays wsX7_comesDays) := goodIn_app (goodIn_of _ (by decide +kernel)) ggX7_comes_X7_comesDays
theorem dX7_comes_0 : decode cX7_comes 0 = .ok (.iconst 3, 1) := by decide +kernel
theorem dX7_comes_1 : decode cX7_comes 1 = .ok (.iload_n 1, 1) := by decide +kernel
theorem dX7_comes_2 : decode cX7_comes 2 = .ok (.imul, 1) := by decide +kernel
theorem dX7_comes_3 : decode cX7_comes 3 = .ok (.istore_n 2, 1) := by decide +kernel
theorem dX7_comes_4 : decode cX7_comes 4 = .ok (.aload_n 0, 1) := by decide +kernel
theorem dX7_comes_5 : decode cX7_comes 5 = .ok (.getfield 38, 3) := by decide +kernel
theorem dX7_comes_8 : decode cX7_comes 8 = .ok (.iload_n 1, 1) := by decide +kernel
theorem dX7_comes_9 : decode cX7_comes 9 = .ok (.iaload, 1) := by decide +kernel
theorem dX7_comes_10 : decode cX7_comes 10 = .ok (.lookupswitch 189 #[(98, 50), (101, 168), (103, 96), (112, 69), (115, 132)], 50) := by decide +kernel
theorem dX7_comes_60 : decode cX7_comes 60 = .ok (.aload_n 0, 1) := by decide +kernel
theorem dX7_comes_61 : decode cX7_comes 61 = .ok (.aload_n 0, 1) := by decide +kernel
theorem dX7_comes_62 : decode cX7_comes 62 = .ok (.getfield 44, 3) := by decide +kernel
theorem dX7_comes_65 : decode cX7_comes 65 = .ok (.iload_n 2, 1) := by decide +kernel
theorem dX7_comes_66 : decode cX7_comes 66 = .ok (.iaload, 1) := by decide +kernel
theorem dX7_comes_67 : decode cX7_comes 67 = .ok (.aload_n 0, 1) := by decide +kernel
theorem dX7_comes_68 : decode cX7_comes 68 = .ok (.getfield 44, 3) := by decide +kernel
theorem dX7_comes_71 : decode cX7_comes 71 = .ok (.iload_n 2, 1) := by decide +kernel
theorem dX7_comes_72 : decode cX7_comes 72 = .ok (.iconst 1, 1) := by decide +kernel
theorem dX7_comes_73 : decode cX7_comes 73 = .ok (.iadd, 1) := by decide +kernel
theorem dX7_comes_74 : decode cX7_comes 74 = .ok (.iaload, 1) := by decide +kernel
theorem dX7_comes_75 : decode cX7_comes 75 = .ok (.invokevirtual 114, 3) := by decide +kernel
theorem dX7_comes_78 : decode cX7_comes 78 = .ok (.ireturn, 1) := by decide +kernel
theorem dX7_comes_79 : decode cX7_comes 79 = .ok (.aload_n 0, 1) := by decide +kernel
theorem dX7_comes_80 : decode cX7_comes 80 = .ok (.aload_n 0, 1) := by decide +kernel
theorem dX7_comes_81 : decode cX7_comes 81 = .ok (.getfield 44, 3) := by decide +kernel
theorem dX7_comes_84 : decode cX7_comes 84 = .ok (.iload_n 2, 1) := by decide +kernel
theorem dX7_comes_85 : decode cX7_comes 85 = .ok (.iaload, 1) := by decide +kernel
theorem dX7_comes_86 : decode cX7_comes 86 = .ok (.aload_n 0, 1) := by decide +kernel
theorem dX7_comes_87 : decode cX7_comes 87 = .ok (.getfield 44, 3) := by decide +kernel
theorem dX7_comes_90 : decode cX7_comes 90 = .ok (.iload_n 2, 1) := by decide +kernel
theorem dX7_comes_91 : decode cX7_comes 91 = .ok (.iconst 1, 1) := by decide +kernel
theorem dX7_comes_92 : decode cX7_comes 92 = .ok (.iadd, 1) := by decide +kernel
theorem dX7_comes_93 : decode cX7_comes 93 = .ok (.iaload, 1) := by decide +kernel
theorem dX7_comes_94 : decode cX7_comes 94 = .ok (.aload_n 0, 1) := by decide +kernel
theorem dX7_comes_95 : decode cX7_comes 95 = .ok (.getfield 44, 3) := by decide +kernel
theorem dX7_comes_98 : decode cX7_comes 98 = .ok (.iload_n 2, 1) := by decide +kernel
theorem dX7_comes_99 : decode cX7_comes 99 = .ok (.iconst 2, 1) := by decide +kernel
theorem dX7_comes_100 : decode cX7_comes 100 = .ok (.iadd, 1) := by decide +kernel
theorem dX7_comes_101 : decode cX7_comes 101 = .ok (.iaload, 1) := by decide +kernel
theorem dX7_comes_102 : decode cX7_comes 102 = .ok (.invokevirtual 117, 3) := by decide +kernel
theorem dX7_comes_105 : decode cX7_comes 105 = .ok (.ireturn, 1) := by decide +kernel
theorem dX7_comes_106 : decode cX7_comes 106 = .ok (.aload_n 0, 1) := by decide +kernel
theorem dX7_comes_107 : decode cX7_comes 107 = .ok (.aload_n 0, 1) := by decide +kernel
theorem dX7_comes_108 : decode cX7_comes 108 = .ok (.getfield 44, 3) := by decide +kernel
theorem dX7_comes_111 : decode cX7_comes 111 = .ok (.iload_n 2, 1) := by decide +kernel
theorem dX7_comes_112 : decode cX7_comes 112 = .ok (.iaload, 1) := by decide +kernel
theorem dX7_comes_113 : decode cX7_comes 113 = .ok (.invokevirtual 120, 3) := by decide +kernel
theorem dX7_comes_116 : decode cX7_comes 116 = .ok (.ifCond .ne 5, 3) := by decide +kernel
theorem dX7_comes_119 : decode cX7_comes 119 = .ok (.iconst 0, 1) := by decide +kernel
theorem dX7_comes_120 : decode cX7_comes 120 = .ok (.ireturn, 1) := by decide +kernel
theorem dX7_comes_121 : decode cX7_comes 121 = .ok (.aload_n 0, 1) := by decide +kernel
theorem dX7_comes_122 : decode cX7_comes 122 = .ok (.getfield 28, 3) := by decide +kernel
theorem dX7_comes_125 : decode cX7_comes 125 = .ok (.aload_n 0, 1) := by decide +kernel
theorem dX7_comes_126 : decode cX7_comes 126 = .ok (.getfield 44, 3) := by decide +kernel
theorem dX7_comes_129 : decode cX7_comes 129 = .ok (.iload_n 2, 1) := by decide +kernel
theorem dX7_comes_130 : decode cX7_comes 130 = .ok (.iaload, 1) := by decide +kernel
theorem dX7_comes_131 : decode cX7_comes 131 = .ok (.aload_n 0, 1) := by decide +kernel
theorem dX7_comes_132 : decode cX7_comes 132 = .ok (.getfield 44, 3) := by decide +kernel
theorem dX7_comes_135 : decode cX7_comes 135 = .ok (.iload_n 2, 1) := by decide +kernel
theorem dX7_comes_136 : decode cX7_comes 136 = .ok (.iconst 1, 1) := by decide +kernel
theorem dX7_comes_137 : decode cX7_comes 137 = .ok (.iadd, 1) := by decide +kernel
theorem dX7_comes_138 : decode cX7_comes 138 = .ok (.iaload, 1) := by decide +kernel
theorem dX7_comes_139 : decode cX7_comes 139 = .ok (.iastore, 1) := by decide +kernel
theorem dX7_comes_140 : decode cX7_comes 140 = .ok (.iconst 1, 1) := by decide +kernel
theorem dX7_comes_141 : decode cX7_comes 141 = .ok (.ireturn, 1) := by decide +kernel
theorem dX7_comes_142 : decode cX7_comes 142 = .ok (.aload_n 0, 1) := by decide +kernel
theorem dX7_comes_143 : decode cX7_comes 143 = .ok (.aload_n 0, 1) := by decide +kernel
theorem dX7_comes_144 : decode cX7_comes 144 = .ok (.getfield 44, 3) := by decide +kernel
theorem dX7_comes_147 : decode cX7_comes 147 = .ok (.iload_n 2, 1) := by decide +kernel
theorem dX7_comes_148 : decode cX7_comes 148 = .ok (.iaload, 1) := by decide +kernel
theorem dX7_comes_149 : decode cX7_comes 149 = .ok (.invokevirtual 120, 3) := by decide +kernel
theorem dX7_comes_152 : decode cX7_comes 152 = .ok (.ifCond .ne 5, 3) := by decide +kernel
theorem dX7_comes_155 : decode cX7_comes 155 = .ok (.iconst 0, 1) := by decide +kernel
theorem dX7_comes_156 : decode cX7_comes 156 = .ok (.ireturn, 1) := by decide +kernel
theorem dX7_comes_157 : decode cX7_comes 157 = .ok (.aload_n 0, 1) := by decide +kernel
theorem dX7_comes_158 : decode cX7_comes 158 = .ok (.getfield 25, 3) := by decide +kernel
theorem dX7_comes_161 : decode cX7_comes 161 = .ok (.aload_n 0, 1) := by decide +kernel
theorem dX7_comes_162 : decode cX7_comes 162 = .ok (.getfield 44, 3) := by decide +kernel
theorem dX7_comes_165 : decode cX7_comes 165 = .ok (.iload_n 2, 1) := by decide +kernel
theorem dX7_comes_166 : decode cX7_comes 166 = .ok (.iaload, 1) := by decide +kernel
theorem dX7_comes_167 : decode cX7_comes 167 = .ok (.aload_n 0, 1) := by decide +kernel
theorem dX7_comes_168 : decode cX7_comes 168 = .ok (.getfield 44, 3) := by decide +kernel
theorem dX7_comes_171 : decode cX7_comes 171 = .ok (.iload_n 2, 1) := by decide +kernel
theorem dX7_comes_172 : decode cX7_comes 172 = .ok (.iconst 1, 1) := by decide +kernel
theorem dX7_comes_173 : decode cX7_comes 173 = .ok (.iadd, 1) := by decide +kernel
theorem dX7_comes_174 : decode cX7_comes 174 = .ok (.iaload, 1) := by decide +kernel
theorem dX7_comes_175 : decode cX7_comes 175 = .ok (.iastore, 1) := by decide +kernel
theorem dX7_comes_176 : decode cX7_comes 176 = .ok (.iconst 1, 1) := by decide +kernel
theorem dX7_comes_177 : decode cX7_comes 177 = .ok (.ireturn, 1) := by decide +kernel
theorem dX7_comes_178 : decode cX7_comes 178 = .ok (.aload_n 0, 1) := by decide +kernel
theorem dX7_comes_179 : decode cX7_comes 179 = .ok (.aload_n 0, 1) := by decide +kernel
theorem dX7_comes_180 : decode cX7_comes 180 = .ok (.getfield 44, 3) := by decide +kernel
theorem dX7_comes_183 : decode cX7_comes 183 = .ok (.iload_n 2, 1) := by decide +kernel
theorem dX7_comes_184 : decode cX7_comes 184 = .ok (.iaload, 1) := by decide +kernel
theorem dX7_comes_185 : decode cX7_comes 185 = .ok (.putfield 56, 3) := by decide +kernel
theorem dX7_comes_188 : decode cX7_comes 188 = .ok (.aload_n 0, 1) := by decide +kernel
theorem dX7_comes_189 : decode cX7_comes 189 = .ok (.getfield 56, 3) := by decide +kernel
theorem dX7_comes_192 : decode cX7_comes 192 = .ok (.iconst 1, 1) := by decide +kernel
theorem dX7_comes_193 : decode cX7_comes 193 = .ok (.bipush 8, 2) := by decide +kernel
theorem dX7_comes_195 : decode cX7_comes 195 = .ok (.invokestatic 86, 3) := by decide +kernel
theorem dX7_comes_198 : decode cX7_comes 198 = .ok (.ireturn, 1) := by decide +kernel
theorem dX7_comes_199 : decode cX7_comes 199 = .ok (.aload_n 0, 1) := by decide +kernel
theorem dX7_comes_200 : decode cX7_comes 200 = .ok (.aload_n 0, 1) := by decide +kernel
theorem dX7_comes_201 : decode cX7_comes 201 = .ok (.getfield 44, 3) := by decide +kernel
theorem dX7_comes_204 : decode cX7_comes 204 = .ok (.iload_n 2, 1) := by decide +kernel
theorem dX7_comes_205 : decode cX7_comes 205 = .ok (.iaload, 1) := by decide +kernel
theorem dX7_comes_206 : decode cX7_comes 206 = .ok (.invokevirtual 123, 3) := by decide +kernel
theorem dX7_comes_209 : decode cX7_comes 209 = .ok (.ireturn, 1) := by decide +kernel
set_option maxRecDepth 20000 in
theorem ggX7_town_X7_statement : GoodIn wsX7_town wsX7_statement := goodIn_r _ [9, 10, 2, 4, 1, 11, 12, 13, 8, 14, 3, 15, 16, 17, 18, 19, 20, 21, 22, 23, 24, 25, 26, 27, 28, 29, 30, 31, 32, 33, 34, 95, 96, 97, 98, 99, 100, 101, 102, 103, 104, 105, 106, 107, 108, 109, 110, 111, 112, 113, 114, 115, 116, 117, 118, 119, 120] (by decide +kernel) (by decide +kernel)
set_option maxRecDepth 20000 in
theorem gX7_town_X7_statement : GoodIn wsX7_town (wsV RX7 126 RX7 yX7_statement wsX7_statement) := goodIn_app (goodIn_of _ (by decide +kernel)) ggX7_town_X7_statement
set_option maxRecDepth 20000 in
theorem ggX7_town_X7_passesAll : GoodIn wsX7_town wsX7_passesAll := goodIn_r _ [38, 39, 40, 41, 42, 43, 44, 45, 46, 47, 48, 49, 50, 51, 52, 53, 8, 54, 55, 56, 57, 58, 59, 95, 96, 97, 98, 99, 100, 101, 102, 103, 104, 105, 106, 107, 108, 109, 110, 111, 112, 113, 114, 115, 116, 117, 118, 119, 120] (by decide +kernel) (by decide +kernel)
set_option maxRecDepth 20000 in
theorem gX7_town_X7_passesAll : GoodIn wsX7_town (wsV RX7 130 RX7 yX7_passesAll wsX7_passesAll) := goodIn_app (goodIn_of _ (by decide +kernel)) ggX7_town_X7_passesAll
set_option maxRecDepth 20000 in
theorem ggX7_town_X7_comes : GoodIn wsX7_town wsX7_comes := goodIn_r _ [63, 10, 24, 46, 45, 50, 64, 65, 66, 8, 67, 47, 41, 42, 68, 69, 70, 71, 48, 43, 44, 72, 73, 74, 75, 25, 26, 27, 76, 77, 78, 79, 49, 80, 81, 82, 83, 84, 85, 86, 87, 88, 89, 90, 91, 92, 93, 94, 95, 96, 97, 98, 99, 100, 101, 102, 103, 104, 105, 106, 107, 108, 109, 110, 111, 112, 113, 114, 115, 116, 117, 118, 119, 120] (by decide +kernel) (by decide +kernel)
set_option maxRecDepth 20000 in
theorem gX7_town_X7_comes : GoodIn wsX7_town (wsV RX7 134 RX7 yX7_comes wsX7_comes) := goodIn_app (goodIn_of _ (by decide +kernel)) ggX7_town_X7_comes
theorem dX7_town_0 : decode cX7_town 0 = .ok (.aload_n 0, 1) := by decide +kernel
theorem dX7_town_1 : decode cX7_town 1 = .ok (.iconst 0, 1) := by decide +kernel
theorem dX7_town_2 : decode cX7_town 2 = .ok (.putfield 79, 3) := by decide +kernel
theorem dX7_town_5 : decode cX7_town 5 = .ok (.aload_n 0, 1) := by decide +kernel
theorem dX7_town_6 : decode cX7_town 6 = .ok (.iconst 0, 1) := by decide +kernel
theorem dX7_town_7 : decode cX7_town 7 = .ok (.putfield 101, 3) := by decide +kernel
theorem dX7_town_10 : decode cX7_town 10 = .ok (.iconst 1, 1) := by decide +kernel
theorem dX7_town_11 : decode cX7_town 11 = .ok (.istore_n 1, 1) := by decide +kernel
theorem dX7_town_12 : decode cX7_town 12 = .ok (.iload_n 1, 1) := by decide +kernel
theorem dX7_town_13 : decode cX7_town 13 = .ok (.ifCond .eq 47, 3) := by decide +kernel
theorem dX7_town_16 : decode cX7_town 16 = .ok (.aload_n 0, 1) := by decide +kernel
theorem dX7_town_17 : decode cX7_town 17 = .ok (.getfield 79, 3) := by decide +kernel
theorem dX7_town_20 : decode cX7_town 20 = .ok (.aload_n 0, 1) := by decide +kernel
theorem dX7_town_21 : decode cX7_town 21 = .ok (.getfield 72, 3) := by decide +kernel
theorem dX7_town_24 : decode cX7_town 24 = .ok (.if_icmp .lt 10, 3) := by decide +kernel
theorem dX7_town_27 : decode cX7_town 27 = .ok (.aload_n 0, 1) := by decide +kernel
theorem dX7_town_28 : decode cX7_town 28 = .ok (.getfield 101, 3) := by decide +kernel
theorem dX7_town_31 : decode cX7_town 31 = .ok (.ifCond .ne 29, 3) := by decide +kernel
theorem dX7_town_34 : decode cX7_town 34 = .ok (.aload_n 0, 1) := by decide +kernel
theorem dX7_town_35 : decode cX7_town 35 = .ok (.invokevirtual 126, 3) := by decide +kernel
theorem dX7_town_38 : decode cX7_town 38 = .ok (.istore_n 1, 1) := by decide +kernel
theorem dX7_town_39 : decode cX7_town 39 = .ok (.aload_n 0, 1) := by decide +kernel
theorem dX7_town_40 : decode cX7_town 40 = .ok (.dup, 1) := by decide +kernel
theorem dX7_town_41 : decode cX7_town 41 = .ok (.getfield 101, 3) := by decide +kernel
theorem dX7_town_44 : decode cX7_town 44 = .ok (.iload_n 1, 1) := by decide +kernel
theorem dX7_town_45 : decode cX7_town 45 = .ok (.ifCond .eq 7, 3) := by decide +kernel
theorem dX7_town_48 : decode cX7_town 48 = .ok (.iconst 1, 1) := by decide +kernel
theorem dX7_town_49 : decode cX7_town 49 = .ok (.goto 4, 3) := by decide +kernel
theorem dX7_town_52 : decode cX7_town 52 = .ok (.iconst 0, 1) := by decide +kernel
theorem dX7_town_53 : decode cX7_town 53 = .ok (.iadd, 1) := by decide +kernel
theorem dX7_town_54 : decode cX7_town 54 = .ok (.putfield 101, 3) := by decide +kernel
theorem dX7_town_57 : decode cX7_town 57 = .ok (.goto (-45), 3) := by decide +kernel
theorem dX7_town_60 : decode cX7_town 60 = .ok (.aload_n 0, 1) := by decide +kernel
theorem dX7_town_61 : decode cX7_town 61 = .ok (.iconst 0, 1) := by decide +kernel
theorem dX7_town_62 : decode cX7_town 62 = .ok (.putfield 72, 3) := by decide +kernel
theorem dX7_town_65 : decode cX7_town 65 = .ok (.iload_n 1, 1) := by decide +kernel
theorem dX7_town_66 : decode cX7_town 66 = .ok (.ifCond .ne 12, 3) := by decide +kernel
theorem dX7_town_69 : decode cX7_town 69 = .ok (.sipush (-1000), 3) := by decide +kernel
theorem dX7_town_72 : decode cX7_town 72 = .ok (.aload_n 0, 1) := by decide +kernel
theorem dX7_town_73 : decode cX7_town 73 = .ok (.getfield 79, 3) := by decide +kernel
theorem dX7_town_76 : decode cX7_town 76 = .ok (.isub, 1) := by decide +kernel
theorem dX7_town_77 : decode cX7_town 77 = .ok (.ireturn, 1) := by decide +kernel
theorem dX7_town_78 : decode cX7_town 78 = .ok (.aload_n 0, 1) := by decide +kernel
theorem dX7_town_79 : decode cX7_town 79 = .ok (.iconst 1, 1) := by decide +kernel
theorem dX7_town_80 : decode cX7_town 80 = .ok (.iconst 1, 1) := by decide +kernel
theorem dX7_town_81 : decode cX7_town 81 = .ok (.invokevirtual 130, 3) := by decide +kernel
theorem dX7_town_84 : decode cX7_town 84 = .ok (.iconst 0, 1) := by decide +kernel
theorem dX7_town_85 : decode cX7_town 85 = .ok (.istore_n 2, 1) := by decide +kernel
theorem dX7_town_86 : decode cX7_town 86 = .ok (.iload_n 2, 1) := by decide +kernel
theorem dX7_town_87 : decode cX7_town 87 = .ok (.aload_n 0, 1) := by decide +kernel
theorem dX7_town_88 : decode cX7_town 88 = .ok (.getfield 101, 3) := by decide +kernel
theorem dX7_town_91 : decode cX7_town 91 = .ok (.if_icmp .ge 37, 3) := by decide +kernel
theorem dX7_town_94 : decode cX7_town 94 = .ok (.aload_n 0, 1) := by decide +kernel
theorem dX7_town_95 : decode cX7_town 95 = .ok (.iload_n 2, 1) := by decide +kernel
theorem dX7_town_96 : decode cX7_town 96 = .ok (.invokevirtual 134, 3) := by decide +kernel
theorem dX7_town_99 : decode cX7_town 99 = .ok (.ifCond .eq 6, 3) := by decide +kernel
theorem dX7_town_102 : decode cX7_town 102 = .ok (.goto 20, 3) := by decide +kernel
theorem dX7_town_105 : decode cX7_town 105 = .ok (.aload_n 0, 1) := by decide +kernel
theorem dX7_town_106 : decode cX7_town 106 = .ok (.iconst 1, 1) := by decide +kernel
theorem dX7_town_107 : decode cX7_town 107 = .ok (.iconst 0, 1) := by decide +kernel
theorem dX7_town_108 : decode cX7_town 108 = .ok (.invokevirtual 130, 3) := by decide +kernel
theorem dX7_town_111 : decode cX7_town 111 = .ok (.sipush (-2000), 3) := by decide +kernel
theorem dX7_town_114 : decode cX7_town 114 = .ok (.aload_n 0, 1) := by decide +kernel
theorem dX7_town_115 : decode cX7_town 115 = .ok (.getfield 41, 3) := by decide +kernel
theorem dX7_town_118 : decode cX7_town 118 = .ok (.iload_n 2, 1) := by decide +kernel
theorem dX7_town_119 : decode cX7_town 119 = .ok (.iaload, 1) := by decide +kernel
theorem dX7_town_120 : decode cX7_town 120 = .ok (.isub, 1) := by decide +kernel
theorem dX7_town_121 : decode cX7_town 121 = .ok (.ireturn, 1) := by decide +kernel
theorem dX7_town_122 : decode cX7_town 122 = .ok (.iinc 2 1, 3) := by decide +kernel
theorem dX7_town_125 : decode cX7_town 125 = .ok (.goto (-39), 3) := by decide +kernel
theorem dX7_town_128 : decode cX7_town 128 = .ok (.aload_n 0, 1) := by decide +kernel
theorem dX7_town_129 : decode cX7_town 129 = .ok (.getfield 101, 3) := by decide +kernel
theorem dX7_town_132 : decode cX7_town 132 = .ok (.ireturn, 1) := by decide +kernel
theorem dX7_passes_0 : decode cX7_passes 0 = .ok (.iconst 0, 1) := by decide +kernel
theorem dX7_passes_1 : decode cX7_passes 1 = .ok (.istore_n 2, 1) := by decide +kernel
theorem dX7_passes_2 : decode cX7_passes 2 = .ok (.iload_n 2, 1) := by decide +kernel
theorem dX7_passes_3 : decode cX7_passes 3 = .ok (.aload_n 1, 1) := by decide +kernel
theorem dX7_passes_4 : decode cX7_passes 4 = .ok (.arraylength, 1) := by decide +kernel
theorem dX7_passes_5 : decode cX7_passes 5 = .ok (.if_icmp .ge 53, 3) := by decide +kernel
theorem dX7_passes_8 : decode cX7_passes 8 = .ok (.aload_n 0, 1) := by decide +kernel
theorem dX7_passes_9 : decode cX7_passes 9 = .ok (.getfield 137, 3) := by decide +kernel
theorem dX7_passes_12 : decode cX7_passes 12 = .ok (.ifCond .eq 18, 3) := by decide +kernel
theorem dX7_passes_15 : decode cX7_passes 15 = .ok (.aload_n 0, 1) := by decide +kernel
theorem dX7_passes_16 : decode cX7_passes 16 = .ok (.getfield 47, 3) := by decide +kernel
theorem dX7_passes_19 : decode cX7_passes 19 = .ok (.aload_n 0, 1) := by decide +kernel
theorem dX7_passes_20 : decode cX7_passes 20 = .ok (.getfield 141, 3) := by decide +kernel
theorem dX7_passes_23 : decode cX7_passes 23 = .ok (.aload_n 1, 1) := by decide +kernel
theorem dX7_passes_24 : decode cX7_passes 24 = .ok (.iload_n 2, 1) := by decide +kernel
theorem dX7_passes_25 : decode cX7_passes 25 = .ok (.iaload, 1) := by decide +kernel
theorem dX7_passes_26 : decode cX7_passes 26 = .ok (.iastore, 1) := by decide +kernel
theorem dX7_passes_27 : decode cX7_passes 27 = .ok (.goto 15, 3) := by decide +kernel
theorem dX7_passes_30 : decode cX7_passes 30 = .ok (.aload_n 1, 1) := by decide +kernel
theorem dX7_passes_31 : decode cX7_passes 31 = .ok (.iload_n 2, 1) := by decide +kernel
theorem dX7_passes_32 : decode cX7_passes 32 = .ok (.aload_n 0, 1) := by decide +kernel
theorem dX7_passes_33 : decode cX7_passes 33 = .ok (.getfield 47, 3) := by decide +kernel
theorem dX7_passes_36 : decode cX7_passes 36 = .ok (.aload_n 0, 1) := by decide +kernel
theorem dX7_passes_37 : decode cX7_passes 37 = .ok (.getfield 141, 3) := by decide +kernel
theorem dX7_passes_40 : decode cX7_passes 40 = .ok (.iaload, 1) := by decide +kernel
theorem dX7_passes_41 : decode cX7_passes 41 = .ok (.iastore, 1) := by decide +kernel
theorem dX7_passes_42 : decode cX7_passes 42 = .ok (.aload_n 0, 1) := by decide +kernel
theorem dX7_passes_43 : decode cX7_passes 43 = .ok (.dup, 1) := by decide +kernel
theorem dX7_passes_44 : decode cX7_passes 44 = .ok (.getfield 141, 3) := by decide +kernel
theorem dX7_passes_47 : decode cX7_passes 47 = .ok (.iconst 1, 1) := by decide +kernel
theorem dX7_passes_48 : decode cX7_passes 48 = .ok (.iadd, 1) := by decide +kernel
theorem dX7_passes_49 : decode cX7_passes 49 = .ok (.putfield 141, 3) := by decide +kernel
theorem dX7_passes_52 : decode cX7_passes 52 = .ok (.iinc 2 1, 3) := by decide +kernel
theorem dX7_passes_55 : decode cX7_passes 55 = .ok (.goto (-53), 3) := by decide +kernel
theorem dX7_passes_58 : decode cX7_passes 58 = .ok (.return_, 1) := by decide +kernel
theorem dX7_passOne_0 : decode cX7_passOne 0 = .ok (.aload_n 0, 1) := by decide +kernel
theorem dX7_passOne_1 : decode cX7_passOne 1 = .ok (.getfield 137, 3) := by decide +kernel
theorem dX7_passOne_4 : decode cX7_passOne 4 = .ok (.ifCond .eq 7, 3) := by decide +kernel
theorem dX7_passOne_7 : decode cX7_passOne 7 = .ok (.iload_n 1, 1) := by decide +kernel
theorem dX7_passOne_8 : decode cX7_passOne 8 = .ok (.goto 12, 3) := by decide +kernel
theorem dX7_passOne_11 : decode cX7_passOne 11 = .ok (.aload_n 0, 1) := by decide +kernel
theorem dX7_passOne_12 : decode cX7_passOne 12 = .ok (.getfield 47, 3) := by decide +kernel
theorem dX7_passOne_15 : decode cX7_passOne 15 = .ok (.aload_n 0, 1) := by decide +kernel
theorem dX7_passOne_16 : decode cX7_passOne 16 = .ok (.getfield 141, 3) := by decide +kernel
theorem dX7_passOne_19 : decode cX7_passOne 19 = .ok (.iaload, 1) := by decide +kernel
theorem dX7_passOne_20 : decode cX7_passOne 20 = .ok (.istore_n 2, 1) := by decide +kernel
theorem dX7_passOne_21 : decode cX7_passOne 21 = .ok (.aload_n 0, 1) := by decide +kernel
theorem dX7_passOne_22 : decode cX7_passOne 22 = .ok (.getfield 137, 3) := by decide +kernel
theorem dX7_passOne_25 : decode cX7_passOne 25 = .ok (.ifCond .eq 13, 3) := by decide +kernel
theorem dX7_passOne_28 : decode cX7_passOne 28 = .ok (.aload_n 0, 1) := by decide +kernel
theorem dX7_passOne_29 : decode cX7_passOne 29 = .ok (.getfield 47, 3) := by decide +kernel
theorem dX7_passOne_32 : decode cX7_passOne 32 = .ok (.aload_n 0, 1) := by decide +kernel
theorem dX7_passOne_33 : decode cX7_passOne 33 = .ok (.getfield 141, 3) := by decide +kernel
theorem dX7_passOne_36 : decode cX7_passOne 36 = .ok (.iload_n 1, 1) := by decide +kernel
theorem dX7_passOne_37 : decode cX7_passOne 37 = .ok (.iastore, 1) := by decide +kernel
theorem dX7_passOne_38 : decode cX7_passOne 38 = .ok (.aload_n 0, 1) := by decide +kernel
theorem dX7_passOne_39 : decode cX7_passOne 39 = .ok (.dup, 1) := by decide +kernel
theorem dX7_passOne_40 : decode cX7_passOne 40 = .ok (.getfield 141, 3) := by decide +kernel
theorem dX7_passOne_43 : decode cX7_passOne 43 = .ok (.iconst 1, 1) := by decide +kernel
theorem dX7_passOne_44 : decode cX7_passOne 44 = .ok (.iadd, 1) := by decide +kernel
theorem dX7_passOne_45 : decode cX7_passOne 45 = .ok (.putfield 141, 3) := by decide +kernel
theorem dX7_passOne_48 : decode cX7_passOne 48 = .ok (.iload_n 2, 1) := by decide +kernel
theorem dX7_passOne_49 : decode cX7_passOne 49 = .ok (.ireturn, 1) := by decide +kernel
set_option maxRecDepth 20000 in
theorem ggX7_passesAll_X7_passes : GoodIn wsX7_passesAll wsX7_passes := goodIn_r _ [17, 2, 18, 1, 23, 24, 25, 26, 27, 28, 29, 30, 31, 32, 33, 34, 35, 36, 37, 38, 39, 40, 41, 42, 43, 44, 45, 46, 47, 48] (by decide +kernel) (by decide +kernel)
set_option maxRecDepth 20000 in
theorem gX7_passesAll_X7_passes : GoodIn wsX7_passesAll (wsV RX7 144 RX7 yX7_passes wsX7_passes) := goodIn_app (goodIn_of _ (by decide +kernel)) ggX7_passesAll_X7_passes
set_option maxRecDepth 20000 in
theorem ggX7_passesAll_X7_passOne : GoodIn wsX7_passesAll wsX7_passOne := goodIn_r _ [22, 2, 18, 1, 23, 24, 25, 26, 27, 28, 29, 30, 31, 32, 33, 34, 35, 36, 37, 38, 39, 40, 41, 42, 43, 44, 45, 46, 47, 48] (by decide +kernel) (by decide +kernel)
set_option maxRecDepth 20000 in
theorem gX7_passesAll_X7_passOne : GoodIn wsX7_passesAll (wsV RX7 148 RX7 yX7_passOne wsX7_passOne) := goodIn_app (goodIn_of _ (by decide +kernel)) ggX7_passesAll_X7_passOne
theorem dX7_passesAll_0 : decode cX7_passesAll 0 = .ok (.aload_n 0, 1) := by decide +kernel
theorem dX7_passesAll_1 : decode cX7_passesAll 1 = .ok (.bipush 48, 2) := by decide +kernel
theorem dX7_passesAll_3 : decode cX7_passesAll 3 = .ok (.iload_n 1, 1) := by decide +kernel
theorem dX7_passesAll_4 : decode cX7_passesAll 4 = .ok (.imul, 1) := by decide +kernel
theorem dX7_passesAll_5 : decode cX7_passesAll 5 = .ok (.putfield 141, 3) := by decide +kernel
theorem dX7_passesAll_8 : decode cX7_passesAll 8 = .ok (.aload_n 0, 1) := by decide +kernel
theorem dX7_passesAll_9 : decode cX7_passesAll 9 = .ok (.iload_n 2, 1) := by decide +kernel
theorem dX7_passesAll_10 : decode cX7_passesAll 10 = .ok (.putfield 137, 3) := by decide +kernel
theorem dX7_passesAll_13 : decode cX7_passesAll 13 = .ok (.aload_n 0, 1) := by decide +kernel
theorem dX7_passesAll_14 : decode cX7_passesAll 14 = .ok (.aload_n 0, 1) := by decide +kernel
theorem dX7_passesAll_15 : decode cX7_passesAll 15 = .ok (.getfield 13, 3) := by decide +kernel
theorem dX7_passesAll_18 : decode cX7_passesAll 18 = .ok (.invokevirtual 144, 3) := by decide +kernel
theorem dX7_passesAll_21 : decode cX7_passesAll 21 = .ok (.aload_n 0, 1) := by decide +kernel
theorem dX7_passesAll_22 : decode cX7_passesAll 22 = .ok (.aload_n 0, 1) := by decide +kernel
theorem dX7_passesAll_23 : decode cX7_passesAll 23 = .ok (.getfield 16, 3) := by decide +kernel
theorem dX7_passesAll_26 : decode cX7_passesAll 26 = .ok (.invokevirtual 144, 3) := by decide +kernel
theorem dX7_passesAll_29 : decode cX7_passesAll 29 = .ok (.aload_n 0, 1) := by decide +kernel
theorem dX7_passesAll_30 : decode cX7_passesAll 30 = .ok (.aload_n 0, 1) := by decide +kernel
theorem dX7_passesAll_31 : decode cX7_passesAll 31 = .ok (.getfield 19, 3) := by decide +kernel
theorem dX7_passesAll_34 : decode cX7_passesAll 34 = .ok (.invokevirtual 144, 3) := by decide +kernel
theorem dX7_passesAll_37 : decode cX7_passesAll 37 = .ok (.aload_n 0, 1) := by decide +kernel
theorem dX7_passesAll_38 : decode cX7_passesAll 38 = .ok (.aload_n 0, 1) := by decide +kernel
theorem dX7_passesAll_39 : decode cX7_passesAll 39 = .ok (.getfield 22, 3) := by decide +kernel
theorem dX7_passesAll_42 : decode cX7_passesAll 42 = .ok (.invokevirtual 144, 3) := by decide +kernel
theorem dX7_passesAll_45 : decode cX7_passesAll 45 = .ok (.aload_n 0, 1) := by decide +kernel
theorem dX7_passesAll_46 : decode cX7_passesAll 46 = .ok (.aload_n 0, 1) := by decide +kernel
theorem dX7_passesAll_47 : decode cX7_passesAll 47 = .ok (.getfield 25, 3) := by decide +kernel
theorem dX7_passesAll_50 : decode cX7_passesAll 50 = .ok (.invokevirtual 144, 3) := by decide +kernel
theorem dX7_passesAll_53 : decode cX7_passesAll 53 = .ok (.aload_n 0, 1) := by decide +kernel
theorem dX7_passesAll_54 : decode cX7_passesAll 54 = .ok (.aload_n 0, 1) := by decide +kernel
theorem dX7_passesAll_55 : decode cX7_passesAll 55 = .ok (.getfield 28, 3) := by decide +kernel
theorem dX7_passesAll_58 : decode cX7_passesAll 58 = .ok (.invokevirtual 144, 3) := by decide +kernel
theorem dX7_passesAll_61 : decode cX7_passesAll 61 = .ok (.aload_n 0, 1) := by decide +kernel
theorem dX7_passesAll_62 : decode cX7_passesAll 62 = .ok (.aload_n 0, 1) := by decide +kernel
theorem dX7_passesAll_63 : decode cX7_passesAll 63 = .ok (.aload_n 0, 1) := by decide +kernel
theorem dX7_passesAll_64 : decode cX7_passesAll 64 = .ok (.getfield 62, 3) := by decide +kernel
theorem dX7_passesAll_67 : decode cX7_passesAll 67 = .ok (.invokevirtual 148, 3) := by decide +kernel
theorem dX7_passesAll_70 : decode cX7_passesAll 70 = .ok (.putfield 62, 3) := by decide +kernel
theorem dX7_passesAll_73 : decode cX7_passesAll 73 = .ok (.aload_n 0, 1) := by decide +kernel
theorem dX7_passesAll_74 : decode cX7_passesAll 74 = .ok (.aload_n 0, 1) := by decide +kernel
theorem dX7_passesAll_75 : decode cX7_passesAll 75 = .ok (.aload_n 0, 1) := by decide +kernel
theorem dX7_passesAll_76 : decode cX7_passesAll 76 = .ok (.getfield 65, 3) := by decide +kernel
theorem dX7_passesAll_79 : decode cX7_passesAll 79 = .ok (.invokevirtual 148, 3) := by decide +kernel
theorem dX7_passesAll_82 : decode cX7_passesAll 82 = .ok (.putfield 65, 3) := by decide +kernel
theorem dX7_passesAll_85 : decode cX7_passesAll 85 = .ok (.aload_n 0, 1) := by decide +kernel
theorem dX7_passesAll_86 : decode cX7_passesAll 86 = .ok (.aload_n 0, 1) := by decide +kernel
theorem dX7_passesAll_87 : decode cX7_passesAll 87 = .ok (.aload_n 0, 1) := by decide +kernel
theorem dX7_passesAll_88 : decode cX7_passesAll 88 = .ok (.getfield 107, 3) := by decide +kernel
theorem dX7_passesAll_91 : decode cX7_passesAll 91 = .ok (.invokevirtual 148, 3) := by decide +kernel
theorem dX7_passesAll_94 : decode cX7_passesAll 94 = .ok (.putfield 107, 3) := by decide +kernel
theorem dX7_passesAll_97 : decode cX7_passesAll 97 = .ok (.aload_n 0, 1) := by decide +kernel
theorem dX7_passesAll_98 : decode cX7_passesAll 98 = .ok (.aload_n 0, 1) := by decide +kernel
theorem dX7_passesAll_99 : decode cX7_passesAll 99 = .ok (.aload_n 0, 1) := by decide +kernel
theorem dX7_passesAll_100 : decode cX7_passesAll 100 = .ok (.getfield 56, 3) := by decide +kernel
theorem dX7_passesAll_103 : decode cX7_passesAll 103 = .ok (.invokevirtual 148, 3) := by decide +kernel
theorem dX7_passesAll_106 : decode cX7_passesAll 106 = .ok (.putfield 56, 3) := by decide +kernel
theorem dX7_passesAll_109 : decode cX7_passesAll 109 = .ok (.return_, 1) := by decide +kernel
set_option maxRecDepth 20000 in
theorem ggX7_thinks_X7_passesAll : GoodIn wsX7_thinks wsX7_passesAll := goodIn_r _ [5, 6, 7, 8, 9, 10, 11, 12, 13, 14, 15, 16, 17, 18, 19, 20, 4, 21, 22, 23, 24, 25, 26, 27, 28, 29, 30, 31, 32, 33, 34, 35, 36, 37, 38, 39, 40, 41, 42, 43, 44, 45, 46, 47, 48, 49, 50, 51, 52] (by decide +kernel) (by decide +kernel)
set_option maxRecDepth 20000 in
theorem gX7_thinks_X7_passesAll : GoodIn wsX7_thinks (wsV RX7 130 RX7 yX7_passesAll wsX7_passesAll) := goodIn_app (goodIn_of _ (by decide +kernel)) ggX7_thinks_X7_passesAll
theorem dX7_thinks_0 : decode cX7_thinks 0 = .ok (.aload_n 0, 1) := by decide +kernel
theorem dX7_thinks_1 : decode cX7_thinks 1 = .ok (.iconst 2, 1) := by decide +kernel
theorem dX7_thinks_2 : decode cX7_thinks 2 = .ok (.iconst 1, 1) := by decide +kernel
theorem dX7_thinks_3 : decode cX7_thinks 3 = .ok (.invokevirtual 130, 3) := by decide +kernel
theorem dX7_thinks_6 : decode cX7_thinks 6 = .ok (.return_, 1) := by decide +kernel
set_option maxRecDepth 20000 in
theorem ggX7_forgets_X7_passesAll : GoodIn wsX7_forgets wsX7_passesAll := goodIn_r _ [5, 6, 7, 8, 9, 10, 11, 12, 13, 14, 15, 16, 17, 18, 19, 20, 4, 21, 22, 23, 24, 25, 26, 27, 28, 29, 30, 31, 32, 33, 34, 35, 36, 37, 38, 39, 40, 41, 42, 43, 44, 45, 46, 47, 48, 49, 50, 51, 52] (by decide +kernel) (by decide +kernel)
set_option maxRecDepth 20000 in
theorem gX7_forgets_X7_passesAll : GoodIn wsX7_forgets (wsV RX7 130 RX7 yX7_passesAll wsX7_passesAll) := goodIn_app (goodIn_of _ (by decide +kernel)) ggX7_forgets_X7_passesAll
theorem dX7_forgets_0 : decode cX7_forgets 0 = .ok (.aload_n 0, 1) := by decide +kernel
theorem dX7_forgets_1 : decode cX7_forgets 1 = .ok (.iconst 2, 1) := by decide +kernel
theorem dX7_forgets_2 : decode cX7_forgets 2 = .ok (.iconst 0, 1) := by decide +kernel
theorem dX7_forgets_3 : decode cX7_forgets 3 = .ok (.invokevirtual 130, 3) := by decide +kernel
theorem dX7_forgets_6 : decode cX7_forgets 6 = .ok (.return_, 1) := by decide +kernel
set_option maxRecDepth 20000 in
theorem ggX7_changes_X7_passesAll : GoodIn wsX7_changes wsX7_passesAll := goodIn_r _ [5, 6, 7, 8, 9, 10, 11, 12, 13, 14, 15, 16, 17, 18, 19, 20, 4, 21, 22, 23, 24, 25, 26, 27, 28, 29, 30, 31, 32, 33, 34, 35, 36, 37, 38, 39, 40, 41, 42, 43, 44, 45, 46, 47, 48, 49, 50, 51, 52] (by decide +kernel) (by decide +kernel)
set_option maxRecDepth 20000 in
theorem gX7_changes_X7_passesAll : GoodIn wsX7_changes (wsV RX7 130 RX7 yX7_passesAll wsX7_passesAll) := goodIn_app (goodIn_of _ (by decide +kernel)) ggX7_changes_X7_passesAll
theorem dX7_changes_0 : decode cX7_changes 0 = .ok (.aload_n 0, 1) := by decide +kernel
theorem dX7_changes_1 : decode cX7_changes 1 = .ok (.iconst 1, 1) := by decide +kernel
theorem dX7_changes_2 : decode cX7_changes 2 = .ok (.iconst 1, 1) := by decide +kernel
theorem dX7_changes_3 : decode cX7_changes 3 = .ok (.invokevirtual 130, 3) := by decide +kernel
theorem dX7_changes_6 : decode cX7_changes 6 = .ok (.return_, 1) := by decide +kernel
set_option maxRecDepth 20000 in
theorem ggX7_changesBack_X7_passesAll : GoodIn wsX7_changesBack wsX7_passesAll := goodIn_r _ [5, 6, 7, 8, 9, 10, 11, 12, 13, 14, 15, 16, 17, 18, 19, 20, 4, 21, 22, 23, 24, 25, 26, 27, 28, 29, 30, 31, 32, 33, 34, 35, 36, 37, 38, 39, 40, 41, 42, 43, 44, 45, 46, 47, 48, 49, 50, 51, 52] (by decide +kernel) (by decide +kernel)
set_option maxRecDepth 20000 in
theorem gX7_changesBack_X7_passesAll : GoodIn wsX7_changesBack (wsV RX7 130 RX7 yX7_passesAll wsX7_passesAll) := goodIn_app (goodIn_of _ (by decide +kernel)) ggX7_changesBack_X7_passesAll
theorem dX7_changesBack_0 : decode cX7_changesBack 0 = .ok (.aload_n 0, 1) := by decide +kernel
theorem dX7_changesBack_1 : decode cX7_changesBack 1 = .ok (.iconst 1, 1) := by decide +kernel
theorem dX7_changesBack_2 : decode cX7_changesBack 2 = .ok (.iconst 0, 1) := by decide +kernel
theorem dX7_changesBack_3 : decode cX7_changesBack 3 = .ok (.invokevirtual 130, 3) := by decide +kernel
theorem dX7_changesBack_6 : decode cX7_changesBack 6 = .ok (.return_, 1) := by decide +kernel
set_option maxRecDepth 20000 in
theorem ggX7_image_X7_passesAll : GoodIn wsX7_image wsX7_passesAll := goodIn_r _ [7, 8, 9, 10, 11, 12, 13, 14, 15, 16, 17, 2, 18, 19, 20, 21, 6, 22, 23, 24, 25, 26, 27, 28, 29, 30, 31, 32, 33, 34, 35, 36, 37, 38, 39, 40, 41, 42, 43, 44, 45, 46, 47, 48, 49, 50, 51, 52, 53] (by decide +kernel) (by decide +kernel)
set_option maxRecDepth 20000 in
theorem gX7_image_X7_passesAll : GoodIn wsX7_image (wsV RX7 130 RX7 yX7_passesAll wsX7_passesAll) := goodIn_app (goodIn_of _ (by decide +kernel)) ggX7_image_X7_passesAll
theorem dX7_image_0 : decode cX7_image 0 = .ok (.aload_n 0, 1) := by decide +kernel
theorem dX7_image_1 : decode cX7_image 1 = .ok (.iconst 1, 1) := by decide +kernel
theorem dX7_image_2 : decode cX7_image 2 = .ok (.putfield 151, 3) := by decide +kernel
theorem dX7_image_5 : decode cX7_image 5 = .ok (.aload_n 0, 1) := by decide +kernel
theorem dX7_image_6 : decode cX7_image 6 = .ok (.iconst 0, 1) := by decide +kernel
theorem dX7_image_7 : decode cX7_image 7 = .ok (.iconst 1, 1) := by decide +kernel
theorem dX7_image_8 : decode cX7_image 8 = .ok (.invokevirtual 130, 3) := by decide +kernel
theorem dX7_image_11 : decode cX7_image 11 = .ok (.aload_n 0, 1) := by decide +kernel
theorem dX7_image_12 : decode cX7_image 12 = .ok (.getfield 107, 3) := by decide +kernel
theorem dX7_image_15 : decode cX7_image 15 = .ok (.ireturn, 1) := by decide +kernel
set_option maxRecDepth 20000 in
theorem ggX7_on_X7_no : GoodIn wsX7_on wsX7_no := goodIn_r _ [7, 8, 33, 34, 35, 36, 37, 38, 39, 40, 41, 42, 43, 44, 45, 46, 47, 48, 49, 50, 51, 52, 53, 54, 55, 56, 57, 58] (by decide +kernel) (by decide +kernel)
set_option maxRecDepth 20000 in
theorem gX7_on_X7_no : GoodIn wsX7_on (wsV RX7 75 RX7 yX7_no wsX7_no) := goodIn_app (goodIn_of _ (by decide +kernel)) ggX7_on_X7_no
set_option maxRecDepth 20000 in
theorem ggX7_on_X7_passesAll : GoodIn wsX7_on wsX7_passesAll := goodIn_r _ [12, 13, 14, 15, 16, 17, 18, 19, 20, 21, 22, 2, 23, 24, 25, 26, 6, 27, 28, 29, 30, 31, 32, 33, 34, 35, 36, 37, 38, 39, 40, 41, 42, 43, 44, 45, 46, 47, 48, 49, 50, 51, 52, 53, 54, 55, 56, 57, 58] (by decide +kernel) (by decide +kernel)
set_option maxRecDepth 20000 in
theorem gX7_on_X7_passesAll : GoodIn wsX7_on (wsV RX7 130 RX7 yX7_passesAll wsX7_passesAll) := goodIn_app (goodIn_of _ (by decide +kernel)) ggX7_on_X7_passesAll
theorem dX7_on_0 : decode cX7_on 0 = .ok (.aload_n 0, 1) := by decide +kernel
theorem dX7_on_1 : decode cX7_on 1 = .ok (.getfield 151, 3) := by decide +kernel
theorem dX7_on_4 : decode cX7_on 4 = .ok (.ifCond .ne 10, 3) := by decide +kernel
theorem dX7_on_7 : decode cX7_on 7 = .ok (.aload_n 0, 1) := by decide +kernel
theorem dX7_on_8 : decode cX7_on 8 = .ok (.bipush (-3), 2) := by decide +kernel
theorem dX7_on_10 : decode cX7_on 10 = .ok (.invokevirtual 75, 3) := by decide +kernel
theorem dX7_on_13 : decode cX7_on 13 = .ok (.ireturn, 1) := by decide +kernel
theorem dX7_on_14 : decode cX7_on 14 = .ok (.aload_n 0, 1) := by decide +kernel
theorem dX7_on_15 : decode cX7_on 15 = .ok (.iconst 0, 1) := by decide +kernel
theorem dX7_on_16 : decode cX7_on 16 = .ok (.iconst 0, 1) := by decide +kernel
theorem dX7_on_17 : decode cX7_on 17 = .ok (.invokevirtual 130, 3) := by decide +kernel
theorem dX7_on_20 : decode cX7_on 20 = .ok (.aload_n 0, 1) := by decide +kernel
theorem dX7_on_21 : decode cX7_on 21 = .ok (.getfield 107, 3) := by decide +kernel
theorem dX7_on_24 : decode cX7_on 24 = .ok (.ireturn, 1) := by decide +kernel
theorem dX7_nightsOf_0 : decode cX7_nightsOf 0 = .ok (.aload_n 0, 1) := by decide +kernel
theorem dX7_nightsOf_1 : decode cX7_nightsOf 1 = .ok (.getfield 19, 3) := by decide +kernel
theorem dX7_nightsOf_4 : decode cX7_nightsOf 4 = .ok (.iload_n 1, 1) := by decide +kernel
theorem dX7_nightsOf_5 : decode cX7_nightsOf 5 = .ok (.iaload, 1) := by decide +kernel
theorem dX7_nightsOf_6 : decode cX7_nightsOf 6 = .ok (.tableswitch 58 1 5 #[34, 36, 46, 58, 34], 34) := by decide +kernel
theorem dX7_nightsOf_40 : decode cX7_nightsOf 40 = .ok (.iconst 0, 1) := by decide +kernel
theorem dX7_nightsOf_41 : decode cX7_nightsOf 41 = .ok (.ireturn, 1) := by decide +kernel
theorem dX7_nightsOf_42 : decode cX7_nightsOf 42 = .ok (.bipush 9, 2) := by decide +kernel
theorem dX7_nightsOf_44 : decode cX7_nightsOf 44 = .ok (.aload_n 0, 1) := by decide +kernel
theorem dX7_nightsOf_45 : decode cX7_nightsOf 45 = .ok (.getfield 22, 3) := by decide +kernel
theorem dX7_nightsOf_48 : decode cX7_nightsOf 48 = .ok (.iload_n 1, 1) := by decide +kernel
theorem dX7_nightsOf_49 : decode cX7_nightsOf 49 = .ok (.iaload, 1) := by decide +kernel
theorem dX7_nightsOf_50 : decode cX7_nightsOf 50 = .ok (.iadd, 1) := by decide +kernel
theorem dX7_nightsOf_51 : decode cX7_nightsOf 51 = .ok (.ireturn, 1) := by decide +kernel
theorem dX7_nightsOf_52 : decode cX7_nightsOf 52 = .ok (.iconst 2, 1) := by decide +kernel
theorem dX7_nightsOf_53 : decode cX7_nightsOf 53 = .ok (.bipush 9, 2) := by decide +kernel
theorem dX7_nightsOf_55 : decode cX7_nightsOf 55 = .ok (.aload_n 0, 1) := by decide +kernel
theorem dX7_nightsOf_56 : decode cX7_nightsOf 56 = .ok (.getfield 22, 3) := by decide +kernel
theorem dX7_nightsOf_59 : decode cX7_nightsOf 59 = .ok (.iload_n 1, 1) := by decide +kernel
theorem dX7_nightsOf_60 : decode cX7_nightsOf 60 = .ok (.iaload, 1) := by decide +kernel
theorem dX7_nightsOf_61 : decode cX7_nightsOf 61 = .ok (.iadd, 1) := by decide +kernel
theorem dX7_nightsOf_62 : decode cX7_nightsOf 62 = .ok (.imul, 1) := by decide +kernel
theorem dX7_nightsOf_63 : decode cX7_nightsOf 63 = .ok (.ireturn, 1) := by decide +kernel
theorem dX7_nightsOf_64 : decode cX7_nightsOf 64 = .ok (.bipush 9, 2) := by decide +kernel
theorem dX7_nightsOf_66 : decode cX7_nightsOf 66 = .ok (.ireturn, 1) := by decide +kernel
set_option maxRecDepth 20000 in
theorem ggX7_hears_X7_nightsOf : GoodIn wsX7_hears wsX7_nightsOf := goodIn_r _ [10, 4, 11, 12, 13, 14, 15, 16, 17, 18, 19, 20, 21, 22, 23, 24, 25, 26, 27, 28, 29, 30, 31, 32, 33, 34, 35, 36, 37] (by decide +kernel) (by decide +kernel)
set_option maxRecDepth 20000 in
theorem gX7_hears_X7_nightsOf : GoodIn wsX7_hears (wsV RX7 154 RX7 yX7_nightsOf wsX7_nightsOf) := goodIn_app (goodIn_of _ (by decide +kernel)) ggX7_hears_X7_nightsOf
theorem dX7_hears_0 : decode cX7_hears 0 = .ok (.iload_n 1, 1) := by decide +kernel
theorem dX7_hears_1 : decode cX7_hears 1 = .ok (.aload_n 0, 1) := by decide +kernel
theorem dX7_hears_2 : decode cX7_hears 2 = .ok (.getfield 31, 3) := by decide +kernel
theorem dX7_hears_5 : decode cX7_hears 5 = .ok (.if_icmp .eq 12, 3) := by decide +kernel
theorem dX7_hears_8 : decode cX7_hears 8 = .ok (.aload_n 0, 1) := by decide +kernel
theorem dX7_hears_9 : decode cX7_hears 9 = .ok (.getfield 28, 3) := by decide +kernel
theorem dX7_hears_12 : decode cX7_hears 12 = .ok (.iload_n 1, 1) := by decide +kernel
theorem dX7_hears_13 : decode cX7_hears 13 = .ok (.iaload, 1) := by decide +kernel
theorem dX7_hears_14 : decode cX7_hears 14 = .ok (.ifCond .le 5, 3) := by decide +kernel
theorem dX7_hears_17 : decode cX7_hears 17 = .ok (.iconst 0, 1) := by decide +kernel
theorem dX7_hears_18 : decode cX7_hears 18 = .ok (.ireturn, 1) := by decide +kernel
theorem dX7_hears_19 : decode cX7_hears 19 = .ok (.aload_n 0, 1) := by decide +kernel
theorem dX7_hears_20 : decode cX7_hears 20 = .ok (.getfield 25, 3) := by decide +kernel
theorem dX7_hears_23 : decode cX7_hears 23 = .ok (.iload_n 1, 1) := by decide +kernel
theorem dX7_hears_24 : decode cX7_hears 24 = .ok (.iaload, 1) := by decide +kernel
theorem dX7_hears_25 : decode cX7_hears 25 = .ok (.aload_n 0, 1) := by decide +kernel
theorem dX7_hears_26 : decode cX7_hears 26 = .ok (.iload_n 1, 1) := by decide +kernel
theorem dX7_hears_27 : decode cX7_hears 27 = .ok (.invokevirtual 154, 3) := by decide +kernel
theorem dX7_hears_30 : decode cX7_hears 30 = .ok (.if_icmp .lt 23, 3) := by decide +kernel
theorem dX7_hears_33 : decode cX7_hears 33 = .ok (.aload_n 0, 1) := by decide +kernel
theorem dX7_hears_34 : decode cX7_hears 34 = .ok (.getfield 19, 3) := by decide +kernel
theorem dX7_hears_37 : decode cX7_hears 37 = .ok (.iload_n 1, 1) := by decide +kernel
theorem dX7_hears_38 : decode cX7_hears 38 = .ok (.iaload, 1) := by decide +kernel
theorem dX7_hears_39 : decode cX7_hears 39 = .ok (.iconst 5, 1) := by decide +kernel
theorem dX7_hears_40 : decode cX7_hears 40 = .ok (.if_icmp .ne 17, 3) := by decide +kernel
theorem dX7_hears_43 : decode cX7_hears 43 = .ok (.aload_n 0, 1) := by decide +kernel
theorem dX7_hears_44 : decode cX7_hears 44 = .ok (.getfield 13, 3) := by decide +kernel
theorem dX7_hears_47 : decode cX7_hears 47 = .ok (.iload_n 2, 1) := by decide +kernel
theorem dX7_hears_48 : decode cX7_hears 48 = .ok (.iaload, 1) := by decide +kernel
theorem dX7_hears_49 : decode cX7_hears 49 = .ok (.iconst 4, 1) := by decide +kernel
theorem dX7_hears_50 : decode cX7_hears 50 = .ok (.if_icmp .ne 7, 3) := by decide +kernel
theorem dX7_hears_53 : decode cX7_hears 53 = .ok (.iconst 1, 1) := by decide +kernel
theorem dX7_hears_54 : decode cX7_hears 54 = .ok (.goto 4, 3) := by decide +kernel
theorem dX7_hears_57 : decode cX7_hears 57 = .ok (.iconst 0, 1) := by decide +kernel
theorem dX7_hears_58 : decode cX7_hears 58 = .ok (.ireturn, 1) := by decide +kernel
set_option maxRecDepth 20000 in
theorem ggX7_saysOf_X7_hears : GoodIn wsX7_saysOf wsX7_hears := goodIn_r _ [8, 9, 10, 11, 1, 2, 12, 13, 14, 7, 15, 3, 16, 17, 18, 19, 20, 21, 22, 23, 24, 25, 26, 27, 28, 29, 30, 31, 32, 33, 34, 35, 36, 37, 38, 39, 40, 41] (by decide +kernel) (by decide +kernel)
set_option maxRecDepth 20000 in
theorem gX7_saysOf_X7_hears : GoodIn wsX7_saysOf (wsV RX7 157 RX7 yX7_hears wsX7_hears) := goodIn_app (goodIn_of _ (by decide +kernel)) ggX7_saysOf_X7_hears
theorem dX7_saysOf_0 : decode cX7_saysOf 0 = .ok (.aload_n 0, 1) := by decide +kernel
theorem dX7_saysOf_1 : decode cX7_saysOf 1 = .ok (.iload_n 1, 1) := by decide +kernel
theorem dX7_saysOf_2 : decode cX7_saysOf 2 = .ok (.iload_n 2, 1) := by decide +kernel
theorem dX7_saysOf_3 : decode cX7_saysOf 3 = .ok (.invokevirtual 157, 3) := by decide +kernel
theorem dX7_saysOf_6 : decode cX7_saysOf 6 = .ok (.ifCond .ne 6, 3) := by decide +kernel
theorem dX7_saysOf_9 : decode cX7_saysOf 9 = .ok (.bipush (-9), 2) := by decide +kernel
theorem dX7_saysOf_11 : decode cX7_saysOf 11 = .ok (.ireturn, 1) := by decide +kernel
theorem dX7_saysOf_12 : decode cX7_saysOf 12 = .ok (.aload_n 0, 1) := by decide +kernel
theorem dX7_saysOf_13 : decode cX7_saysOf 13 = .ok (.getfield 19, 3) := by decide +kernel
theorem dX7_saysOf_16 : decode cX7_saysOf 16 = .ok (.iload_n 1, 1) := by decide +kernel
theorem dX7_saysOf_17 : decode cX7_saysOf 17 = .ok (.iaload, 1) := by decide +kernel
theorem dX7_saysOf_18 : decode cX7_saysOf 18 = .ok (.iconst 3, 1) := by decide +kernel
theorem dX7_saysOf_19 : decode cX7_saysOf 19 = .ok (.if_icmp .ne 17, 3) := by decide +kernel
theorem dX7_saysOf_22 : decode cX7_saysOf 22 = .ok (.aload_n 0, 1) := by decide +kernel
theorem dX7_saysOf_23 : decode cX7_saysOf 23 = .ok (.getfield 13, 3) := by decide +kernel
theorem dX7_saysOf_26 : decode cX7_saysOf 26 = .ok (.iload_n 2, 1) := by decide +kernel
theorem dX7_saysOf_27 : decode cX7_saysOf 27 = .ok (.iaload, 1) := by decide +kernel
theorem dX7_saysOf_28 : decode cX7_saysOf 28 = .ok (.iconst 1, 1) := by decide +kernel
theorem dX7_saysOf_29 : decode cX7_saysOf 29 = .ok (.iadd, 1) := by decide +kernel
theorem dX7_saysOf_30 : decode cX7_saysOf 30 = .ok (.bipush 24, 2) := by decide +kernel
theorem dX7_saysOf_32 : decode cX7_saysOf 32 = .ok (.irem, 1) := by decide +kernel
theorem dX7_saysOf_33 : decode cX7_saysOf 33 = .ok (.goto 38, 3) := by decide +kernel
theorem dX7_saysOf_36 : decode cX7_saysOf 36 = .ok (.aload_n 0, 1) := by decide +kernel
theorem dX7_saysOf_37 : decode cX7_saysOf 37 = .ok (.getfield 19, 3) := by decide +kernel
theorem dX7_saysOf_40 : decode cX7_saysOf 40 = .ok (.iload_n 1, 1) := by decide +kernel
theorem dX7_saysOf_41 : decode cX7_saysOf 41 = .ok (.iaload, 1) := by decide +kernel
theorem dX7_saysOf_42 : decode cX7_saysOf 42 = .ok (.iconst 4, 1) := by decide +kernel
theorem dX7_saysOf_43 : decode cX7_saysOf 43 = .ok (.if_icmp .ne 22, 3) := by decide +kernel
theorem dX7_saysOf_46 : decode cX7_saysOf 46 = .ok (.aload_n 0, 1) := by decide +kernel
theorem dX7_saysOf_47 : decode cX7_saysOf 47 = .ok (.getfield 13, 3) := by decide +kernel
theorem dX7_saysOf_50 : decode cX7_saysOf 50 = .ok (.iload_n 2, 1) := by decide +kernel
theorem dX7_saysOf_51 : decode cX7_saysOf 51 = .ok (.iaload, 1) := by decide +kernel
theorem dX7_saysOf_52 : decode cX7_saysOf 52 = .ok (.aload_n 0, 1) := by decide +kernel
theorem dX7_saysOf_53 : decode cX7_saysOf 53 = .ok (.getfield 22, 3) := by decide +kernel
theorem dX7_saysOf_56 : decode cX7_saysOf 56 = .ok (.iload_n 1, 1) := by decide +kernel
theorem dX7_saysOf_57 : decode cX7_saysOf 57 = .ok (.iaload, 1) := by decide +kernel
theorem dX7_saysOf_58 : decode cX7_saysOf 58 = .ok (.iadd, 1) := by decide +kernel
theorem dX7_saysOf_59 : decode cX7_saysOf 59 = .ok (.bipush 24, 2) := by decide +kernel
theorem dX7_saysOf_61 : decode cX7_saysOf 61 = .ok (.irem, 1) := by decide +kernel
theorem dX7_saysOf_62 : decode cX7_saysOf 62 = .ok (.goto 9, 3) := by decide +kernel
theorem dX7_saysOf_65 : decode cX7_saysOf 65 = .ok (.aload_n 0, 1) := by decide +kernel
theorem dX7_saysOf_66 : decode cX7_saysOf 66 = .ok (.getfield 13, 3) := by decide +kernel
theorem dX7_saysOf_69 : decode cX7_saysOf 69 = .ok (.iload_n 2, 1) := by decide +kernel
theorem dX7_saysOf_70 : decode cX7_saysOf 70 = .ok (.iaload, 1) := by decide +kernel
theorem dX7_saysOf_71 : decode cX7_saysOf 71 = .ok (.ireturn, 1) := by decide +kernel
set_option maxRecDepth 20000 in
theorem ggX7_hearers_X7_hears : GoodIn wsX7_hearers wsX7_hears := goodIn_r _ [6, 7, 8, 9, 10, 11, 12, 13, 14, 5, 15, 16, 17, 18, 19, 20, 21, 22, 23, 24, 25, 26, 27, 28, 29, 30, 31, 32, 33, 34, 35, 36, 37, 38, 39, 40, 41, 42] (by decide +kernel) (by decide +kernel)
set_option maxRecDepth 20000 in
theorem gX7_hearers_X7_hears : GoodIn wsX7_hearers (wsV RX7 157 RX7 yX7_hears wsX7_hears) := goodIn_app (goodIn_of _ (by decide +kernel)) ggX7_hearers_X7_hears
theorem dX7_hearers_0 : decode cX7_hearers 0 = .ok (.iconst 0, 1) := by decide +kernel
theorem dX7_hearers_1 : decode cX7_hearers 1 = .ok (.istore_n 2, 1) := by decide +kernel
theorem dX7_hearers_2 : decode cX7_hearers 2 = .ok (.iconst 0, 1) := by decide +kernel
theorem dX7_hearers_3 : decode cX7_hearers 3 = .ok (.istore_n 3, 1) := by decide +kernel
theorem dX7_hearers_4 : decode cX7_hearers 4 = .ok (.iload_n 3, 1) := by decide +kernel
theorem dX7_hearers_5 : decode cX7_hearers 5 = .ok (.aload_n 0, 1) := by decide +kernel
theorem dX7_hearers_6 : decode cX7_hearers 6 = .ok (.getfield 65, 3) := by decide +kernel
theorem dX7_hearers_9 : decode cX7_hearers 9 = .ok (.if_icmp .ge 28, 3) := by decide +kernel
theorem dX7_hearers_12 : decode cX7_hearers 12 = .ok (.iload_n 2, 1) := by decide +kernel
theorem dX7_hearers_13 : decode cX7_hearers 13 = .ok (.aload_n 0, 1) := by decide +kernel
theorem dX7_hearers_14 : decode cX7_hearers 14 = .ok (.iload_n 3, 1) := by decide +kernel
theorem dX7_hearers_15 : decode cX7_hearers 15 = .ok (.iload_n 1, 1) := by decide +kernel
theorem dX7_hearers_16 : decode cX7_hearers 16 = .ok (.invokevirtual 157, 3) := by decide +kernel
theorem dX7_hearers_19 : decode cX7_hearers 19 = .ok (.ifCond .eq 9, 3) := by decide +kernel
theorem dX7_hearers_22 : decode cX7_hearers 22 = .ok (.iconst 1, 1) := by decide +kernel
theorem dX7_hearers_23 : decode cX7_hearers 23 = .ok (.iload_n 3, 1) := by decide +kernel
theorem dX7_hearers_24 : decode cX7_hearers 24 = .ok (.ishl, 1) := by decide +kernel
theorem dX7_hearers_25 : decode cX7_hearers 25 = .ok (.goto 4, 3) := by decide +kernel
theorem dX7_hearers_28 : decode cX7_hearers 28 = .ok (.iconst 0, 1) := by decide +kernel
theorem dX7_hearers_29 : decode cX7_hearers 29 = .ok (.ior, 1) := by decide +kernel
theorem dX7_hearers_30 : decode cX7_hearers 30 = .ok (.istore_n 2, 1) := by decide +kernel
theorem dX7_hearers_31 : decode cX7_hearers 31 = .ok (.iinc 3 1, 3) := by decide +kernel
theorem dX7_hearers_34 : decode cX7_hearers 34 = .ok (.goto (-30), 3) := by decide +kernel
theorem dX7_hearers_37 : decode cX7_hearers 37 = .ok (.iload_n 2, 1) := by decide +kernel
theorem dX7_hearers_38 : decode cX7_hearers 38 = .ok (.ireturn, 1) := by decide +kernel
set_option maxRecDepth 20000 in
theorem ggX7_manySay_X7_saysOf : GoodIn wsX7_manySay wsX7_saysOf := goodIn_r _ [6, 7, 8, 9, 10, 11, 12, 5, 13, 14, 15, 16, 17, 18, 19, 20, 21, 22, 23, 24, 25, 26, 27, 28, 29, 30, 31, 32, 33, 34, 35, 36, 37, 38, 39, 40, 41, 42, 43, 44, 45, 46] (by decide +kernel) (by decide +kernel)
set_option maxRecDepth 20000 in
theorem gX7_manySay_X7_saysOf : GoodIn wsX7_manySay (wsV RX7 160 RX7 yX7_saysOf wsX7_saysOf) := goodIn_app (goodIn_of _ (by decide +kernel)) ggX7_manySay_X7_saysOf
theorem dX7_manySay_0 : decode cX7_manySay 0 = .ok (.iconst 0, 1) := by decide +kernel
theorem dX7_manySay_1 : decode cX7_manySay 1 = .ok (.istore_n 3, 1) := by decide +kernel
theorem dX7_manySay_2 : decode cX7_manySay 2 = .ok (.iconst 0, 1) := by decide +kernel
theorem dX7_manySay_3 : decode cX7_manySay 3 = .ok (.istore 4, 2) := by decide +kernel
theorem dX7_manySay_5 : decode cX7_manySay 5 = .ok (.iload 4, 2) := by decide +kernel
theorem dX7_manySay_7 : decode cX7_manySay 7 = .ok (.aload_n 0, 1) := by decide +kernel
theorem dX7_manySay_8 : decode cX7_manySay 8 = .ok (.getfield 65, 3) := by decide +kernel
theorem dX7_manySay_11 : decode cX7_manySay 11 = .ok (.if_icmp .ge 28, 3) := by decide +kernel
theorem dX7_manySay_14 : decode cX7_manySay 14 = .ok (.iload_n 3, 1) := by decide +kernel
theorem dX7_manySay_15 : decode cX7_manySay 15 = .ok (.aload_n 0, 1) := by decide +kernel
theorem dX7_manySay_16 : decode cX7_manySay 16 = .ok (.iload 4, 2) := by decide +kernel
theorem dX7_manySay_18 : decode cX7_manySay 18 = .ok (.iload_n 1, 1) := by decide +kernel
theorem dX7_manySay_19 : decode cX7_manySay 19 = .ok (.invokevirtual 160, 3) := by decide +kernel
theorem dX7_manySay_22 : decode cX7_manySay 22 = .ok (.iload_n 2, 1) := by decide +kernel
theorem dX7_manySay_23 : decode cX7_manySay 23 = .ok (.if_icmp .ne 7, 3) := by decide +kernel
theorem dX7_manySay_26 : decode cX7_manySay 26 = .ok (.iconst 1, 1) := by decide +kernel
theorem dX7_manySay_27 : decode cX7_manySay 27 = .ok (.goto 4, 3) := by decide +kernel
theorem dX7_manySay_30 : decode cX7_manySay 30 = .ok (.iconst 0, 1) := by decide +kernel
theorem dX7_manySay_31 : decode cX7_manySay 31 = .ok (.iadd, 1) := by decide +kernel
theorem dX7_manySay_32 : decode cX7_manySay 32 = .ok (.istore_n 3, 1) := by decide +kernel
theorem dX7_manySay_33 : decode cX7_manySay 33 = .ok (.iinc 4 1, 3) := by decide +kernel
theorem dX7_manySay_36 : decode cX7_manySay 36 = .ok (.goto (-31), 3) := by decide +kernel
theorem dX7_manySay_39 : decode cX7_manySay 39 = .ok (.iload_n 3, 1) := by decide +kernel
theorem dX7_manySay_40 : decode cX7_manySay 40 = .ok (.ireturn, 1) := by decide +kernel
set_option maxRecDepth 20000 in
theorem ggX7_saidOf_X7_manySay : GoodIn wsX7_saidOf wsX7_manySay := goodIn_r _ [5, 6, 7, 8, 9, 4, 10, 11, 12, 13, 14, 15, 16, 17, 18, 19, 20, 21, 22, 23, 24, 29, 30, 31, 32, 33, 34, 35, 36, 37, 38, 39, 40, 41, 42, 43, 44, 45, 46, 47, 48, 49, 50, 51, 52, 53, 54] (by decide +kernel) (by decide +kernel)
set_option maxRecDepth 20000 in
theorem gX7_saidOf_X7_manySay : GoodIn wsX7_saidOf (wsV RX7 164 RX7 yX7_manySay wsX7_manySay) := goodIn_app (goodIn_of _ (by decide +kernel)) ggX7_saidOf_X7_manySay
set_option maxRecDepth 20000 in
theorem ggX7_saidOf_X7_hearers : GoodIn wsX7_saidOf wsX7_hearers := goodIn_r _ [28, 6, 14, 15, 16, 4, 17, 18, 19, 20, 11, 12, 21, 22, 23, 24, 13, 29, 30, 31, 32, 33, 34, 35, 36, 37, 38, 39, 40, 41, 42, 43, 44, 45, 46, 47, 48, 49, 50, 51, 52, 53, 54] (by decide +kernel) (by decide +kernel)
set_option maxRecDepth 20000 in
theorem gX7_saidOf_X7_hearers : GoodIn wsX7_saidOf (wsV RX7 167 RX7 yX7_hearers wsX7_hearers) := goodIn_app (goodIn_of _ (by decide +kernel)) ggX7_saidOf_X7_hearers
theorem dX7_saidOf_0 : decode cX7_saidOf 0 = .ok (.iconst 0, 1) := by decide +kernel
theorem dX7_saidOf_1 : decode cX7_saidOf 1 = .ok (.istore_n 2, 1) := by decide +kernel
theorem dX7_saidOf_2 : decode cX7_saidOf 2 = .ok (.iconst 1, 1) := by decide +kernel
theorem dX7_saidOf_3 : decode cX7_saidOf 3 = .ok (.istore_n 3, 1) := by decide +kernel
theorem dX7_saidOf_4 : decode cX7_saidOf 4 = .ok (.iload_n 3, 1) := by decide +kernel
theorem dX7_saidOf_5 : decode cX7_saidOf 5 = .ok (.bipush 24, 2) := by decide +kernel
theorem dX7_saidOf_7 : decode cX7_saidOf 7 = .ok (.if_icmp .ge 30, 3) := by decide +kernel
theorem dX7_saidOf_10 : decode cX7_saidOf 10 = .ok (.aload_n 0, 1) := by decide +kernel
theorem dX7_saidOf_11 : decode cX7_saidOf 11 = .ok (.iload_n 1, 1) := by decide +kernel
theorem dX7_saidOf_12 : decode cX7_saidOf 12 = .ok (.iload_n 3, 1) := by decide +kernel
theorem dX7_saidOf_13 : decode cX7_saidOf 13 = .ok (.invokevirtual 164, 3) := by decide +kernel
theorem dX7_saidOf_16 : decode cX7_saidOf 16 = .ok (.aload_n 0, 1) := by decide +kernel
theorem dX7_saidOf_17 : decode cX7_saidOf 17 = .ok (.iload_n 1, 1) := by decide +kernel
theorem dX7_saidOf_18 : decode cX7_saidOf 18 = .ok (.iload_n 2, 1) := by decide +kernel
theorem dX7_saidOf_19 : decode cX7_saidOf 19 = .ok (.invokevirtual 164, 3) := by decide +kernel
theorem dX7_saidOf_22 : decode cX7_saidOf 22 = .ok (.if_icmp .le 7, 3) := by decide +kernel
theorem dX7_saidOf_25 : decode cX7_saidOf 25 = .ok (.iload_n 3, 1) := by decide +kernel
theorem dX7_saidOf_26 : decode cX7_saidOf 26 = .ok (.goto 4, 3) := by decide +kernel
theorem dX7_saidOf_29 : decode cX7_saidOf 29 = .ok (.iload_n 2, 1) := by decide +kernel
theorem dX7_saidOf_30 : decode cX7_saidOf 30 = .ok (.istore_n 2, 1) := by decide +kernel
theorem dX7_saidOf_31 : decode cX7_saidOf 31 = .ok (.iinc 3 1, 3) := by decide +kernel
theorem dX7_saidOf_34 : decode cX7_saidOf 34 = .ok (.goto (-30), 3) := by decide +kernel
theorem dX7_saidOf_37 : decode cX7_saidOf 37 = .ok (.aload_n 0, 1) := by decide +kernel
theorem dX7_saidOf_38 : decode cX7_saidOf 38 = .ok (.iload_n 1, 1) := by decide +kernel
theorem dX7_saidOf_39 : decode cX7_saidOf 39 = .ok (.invokevirtual 167, 3) := by decide +kernel
theorem dX7_saidOf_42 : decode cX7_saidOf 42 = .ok (.ifCond .ne 8, 3) := by decide +kernel
theorem dX7_saidOf_45 : decode cX7_saidOf 45 = .ok (.bipush (-9), 2) := by decide +kernel
theorem dX7_saidOf_47 : decode cX7_saidOf 47 = .ok (.goto 4, 3) := by decide +kernel
theorem dX7_saidOf_50 : decode cX7_saidOf 50 = .ok (.iload_n 2, 1) := by decide +kernel
theorem dX7_saidOf_51 : decode cX7_saidOf 51 = .ok (.ireturn, 1) := by decide +kernel
set_option maxRecDepth 20000 in
theorem ggX7_isTrue_X7_saidOf : GoodIn wsX7_isTrue wsX7_saidOf := goodIn_r _ [6, 7, 8, 9, 5, 10, 11, 12, 13, 14, 15, 16, 1, 17, 18, 19, 20, 21, 22, 23, 24, 25, 26, 27, 28, 29, 30, 31, 32, 33, 34, 35, 36, 37, 38, 39, 40, 41, 42, 43, 44, 45, 46, 47, 48, 49, 50, 51, 52, 53, 54, 55, 56, 57, 58] (by decide +kernel) (by decide +kernel)
set_option maxRecDepth 20000 in
theorem gX7_isTrue_X7_saidOf : GoodIn wsX7_isTrue (wsV RX7 170 RX7 yX7_saidOf wsX7_saidOf) := goodIn_app (goodIn_of _ (by decide +kernel)) ggX7_isTrue_X7_saidOf
theorem dX7_isTrue_0 : decode cX7_isTrue 0 = .ok (.aload_n 0, 1) := by decide +kernel
theorem dX7_isTrue_1 : decode cX7_isTrue 1 = .ok (.iload_n 1, 1) := by decide +kernel
theorem dX7_isTrue_2 : decode cX7_isTrue 2 = .ok (.invokevirtual 170, 3) := by decide +kernel
theorem dX7_isTrue_5 : decode cX7_isTrue 5 = .ok (.aload_n 0, 1) := by decide +kernel
theorem dX7_isTrue_6 : decode cX7_isTrue 6 = .ok (.getfield 13, 3) := by decide +kernel
theorem dX7_isTrue_9 : decode cX7_isTrue 9 = .ok (.iload_n 1, 1) := by decide +kernel
theorem dX7_isTrue_10 : decode cX7_isTrue 10 = .ok (.iaload, 1) := by decide +kernel
theorem dX7_isTrue_11 : decode cX7_isTrue 11 = .ok (.if_icmp .ne 7, 3) := by decide +kernel
theorem dX7_isTrue_14 : decode cX7_isTrue 14 = .ok (.iconst 1, 1) := by decide +kernel
theorem dX7_isTrue_15 : decode cX7_isTrue 15 = .ok (.goto 4, 3) := by decide +kernel
theorem dX7_isTrue_18 : decode cX7_isTrue 18 = .ok (.iconst 0, 1) := by decide +kernel
theorem dX7_isTrue_19 : decode cX7_isTrue 19 = .ok (.ireturn, 1) := by decide +kernel
theorem dX7_ringsNow_0 : decode cX7_ringsNow 0 = .ok (.aload_n 0, 1) := by decide +kernel
theorem dX7_ringsNow_1 : decode cX7_ringsNow 1 = .ok (.getfield 107, 3) := by decide +kernel
theorem dX7_ringsNow_4 : decode cX7_ringsNow 4 = .ok (.aload_n 0, 1) := by decide +kernel
theorem dX7_ringsNow_5 : decode cX7_ringsNow 5 = .ok (.getfield 16, 3) := by decide +kernel
theorem dX7_ringsNow_8 : decode cX7_ringsNow 8 = .ok (.iload_n 1, 1) := by decide +kernel
theorem dX7_ringsNow_9 : decode cX7_ringsNow 9 = .ok (.iaload, 1) := by decide +kernel
theorem dX7_ringsNow_10 : decode cX7_ringsNow 10 = .ok (.irem, 1) := by decide +kernel
theorem dX7_ringsNow_11 : decode cX7_ringsNow 11 = .ok (.ifCond .ne 7, 3) := by decide +kernel
theorem dX7_ringsNow_14 : decode cX7_ringsNow 14 = .ok (.iconst 1, 1) := by decide +kernel
theorem dX7_ringsNow_15 : decode cX7_ringsNow 15 = .ok (.goto 4, 3) := by decide +kernel
theorem dX7_ringsNow_18 : decode cX7_ringsNow 18 = .ok (.iconst 0, 1) := by decide +kernel
theorem dX7_ringsNow_19 : decode cX7_ringsNow 19 = .ok (.ireturn, 1) := by decide +kernel
set_option maxRecDepth 20000 in
theorem ggX7_hearsSome_X7_hears : GoodIn wsX7_hearsSome wsX7_hears := goodIn_r _ [6, 7, 8, 9, 10, 11, 12, 13, 14, 5, 15, 16, 17, 18, 19, 20, 21, 22, 23, 24, 25, 26, 27, 28, 29, 30, 31, 32, 33, 34, 35, 36, 37, 38, 39, 40, 41, 42] (by decide +kernel) (by decide +kernel)
set_option maxRecDepth 20000 in
theorem gX7_hearsSome_X7_hears : GoodIn wsX7_hearsSome (wsV RX7 157 RX7 yX7_hears wsX7_hears) := goodIn_app (goodIn_of _ (by decide +kernel)) ggX7_hearsSome_X7_hears
theorem dX7_hearsSome_0 : decode cX7_hearsSome 0 = .ok (.iconst 0, 1) := by decide +kernel
theorem dX7_hearsSome_1 : decode cX7_hearsSome 1 = .ok (.istore_n 2, 1) := by decide +kernel
theorem dX7_hearsSome_2 : decode cX7_hearsSome 2 = .ok (.iload_n 2, 1) := by decide +kernel
theorem dX7_hearsSome_3 : decode cX7_hearsSome 3 = .ok (.aload_n 0, 1) := by decide +kernel
theorem dX7_hearsSome_4 : decode cX7_hearsSome 4 = .ok (.getfield 62, 3) := by decide +kernel
theorem dX7_hearsSome_7 : decode cX7_hearsSome 7 = .ok (.if_icmp .ge 20, 3) := by decide +kernel
theorem dX7_hearsSome_10 : decode cX7_hearsSome 10 = .ok (.aload_n 0, 1) := by decide +kernel
theorem dX7_hearsSome_11 : decode cX7_hearsSome 11 = .ok (.iload_n 1, 1) := by decide +kernel
theorem dX7_hearsSome_12 : decode cX7_hearsSome 12 = .ok (.iload_n 2, 1) := by decide +kernel
theorem dX7_hearsSome_13 : decode cX7_hearsSome 13 = .ok (.invokevirtual 157, 3) := by decide +kernel
theorem dX7_hearsSome_16 : decode cX7_hearsSome 16 = .ok (.ifCond .eq 5, 3) := by decide +kernel
theorem dX7_hearsSome_19 : decode cX7_hearsSome 19 = .ok (.iconst 1, 1) := by decide +kernel
theorem dX7_hearsSome_20 : decode cX7_hearsSome 20 = .ok (.ireturn, 1) := by decide +kernel
theorem dX7_hearsSome_21 : decode cX7_hearsSome 21 = .ok (.iinc 2 1, 3) := by decide +kernel
theorem dX7_hearsSome_24 : decode cX7_hearsSome 24 = .ok (.goto (-22), 3) := by decide +kernel
theorem dX7_hearsSome_27 : decode cX7_hearsSome 27 = .ok (.iconst 0, 1) := by decide +kernel
theorem dX7_hearsSome_28 : decode cX7_hearsSome 28 = .ok (.ireturn, 1) := by decide +kernel
set_option maxRecDepth 20000 in
theorem ggX7_manyHear_X7_hearsSome : GoodIn wsX7_manyHear wsX7_hearsSome := goodIn_r _ [6, 7, 8, 9, 10, 5, 11, 12, 13, 14, 15, 16, 17, 18, 19, 20, 21, 22, 23, 24, 25, 26, 27, 28, 29, 30, 31, 32, 33, 34, 35, 36, 37, 38, 39, 40, 41, 42, 43, 44, 45, 46, 47] (by decide +kernel) (by decide +kernel)
set_option maxRecDepth 20000 in
theorem gX7_manyHear_X7_hearsSome : GoodIn wsX7_manyHear (wsV RX7 173 RX7 yX7_hearsSome wsX7_hearsSome) := goodIn_app (goodIn_of _ (by decide +kernel)) ggX7_manyHear_X7_hearsSome
theorem dX7_manyHear_0 : decode cX7_manyHear 0 = .ok (.iconst 0, 1) := by decide +kernel
theorem dX7_manyHear_1 : decode cX7_manyHear 1 = .ok (.istore_n 1, 1) := by decide +kernel
theorem dX7_manyHear_2 : decode cX7_manyHear 2 = .ok (.iconst 0, 1) := by decide +kernel
theorem dX7_manyHear_3 : decode cX7_manyHear 3 = .ok (.istore_n 2, 1) := by decide +kernel
theorem dX7_manyHear_4 : decode cX7_manyHear 4 = .ok (.iload_n 2, 1) := by decide +kernel
theorem dX7_manyHear_5 : decode cX7_manyHear 5 = .ok (.aload_n 0, 1) := by decide +kernel
theorem dX7_manyHear_6 : decode cX7_manyHear 6 = .ok (.getfield 65, 3) := by decide +kernel
theorem dX7_manyHear_9 : decode cX7_manyHear 9 = .ok (.if_icmp .ge 25, 3) := by decide +kernel
theorem dX7_manyHear_12 : decode cX7_manyHear 12 = .ok (.iload_n 1, 1) := by decide +kernel
theorem dX7_manyHear_13 : decode cX7_manyHear 13 = .ok (.aload_n 0, 1) := by decide +kernel
theorem dX7_manyHear_14 : decode cX7_manyHear 14 = .ok (.iload_n 2, 1) := by decide +kernel
theorem dX7_manyHear_15 : decode cX7_manyHear 15 = .ok (.invokevirtual 173, 3) := by decide +kernel
theorem dX7_manyHear_18 : decode cX7_manyHear 18 = .ok (.ifCond .eq 7, 3) := by decide +kernel
theorem dX7_manyHear_21 : decode cX7_manyHear 21 = .ok (.iconst 1, 1) := by decide +kernel
theorem dX7_manyHear_22 : decode cX7_manyHear 22 = .ok (.goto 4, 3) := by decide +kernel
theorem dX7_manyHear_25 : decode cX7_manyHear 25 = .ok (.iconst 0, 1) := by decide +kernel
theorem dX7_manyHear_26 : decode cX7_manyHear 26 = .ok (.iadd, 1) := by decide +kernel
theorem dX7_manyHear_27 : decode cX7_manyHear 27 = .ok (.istore_n 1, 1) := by decide +kernel
theorem dX7_manyHear_28 : decode cX7_manyHear 28 = .ok (.iinc 2 1, 3) := by decide +kernel
theorem dX7_manyHear_31 : decode cX7_manyHear 31 = .ok (.goto (-27), 3) := by decide +kernel
theorem dX7_manyHear_34 : decode cX7_manyHear 34 = .ok (.iload_n 1, 1) := by decide +kernel
theorem dX7_manyHear_35 : decode cX7_manyHear 35 = .ok (.ireturn, 1) := by decide +kernel
set_option maxRecDepth 20000 in
theorem ggX7_sleepsOne_X7_held : GoodIn wsX7_sleepsOne wsX7_held := goodIn_r _ [7] (by decide +kernel) (by decide +kernel)
set_option maxRecDepth 20000 in
theorem gX7_sleepsOne_X7_held : GoodIn wsX7_sleepsOne (va_wsS RX7 176 yX7_held wsX7_held) := goodIn_app (goodIn_of _ (by decide +kernel)) ggX7_sleepsOne_X7_held
theorem dX7_sleepsOne_0 : decode cX7_sleepsOne 0 = .ok (.aload_n 0, 1) := by decide +kernel
theorem dX7_sleepsOne_1 : decode cX7_sleepsOne 1 = .ok (.getfield 28, 3) := by decide +kernel
theorem dX7_sleepsOne_4 : decode cX7_sleepsOne 4 = .ok (.iload_n 1, 1) := by decide +kernel
theorem dX7_sleepsOne_5 : decode cX7_sleepsOne 5 = .ok (.iaload, 1) := by decide +kernel
theorem dX7_sleepsOne_6 : decode cX7_sleepsOne 6 = .ok (.ifCond .le 36, 3) := by decide +kernel
theorem dX7_sleepsOne_9 : decode cX7_sleepsOne 9 = .ok (.aload_n 0, 1) := by decide +kernel
theorem dX7_sleepsOne_10 : decode cX7_sleepsOne 10 = .ok (.getfield 28, 3) := by decide +kernel
theorem dX7_sleepsOne_13 : decode cX7_sleepsOne 13 = .ok (.iload_n 1, 1) := by decide +kernel
theorem dX7_sleepsOne_14 : decode cX7_sleepsOne 14 = .ok (.dup2, 1) := by decide +kernel
theorem dX7_sleepsOne_15 : decode cX7_sleepsOne 15 = .ok (.iaload, 1) := by decide +kernel
theorem dX7_sleepsOne_16 : decode cX7_sleepsOne 16 = .ok (.iconst 1, 1) := by decide +kernel
theorem dX7_sleepsOne_17 : decode cX7_sleepsOne 17 = .ok (.isub, 1) := by decide +kernel
theorem dX7_sleepsOne_18 : decode cX7_sleepsOne 18 = .ok (.iastore, 1) := by decide +kernel
theorem dX7_sleepsOne_19 : decode cX7_sleepsOne 19 = .ok (.aload_n 0, 1) := by decide +kernel
theorem dX7_sleepsOne_20 : decode cX7_sleepsOne 20 = .ok (.getfield 25, 3) := by decide +kernel
theorem dX7_sleepsOne_23 : decode cX7_sleepsOne 23 = .ok (.iload_n 1, 1) := by decide +kernel
theorem dX7_sleepsOne_24 : decode cX7_sleepsOne 24 = .ok (.aload_n 0, 1) := by decide +kernel
theorem dX7_sleepsOne_25 : decode cX7_sleepsOne 25 = .ok (.getfield 25, 3) := by decide +kernel
theorem dX7_sleepsOne_28 : decode cX7_sleepsOne 28 = .ok (.iload_n 1, 1) := by decide +kernel
theorem dX7_sleepsOne_29 : decode cX7_sleepsOne 29 = .ok (.iaload, 1) := by decide +kernel
theorem dX7_sleepsOne_30 : decode cX7_sleepsOne 30 = .ok (.iconst 2, 1) := by decide +kernel
theorem dX7_sleepsOne_31 : decode cX7_sleepsOne 31 = .ok (.isub, 1) := by decide +kernel
theorem dX7_sleepsOne_32 : decode cX7_sleepsOne 32 = .ok (.iconst 0, 1) := by decide +kernel
theorem dX7_sleepsOne_33 : decode cX7_sleepsOne 33 = .ok (.bipush 99, 2) := by decide +kernel
theorem dX7_sleepsOne_35 : decode cX7_sleepsOne 35 = .ok (.invokestatic 176, 3) := by decide +kernel
theorem dX7_sleepsOne_38 : decode cX7_sleepsOne 38 = .ok (.iastore, 1) := by decide +kernel
theorem dX7_sleepsOne_39 : decode cX7_sleepsOne 39 = .ok (.goto 42, 3) := by decide +kernel
theorem dX7_sleepsOne_42 : decode cX7_sleepsOne 42 = .ok (.aload_n 0, 1) := by decide +kernel
theorem dX7_sleepsOne_43 : decode cX7_sleepsOne 43 = .ok (.getfield 25, 3) := by decide +kernel
theorem dX7_sleepsOne_46 : decode cX7_sleepsOne 46 = .ok (.iload_n 1, 1) := by decide +kernel
theorem dX7_sleepsOne_47 : decode cX7_sleepsOne 47 = .ok (.iload_n 2, 1) := by decide +kernel
theorem dX7_sleepsOne_48 : decode cX7_sleepsOne 48 = .ok (.aload_n 0, 1) := by decide +kernel
theorem dX7_sleepsOne_49 : decode cX7_sleepsOne 49 = .ok (.getfield 56, 3) := by decide +kernel
theorem dX7_sleepsOne_52 : decode cX7_sleepsOne 52 = .ok (.if_icmp .ge 14, 3) := by decide +kernel
theorem dX7_sleepsOne_55 : decode cX7_sleepsOne 55 = .ok (.aload_n 0, 1) := by decide +kernel
theorem dX7_sleepsOne_56 : decode cX7_sleepsOne 56 = .ok (.getfield 25, 3) := by decide +kernel
theorem dX7_sleepsOne_59 : decode cX7_sleepsOne 59 = .ok (.iload_n 1, 1) := by decide +kernel
theorem dX7_sleepsOne_60 : decode cX7_sleepsOne 60 = .ok (.iaload, 1) := by decide +kernel
theorem dX7_sleepsOne_61 : decode cX7_sleepsOne 61 = .ok (.iconst 1, 1) := by decide +kernel
theorem dX7_sleepsOne_62 : decode cX7_sleepsOne 62 = .ok (.iadd, 1) := by decide +kernel
theorem dX7_sleepsOne_63 : decode cX7_sleepsOne 63 = .ok (.goto 11, 3) := by decide +kernel
theorem dX7_sleepsOne_66 : decode cX7_sleepsOne 66 = .ok (.aload_n 0, 1) := by decide +kernel
theorem dX7_sleepsOne_67 : decode cX7_sleepsOne 67 = .ok (.getfield 25, 3) := by decide +kernel
theorem dX7_sleepsOne_70 : decode cX7_sleepsOne 70 = .ok (.iload_n 1, 1) := by decide +kernel
theorem dX7_sleepsOne_71 : decode cX7_sleepsOne 71 = .ok (.iaload, 1) := by decide +kernel
theorem dX7_sleepsOne_72 : decode cX7_sleepsOne 72 = .ok (.iconst 1, 1) := by decide +kernel
theorem dX7_sleepsOne_73 : decode cX7_sleepsOne 73 = .ok (.isub, 1) := by decide +kernel
theorem dX7_sleepsOne_74 : decode cX7_sleepsOne 74 = .ok (.iconst 0, 1) := by decide +kernel
theorem dX7_sleepsOne_75 : decode cX7_sleepsOne 75 = .ok (.bipush 99, 2) := by decide +kernel
theorem dX7_sleepsOne_77 : decode cX7_sleepsOne 77 = .ok (.invokestatic 176, 3) := by decide +kernel
theorem dX7_sleepsOne_80 : decode cX7_sleepsOne 80 = .ok (.iastore, 1) := by decide +kernel
theorem dX7_sleepsOne_81 : decode cX7_sleepsOne 81 = .ok (.return_, 1) := by decide +kernel
set_option maxRecDepth 20000 in
theorem ggX7_goesDay_X7_sleepsOne : GoodIn wsX7_goesDay wsX7_sleepsOne := goodIn_r _ [8, 3, 9, 10, 11, 12, 7, 13, 14, 15, 16, 17, 18, 19, 20, 21, 22, 23, 24, 25, 26, 27, 28, 29, 30, 31, 32, 33, 34, 35, 36, 37, 38, 39] (by decide +kernel) (by decide +kernel)
set_option maxRecDepth 20000 in
theorem gX7_goesDay_X7_sleepsOne : GoodIn wsX7_goesDay (wsV RX7 179 RX7 yX7_sleepsOne wsX7_sleepsOne) := goodIn_app (goodIn_of _ (by decide +kernel)) ggX7_goesDay_X7_sleepsOne
theorem dX7_goesDay_0 : decode cX7_goesDay 0 = .ok (.aload_n 0, 1) := by decide +kernel
theorem dX7_goesDay_1 : decode cX7_goesDay 1 = .ok (.dup, 1) := by decide +kernel
theorem dX7_goesDay_2 : decode cX7_goesDay 2 = .ok (.getfield 107, 3) := by decide +kernel
theorem dX7_goesDay_5 : decode cX7_goesDay 5 = .ok (.iconst 1, 1) := by decide +kernel
theorem dX7_goesDay_6 : decode cX7_goesDay 6 = .ok (.iadd, 1) := by decide +kernel
theorem dX7_goesDay_7 : decode cX7_goesDay 7 = .ok (.putfield 107, 3) := by decide +kernel
theorem dX7_goesDay_10 : decode cX7_goesDay 10 = .ok (.iconst 0, 1) := by decide +kernel
theorem dX7_goesDay_11 : decode cX7_goesDay 11 = .ok (.istore_n 2, 1) := by decide +kernel
theorem dX7_goesDay_12 : decode cX7_goesDay 12 = .ok (.iconst 0, 1) := by decide +kernel
theorem dX7_goesDay_13 : decode cX7_goesDay 13 = .ok (.istore_n 3, 1) := by decide +kernel
theorem dX7_goesDay_14 : decode cX7_goesDay 14 = .ok (.iload_n 3, 1) := by decide +kernel
theorem dX7_goesDay_15 : decode cX7_goesDay 15 = .ok (.aload_n 0, 1) := by decide +kernel
theorem dX7_goesDay_16 : decode cX7_goesDay 16 = .ok (.getfield 65, 3) := by decide +kernel
theorem dX7_goesDay_19 : decode cX7_goesDay 19 = .ok (.if_icmp .ge 40, 3) := by decide +kernel
theorem dX7_goesDay_22 : decode cX7_goesDay 22 = .ok (.iload_n 1, 1) := by decide +kernel
theorem dX7_goesDay_23 : decode cX7_goesDay 23 = .ok (.ifCond .ne 36, 3) := by decide +kernel
theorem dX7_goesDay_26 : decode cX7_goesDay 26 = .ok (.aload_n 0, 1) := by decide +kernel
theorem dX7_goesDay_27 : decode cX7_goesDay 27 = .ok (.getfield 28, 3) := by decide +kernel
theorem dX7_goesDay_30 : decode cX7_goesDay 30 = .ok (.iload_n 3, 1) := by decide +kernel
theorem dX7_goesDay_31 : decode cX7_goesDay 31 = .ok (.iaload, 1) := by decide +kernel
theorem dX7_goesDay_32 : decode cX7_goesDay 32 = .ok (.ifCond .ne 7, 3) := by decide +kernel
theorem dX7_goesDay_35 : decode cX7_goesDay 35 = .ok (.iconst 1, 1) := by decide +kernel
theorem dX7_goesDay_36 : decode cX7_goesDay 36 = .ok (.goto 4, 3) := by decide +kernel
theorem dX7_goesDay_39 : decode cX7_goesDay 39 = .ok (.iconst 0, 1) := by decide +kernel
theorem dX7_goesDay_40 : decode cX7_goesDay 40 = .ok (.istore 4, 2) := by decide +kernel
theorem dX7_goesDay_42 : decode cX7_goesDay 42 = .ok (.aload_n 0, 1) := by decide +kernel
theorem dX7_goesDay_43 : decode cX7_goesDay 43 = .ok (.iload_n 3, 1) := by decide +kernel
theorem dX7_goesDay_44 : decode cX7_goesDay 44 = .ok (.iload_n 2, 1) := by decide +kernel
theorem dX7_goesDay_45 : decode cX7_goesDay 45 = .ok (.invokevirtual 179, 3) := by decide +kernel
theorem dX7_goesDay_48 : decode cX7_goesDay 48 = .ok (.iload_n 2, 1) := by decide +kernel
theorem dX7_goesDay_49 : decode cX7_goesDay 49 = .ok (.iload 4, 2) := by decide +kernel
theorem dX7_goesDay_51 : decode cX7_goesDay 51 = .ok (.iadd, 1) := by decide +kernel
theorem dX7_goesDay_52 : decode cX7_goesDay 52 = .ok (.istore_n 2, 1) := by decide +kernel
theorem dX7_goesDay_53 : decode cX7_goesDay 53 = .ok (.iinc 3 1, 3) := by decide +kernel
theorem dX7_goesDay_56 : decode cX7_goesDay 56 = .ok (.goto (-42), 3) := by decide +kernel
