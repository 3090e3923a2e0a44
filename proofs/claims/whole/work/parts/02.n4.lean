theorem dX7_goesDay_59 : decode cX7_goesDay 59 = .ok (.return_, 1) := by decide +kernel
set_option maxRecDepth 20000 in
theorem ggX7_goesOn_X7_goesDay : GoodIn wsX7_goesOn wsX7_goesDay := goodIn_r _ [5, 6, 7, 8, 9, 10, 11, 4, 12, 13, 14, 15, 16, 17, 18, 19, 20, 21, 22, 23, 24, 25, 26, 27, 28, 29, 30, 31, 32, 33, 34, 35, 36, 37, 38, 39, 40, 41, 42, 43] (by decide +kernel) (by decide +kernel)
set_option maxRecDepth 20000 in
theorem gX7_goesOn_X7_goesDay : GoodIn wsX7_goesOn (wsV RX7 183 RX7 yX7_goesDay wsX7_goesDay) := goodIn_app (goodIn_of _ (by decide +kernel)) ggX7_goesOn_X7_goesDay
theorem dX7_goesOn_0 : decode cX7_goesOn 0 = .ok (.iconst 0, 1) := by decide +kernel
theorem dX7_goesOn_1 : decode cX7_goesOn 1 = .ok (.istore_n 2, 1) := by decide +kernel
theorem dX7_goesOn_2 : decode cX7_goesOn 2 = .ok (.iload_n 2, 1) := by decide +kernel
theorem dX7_goesOn_3 : decode cX7_goesOn 3 = .ok (.iload_n 1, 1) := by decide +kernel
theorem dX7_goesOn_4 : decode cX7_goesOn 4 = .ok (.if_icmp .ge 14, 3) := by decide +kernel
theorem dX7_goesOn_7 : decode cX7_goesOn 7 = .ok (.aload_n 0, 1) := by decide +kernel
theorem dX7_goesOn_8 : decode cX7_goesOn 8 = .ok (.iconst 0, 1) := by decide +kernel
theorem dX7_goesOn_9 : decode cX7_goesOn 9 = .ok (.invokevirtual 183, 3) := by decide +kernel
theorem dX7_goesOn_12 : decode cX7_goesOn 12 = .ok (.iinc 2 1, 3) := by decide +kernel
theorem dX7_goesOn_15 : decode cX7_goesOn 15 = .ok (.goto (-13), 3) := by decide +kernel
theorem dX7_goesOn_18 : decode cX7_goesOn 18 = .ok (.return_, 1) := by decide +kernel
set_option maxRecDepth 20000 in
theorem ggX7_bell_X7_isBell : GoodIn wsX7_bell wsX7_isBell := goodIn_r _ [7, 8, 44, 45, 46, 47, 48, 49, 50, 51, 52, 53, 54, 55, 56, 57, 58, 59, 60, 61, 62, 63, 64, 65, 66, 67, 68, 69] (by decide +kernel) (by decide +kernel)
set_option maxRecDepth 20000 in
theorem gX7_bell_X7_isBell : GoodIn wsX7_bell (wsV RX7 187 RX7 yX7_isBell wsX7_isBell) := goodIn_app (goodIn_of _ (by decide +kernel)) ggX7_bell_X7_isBell
set_option maxRecDepth 20000 in
theorem ggX7_bell_X7_no : GoodIn wsX7_bell wsX7_no := goodIn_r _ [12, 13, 44, 45, 46, 47, 48, 49, 50, 51, 52, 53, 54, 55, 56, 57, 58, 59, 60, 61, 62, 63, 64, 65, 66, 67, 68, 69] (by decide +kernel) (by decide +kernel)
set_option maxRecDepth 20000 in
theorem gX7_bell_X7_no : GoodIn wsX7_bell (wsV RX7 75 RX7 yX7_no wsX7_no) := goodIn_app (goodIn_of _ (by decide +kernel)) ggX7_bell_X7_no
set_option maxRecDepth 20000 in
theorem ggX7_bell_X7_hearers : GoodIn wsX7_bell wsX7_hearers := goodIn_r _ [17, 18, 19, 20, 21, 6, 22, 23, 24, 25, 26, 1, 27, 28, 29, 30, 31, 44, 45, 46, 47, 48, 49, 50, 51, 52, 53, 54, 55, 56, 57, 58, 59, 60, 61, 62, 63, 64, 65, 66, 67, 68, 69] (by decide +kernel) (by decide +kernel)
set_option maxRecDepth 20000 in
theorem gX7_bell_X7_hearers : GoodIn wsX7_bell (wsV RX7 167 RX7 yX7_hearers wsX7_hearers) := goodIn_app (goodIn_of _ (by decide +kernel)) ggX7_bell_X7_hearers
set_option maxRecDepth 20000 in
theorem ggX7_bell_X7_saidOf : GoodIn wsX7_bell wsX7_saidOf := goodIn_r _ [35, 36, 37, 38, 6, 39, 18, 40, 41, 42, 43, 26, 1, 31, 19, 20, 21, 22, 23, 24, 25, 27, 28, 29, 30, 14, 15, 16, 17, 44, 45, 46, 47, 48, 49, 50, 51, 52, 53, 54, 55, 56, 57, 58, 59, 60, 61, 62, 63, 64, 65, 66, 67, 68, 69] (by decide +kernel) (by decide +kernel)
set_option maxRecDepth 20000 in
theorem gX7_bell_X7_saidOf : GoodIn wsX7_bell (wsV RX7 170 RX7 yX7_saidOf wsX7_saidOf) := goodIn_app (goodIn_of _ (by decide +kernel)) ggX7_bell_X7_saidOf
theorem dX7_bell_0 : decode cX7_bell 0 = .ok (.aload_n 0, 1) := by decide +kernel
theorem dX7_bell_1 : decode cX7_bell 1 = .ok (.iload_n 1, 1) := by decide +kernel
theorem dX7_bell_2 : decode cX7_bell 2 = .ok (.invokevirtual 187, 3) := by decide +kernel
theorem dX7_bell_5 : decode cX7_bell 5 = .ok (.ifCond .ne 9, 3) := by decide +kernel
theorem dX7_bell_8 : decode cX7_bell 8 = .ok (.aload_n 0, 1) := by decide +kernel
theorem dX7_bell_9 : decode cX7_bell 9 = .ok (.iconst (-1), 1) := by decide +kernel
theorem dX7_bell_10 : decode cX7_bell 10 = .ok (.invokevirtual 75, 3) := by decide +kernel
theorem dX7_bell_13 : decode cX7_bell 13 = .ok (.ireturn, 1) := by decide +kernel
theorem dX7_bell_14 : decode cX7_bell 14 = .ok (.iload_n 2, 1) := by decide +kernel
theorem dX7_bell_15 : decode cX7_bell 15 = .ok (.tableswitch 55 0 3 #[29, 36, 43, 49], 29) := by decide +kernel
theorem dX7_bell_44 : decode cX7_bell 44 = .ok (.aload_n 0, 1) := by decide +kernel
theorem dX7_bell_45 : decode cX7_bell 45 = .ok (.getfield 13, 3) := by decide +kernel
theorem dX7_bell_48 : decode cX7_bell 48 = .ok (.iload_n 1, 1) := by decide +kernel
theorem dX7_bell_49 : decode cX7_bell 49 = .ok (.iaload, 1) := by decide +kernel
theorem dX7_bell_50 : decode cX7_bell 50 = .ok (.ireturn, 1) := by decide +kernel
theorem dX7_bell_51 : decode cX7_bell 51 = .ok (.aload_n 0, 1) := by decide +kernel
theorem dX7_bell_52 : decode cX7_bell 52 = .ok (.getfield 16, 3) := by decide +kernel
theorem dX7_bell_55 : decode cX7_bell 55 = .ok (.iload_n 1, 1) := by decide +kernel
theorem dX7_bell_56 : decode cX7_bell 56 = .ok (.iaload, 1) := by decide +kernel
theorem dX7_bell_57 : decode cX7_bell 57 = .ok (.ireturn, 1) := by decide +kernel
theorem dX7_bell_58 : decode cX7_bell 58 = .ok (.aload_n 0, 1) := by decide +kernel
theorem dX7_bell_59 : decode cX7_bell 59 = .ok (.iload_n 1, 1) := by decide +kernel
theorem dX7_bell_60 : decode cX7_bell 60 = .ok (.invokevirtual 167, 3) := by decide +kernel
theorem dX7_bell_63 : decode cX7_bell 63 = .ok (.ireturn, 1) := by decide +kernel
theorem dX7_bell_64 : decode cX7_bell 64 = .ok (.aload_n 0, 1) := by decide +kernel
theorem dX7_bell_65 : decode cX7_bell 65 = .ok (.iload_n 1, 1) := by decide +kernel
theorem dX7_bell_66 : decode cX7_bell 66 = .ok (.invokevirtual 170, 3) := by decide +kernel
theorem dX7_bell_69 : decode cX7_bell 69 = .ok (.ireturn, 1) := by decide +kernel
theorem dX7_bell_70 : decode cX7_bell 70 = .ok (.aload_n 0, 1) := by decide +kernel
theorem dX7_bell_71 : decode cX7_bell 71 = .ok (.bipush (-2), 2) := by decide +kernel
theorem dX7_bell_73 : decode cX7_bell 73 = .ok (.invokevirtual 75, 3) := by decide +kernel
theorem dX7_bell_76 : decode cX7_bell 76 = .ok (.ireturn, 1) := by decide +kernel
set_option maxRecDepth 20000 in
theorem ggX7_person_X7_isOne : GoodIn wsX7_person wsX7_isOne := goodIn_r _ [9, 10, 20, 21, 22, 23, 24, 25, 26, 27, 28, 29, 30, 31, 32, 33, 34, 35, 36, 37, 38, 39, 40, 41, 42, 43, 44, 45] (by decide +kernel) (by decide +kernel)
set_option maxRecDepth 20000 in
theorem gX7_person_X7_isOne : GoodIn wsX7_person (wsV RX7 120 RX7 yX7_isOne wsX7_isOne) := goodIn_app (goodIn_of _ (by decide +kernel)) ggX7_person_X7_isOne
set_option maxRecDepth 20000 in
theorem ggX7_person_X7_no : GoodIn wsX7_person wsX7_no := goodIn_r _ [14, 15, 20, 21, 22, 23, 24, 25, 26, 27, 28, 29, 30, 31, 32, 33, 34, 35, 36, 37, 38, 39, 40, 41, 42, 43, 44, 45] (by decide +kernel) (by decide +kernel)
set_option maxRecDepth 20000 in
theorem gX7_person_X7_no : GoodIn wsX7_person (wsV RX7 75 RX7 yX7_no wsX7_no) := goodIn_app (goodIn_of _ (by decide +kernel)) ggX7_person_X7_no
set_option maxRecDepth 20000 in
theorem ggX7_person_X7_nightsOf : GoodIn wsX7_person wsX7_nightsOf := goodIn_r _ [19, 1, 2, 20, 21, 22, 23, 24, 25, 26, 27, 28, 29, 30, 31, 32, 33, 34, 35, 36, 37, 38, 39, 40, 41, 42, 43, 44, 45] (by decide +kernel) (by decide +kernel)
set_option maxRecDepth 20000 in
theorem gX7_person_X7_nightsOf : GoodIn wsX7_person (wsV RX7 154 RX7 yX7_nightsOf wsX7_nightsOf) := goodIn_app (goodIn_of _ (by decide +kernel)) ggX7_person_X7_nightsOf
theorem dX7_person_0 : decode cX7_person 0 = .ok (.aload_n 0, 1) := by decide +kernel
theorem dX7_person_1 : decode cX7_person 1 = .ok (.iload_n 1, 1) := by decide +kernel
theorem dX7_person_2 : decode cX7_person 2 = .ok (.invokevirtual 120, 3) := by decide +kernel
theorem dX7_person_5 : decode cX7_person 5 = .ok (.ifCond .ne 9, 3) := by decide +kernel
theorem dX7_person_8 : decode cX7_person 8 = .ok (.aload_n 0, 1) := by decide +kernel
theorem dX7_person_9 : decode cX7_person 9 = .ok (.iconst (-1), 1) := by decide +kernel
theorem dX7_person_10 : decode cX7_person 10 = .ok (.invokevirtual 75, 3) := by decide +kernel
theorem dX7_person_13 : decode cX7_person 13 = .ok (.ireturn, 1) := by decide +kernel
theorem dX7_person_14 : decode cX7_person 14 = .ok (.iload_n 2, 1) := by decide +kernel
theorem dX7_person_15 : decode cX7_person 15 = .ok (.tableswitch 67 0 4 #[33, 40, 47, 54, 61], 33) := by decide +kernel
theorem dX7_person_48 : decode cX7_person 48 = .ok (.aload_n 0, 1) := by decide +kernel
theorem dX7_person_49 : decode cX7_person 49 = .ok (.getfield 19, 3) := by decide +kernel
theorem dX7_person_52 : decode cX7_person 52 = .ok (.iload_n 1, 1) := by decide +kernel
theorem dX7_person_53 : decode cX7_person 53 = .ok (.iaload, 1) := by decide +kernel
theorem dX7_person_54 : decode cX7_person 54 = .ok (.ireturn, 1) := by decide +kernel
theorem dX7_person_55 : decode cX7_person 55 = .ok (.aload_n 0, 1) := by decide +kernel
theorem dX7_person_56 : decode cX7_person 56 = .ok (.getfield 22, 3) := by decide +kernel
theorem dX7_person_59 : decode cX7_person 59 = .ok (.iload_n 1, 1) := by decide +kernel
theorem dX7_person_60 : decode cX7_person 60 = .ok (.iaload, 1) := by decide +kernel
theorem dX7_person_61 : decode cX7_person 61 = .ok (.ireturn, 1) := by decide +kernel
theorem dX7_person_62 : decode cX7_person 62 = .ok (.aload_n 0, 1) := by decide +kernel
theorem dX7_person_63 : decode cX7_person 63 = .ok (.getfield 25, 3) := by decide +kernel
theorem dX7_person_66 : decode cX7_person 66 = .ok (.iload_n 1, 1) := by decide +kernel
theorem dX7_person_67 : decode cX7_person 67 = .ok (.iaload, 1) := by decide +kernel
theorem dX7_person_68 : decode cX7_person 68 = .ok (.ireturn, 1) := by decide +kernel
theorem dX7_person_69 : decode cX7_person 69 = .ok (.aload_n 0, 1) := by decide +kernel
theorem dX7_person_70 : decode cX7_person 70 = .ok (.getfield 28, 3) := by decide +kernel
theorem dX7_person_73 : decode cX7_person 73 = .ok (.iload_n 1, 1) := by decide +kernel
theorem dX7_person_74 : decode cX7_person 74 = .ok (.iaload, 1) := by decide +kernel
theorem dX7_person_75 : decode cX7_person 75 = .ok (.ireturn, 1) := by decide +kernel
theorem dX7_person_76 : decode cX7_person 76 = .ok (.aload_n 0, 1) := by decide +kernel
theorem dX7_person_77 : decode cX7_person 77 = .ok (.iload_n 1, 1) := by decide +kernel
theorem dX7_person_78 : decode cX7_person 78 = .ok (.invokevirtual 154, 3) := by decide +kernel
theorem dX7_person_81 : decode cX7_person 81 = .ok (.ireturn, 1) := by decide +kernel
theorem dX7_person_82 : decode cX7_person 82 = .ok (.aload_n 0, 1) := by decide +kernel
theorem dX7_person_83 : decode cX7_person 83 = .ok (.bipush (-2), 2) := by decide +kernel
theorem dX7_person_85 : decode cX7_person 85 = .ok (.invokevirtual 75, 3) := by decide +kernel
theorem dX7_person_88 : decode cX7_person 88 = .ok (.ireturn, 1) := by decide +kernel
set_option maxRecDepth 20000 in
theorem ggX7_says_X7_isOne : GoodIn wsX7_says wsX7_isOne := goodIn_r _ [5, 6, 35, 36, 37, 38, 39, 40, 41, 42, 43, 44, 45, 46, 47, 48, 49, 50, 51, 52, 53, 54, 55, 56, 57, 58, 59, 60] (by decide +kernel) (by decide +kernel)
set_option maxRecDepth 20000 in
theorem gX7_says_X7_isOne : GoodIn wsX7_says (wsV RX7 120 RX7 yX7_isOne wsX7_isOne) := goodIn_app (goodIn_of _ (by decide +kernel)) ggX7_says_X7_isOne
set_option maxRecDepth 20000 in
theorem ggX7_says_X7_isBell : GoodIn wsX7_says wsX7_isBell := goodIn_r _ [10, 11, 35, 36, 37, 38, 39, 40, 41, 42, 43, 44, 45, 46, 47, 48, 49, 50, 51, 52, 53, 54, 55, 56, 57, 58, 59, 60] (by decide +kernel) (by decide +kernel)
set_option maxRecDepth 20000 in
theorem gX7_says_X7_isBell : GoodIn wsX7_says (wsV RX7 187 RX7 yX7_isBell wsX7_isBell) := goodIn_app (goodIn_of _ (by decide +kernel)) ggX7_says_X7_isBell
set_option maxRecDepth 20000 in
theorem ggX7_says_X7_saysOf : GoodIn wsX7_says wsX7_saysOf := goodIn_r _ [15, 16, 17, 18, 19, 20, 21, 4, 22, 23, 24, 25, 26, 27, 28, 29, 35, 36, 37, 38, 39, 40, 41, 42, 43, 44, 45, 46, 47, 48, 49, 50, 51, 52, 53, 54, 55, 56, 57, 58, 59, 60] (by decide +kernel) (by decide +kernel)
set_option maxRecDepth 20000 in
theorem gX7_says_X7_saysOf : GoodIn wsX7_says (wsV RX7 160 RX7 yX7_saysOf wsX7_saysOf) := goodIn_app (goodIn_of _ (by decide +kernel)) ggX7_says_X7_saysOf
set_option maxRecDepth 20000 in
theorem ggX7_says_X7_no : GoodIn wsX7_says wsX7_no := goodIn_r _ [33, 34, 35, 36, 37, 38, 39, 40, 41, 42, 43, 44, 45, 46, 47, 48, 49, 50, 51, 52, 53, 54, 55, 56, 57, 58, 59, 60] (by decide +kernel) (by decide +kernel)
set_option maxRecDepth 20000 in
theorem gX7_says_X7_no : GoodIn wsX7_says (wsV RX7 75 RX7 yX7_no wsX7_no) := goodIn_app (goodIn_of _ (by decide +kernel)) ggX7_says_X7_no
theorem dX7_says_0 : decode cX7_says 0 = .ok (.aload_n 0, 1) := by decide +kernel
theorem dX7_says_1 : decode cX7_says 1 = .ok (.iload_n 1, 1) := by decide +kernel
theorem dX7_says_2 : decode cX7_says 2 = .ok (.invokevirtual 120, 3) := by decide +kernel
theorem dX7_says_5 : decode cX7_says 5 = .ok (.ifCond .eq 20, 3) := by decide +kernel
theorem dX7_says_8 : decode cX7_says 8 = .ok (.aload_n 0, 1) := by decide +kernel
theorem dX7_says_9 : decode cX7_says 9 = .ok (.iload_n 2, 1) := by decide +kernel
theorem dX7_says_10 : decode cX7_says 10 = .ok (.invokevirtual 187, 3) := by decide +kernel
theorem dX7_says_13 : decode cX7_says 13 = .ok (.ifCond .eq 12, 3) := by decide +kernel
theorem dX7_says_16 : decode cX7_says 16 = .ok (.aload_n 0, 1) := by decide +kernel
theorem dX7_says_17 : decode cX7_says 17 = .ok (.iload_n 1, 1) := by decide +kernel
theorem dX7_says_18 : decode cX7_says 18 = .ok (.iload_n 2, 1) := by decide +kernel
theorem dX7_says_19 : decode cX7_says 19 = .ok (.invokevirtual 160, 3) := by decide +kernel
theorem dX7_says_22 : decode cX7_says 22 = .ok (.goto 8, 3) := by decide +kernel
theorem dX7_says_25 : decode cX7_says 25 = .ok (.aload_n 0, 1) := by decide +kernel
theorem dX7_says_26 : decode cX7_says 26 = .ok (.iconst (-1), 1) := by decide +kernel
theorem dX7_says_27 : decode cX7_says 27 = .ok (.invokevirtual 75, 3) := by decide +kernel
theorem dX7_says_30 : decode cX7_says 30 = .ok (.ireturn, 1) := by decide +kernel
set_option maxRecDepth 20000 in
theorem ggX7_becomes_X7_isOne : GoodIn wsX7_becomes wsX7_isOne := goodIn_r _ [5, 6, 15, 16, 17, 18, 19, 20, 21, 22, 23, 24, 25, 26, 27, 28, 29, 30, 31, 32, 33, 34, 35, 36, 37, 38, 39, 40] (by decide +kernel) (by decide +kernel)
set_option maxRecDepth 20000 in
theorem gX7_becomes_X7_isOne : GoodIn wsX7_becomes (wsV RX7 120 RX7 yX7_isOne wsX7_isOne) := goodIn_app (goodIn_of _ (by decide +kernel)) ggX7_becomes_X7_isOne
set_option maxRecDepth 20000 in
theorem ggX7_becomes_X7_bound : GoodIn wsX7_becomes wsX7_bound := goodIn_r _ [9] (by decide +kernel) (by decide +kernel)
set_option maxRecDepth 20000 in
theorem gX7_becomes_X7_bound : GoodIn wsX7_becomes (va_wsS RX7 68 yX7_bound wsX7_bound) := goodIn_app (goodIn_of _ (by decide +kernel)) ggX7_becomes_X7_bound
set_option maxRecDepth 20000 in
theorem ggX7_becomes_X7_no : GoodIn wsX7_becomes wsX7_no := goodIn_r _ [13, 14, 15, 16, 17, 18, 19, 20, 21, 22, 23, 24, 25, 26, 27, 28, 29, 30, 31, 32, 33, 34, 35, 36, 37, 38, 39, 40] (by decide +kernel) (by decide +kernel)
set_option maxRecDepth 20000 in
theorem gX7_becomes_X7_no : GoodIn wsX7_becomes (wsV RX7 75 RX7 yX7_no wsX7_no) := goodIn_app (goodIn_of _ (by decide +kernel)) ggX7_becomes_X7_no
theorem dX7_becomes_0 : decode cX7_becomes 0 = .ok (.aload_n 0, 1) := by decide +kernel
theorem dX7_becomes_1 : decode cX7_becomes 1 = .ok (.iload_n 2, 1) := by decide +kernel
theorem dX7_becomes_2 : decode cX7_becomes 2 = .ok (.invokevirtual 120, 3) := by decide +kernel
theorem dX7_becomes_5 : decode cX7_becomes 5 = .ok (.ifCond .ne 7, 3) := by decide +kernel
theorem dX7_becomes_8 : decode cX7_becomes 8 = .ok (.iconst (-1), 1) := by decide +kernel
theorem dX7_becomes_9 : decode cX7_becomes 9 = .ok (.goto 10, 3) := by decide +kernel
theorem dX7_becomes_12 : decode cX7_becomes 12 = .ok (.iload_n 3, 1) := by decide +kernel
theorem dX7_becomes_13 : decode cX7_becomes 13 = .ok (.iconst 0, 1) := by decide +kernel
theorem dX7_becomes_14 : decode cX7_becomes 14 = .ok (.iload 4, 2) := by decide +kernel
theorem dX7_becomes_16 : decode cX7_becomes 16 = .ok (.invokestatic 68, 3) := by decide +kernel
theorem dX7_becomes_19 : decode cX7_becomes 19 = .ok (.istore 5, 2) := by decide +kernel
theorem dX7_becomes_21 : decode cX7_becomes 21 = .ok (.iload 5, 2) := by decide +kernel
theorem dX7_becomes_23 : decode cX7_becomes 23 = .ok (.ifCond .eq 10, 3) := by decide +kernel
theorem dX7_becomes_26 : decode cX7_becomes 26 = .ok (.aload_n 0, 1) := by decide +kernel
theorem dX7_becomes_27 : decode cX7_becomes 27 = .ok (.iload 5, 2) := by decide +kernel
theorem dX7_becomes_29 : decode cX7_becomes 29 = .ok (.invokevirtual 75, 3) := by decide +kernel
theorem dX7_becomes_32 : decode cX7_becomes 32 = .ok (.ireturn, 1) := by decide +kernel
theorem dX7_becomes_33 : decode cX7_becomes 33 = .ok (.aload_n 1, 1) := by decide +kernel
theorem dX7_becomes_34 : decode cX7_becomes 34 = .ok (.iload_n 2, 1) := by decide +kernel
theorem dX7_becomes_35 : decode cX7_becomes 35 = .ok (.iaload, 1) := by decide +kernel
theorem dX7_becomes_36 : decode cX7_becomes 36 = .ok (.istore 6, 2) := by decide +kernel
theorem dX7_becomes_38 : decode cX7_becomes 38 = .ok (.aload_n 1, 1) := by decide +kernel
theorem dX7_becomes_39 : decode cX7_becomes 39 = .ok (.iload_n 2, 1) := by decide +kernel
theorem dX7_becomes_40 : decode cX7_becomes 40 = .ok (.iload_n 3, 1) := by decide +kernel
theorem dX7_becomes_41 : decode cX7_becomes 41 = .ok (.iastore, 1) := by decide +kernel
theorem dX7_becomes_42 : decode cX7_becomes 42 = .ok (.iload 6, 2) := by decide +kernel
theorem dX7_becomes_44 : decode cX7_becomes 44 = .ok (.ireturn, 1) := by decide +kernel
set_option maxRecDepth 20000 in
theorem ggX7_goes_X7_becomes : GoodIn wsX7_goes wsX7_becomes := goodIn_r _ [6, 7, 8, 9, 5, 10, 11, 12, 13, 14, 15, 16, 17, 18, 19, 20, 21, 22, 23, 24, 25, 26, 27, 28, 29, 30, 31, 32, 33, 34, 35, 36, 37, 38, 39, 40, 41, 42, 43, 44, 45] (by decide +kernel) (by decide +kernel)
set_option maxRecDepth 20000 in
theorem gX7_goes_X7_becomes : GoodIn wsX7_goes (wsV RX7 190 RX7 yX7_becomes wsX7_becomes) := goodIn_app (goodIn_of _ (by decide +kernel)) ggX7_goes_X7_becomes
theorem dX7_goes_0 : decode cX7_goes 0 = .ok (.aload_n 0, 1) := by decide +kernel
theorem dX7_goes_1 : decode cX7_goes 1 = .ok (.aload_n 0, 1) := by decide +kernel
theorem dX7_goes_2 : decode cX7_goes 2 = .ok (.getfield 28, 3) := by decide +kernel
theorem dX7_goes_5 : decode cX7_goes 5 = .ok (.iload_n 1, 1) := by decide +kernel
theorem dX7_goes_6 : decode cX7_goes 6 = .ok (.iload_n 2, 1) := by decide +kernel
theorem dX7_goes_7 : decode cX7_goes 7 = .ok (.bipush 9, 2) := by decide +kernel
theorem dX7_goes_9 : decode cX7_goes 9 = .ok (.invokevirtual 190, 3) := by decide +kernel
theorem dX7_goes_12 : decode cX7_goes 12 = .ok (.ireturn, 1) := by decide +kernel
set_option maxRecDepth 20000 in
theorem ggX7_sleeps_X7_becomes : GoodIn wsX7_sleeps wsX7_becomes := goodIn_r _ [6, 7, 8, 9, 5, 10, 11, 12, 13, 14, 15, 16, 17, 18, 19, 20, 21, 22, 23, 24, 25, 26, 27, 28, 29, 30, 31, 32, 33, 34, 35, 36, 37, 38, 39, 40, 41, 42, 43, 44, 45] (by decide +kernel) (by decide +kernel)
set_option maxRecDepth 20000 in
theorem gX7_sleeps_X7_becomes : GoodIn wsX7_sleeps (wsV RX7 190 RX7 yX7_becomes wsX7_becomes) := goodIn_app (goodIn_of _ (by decide +kernel)) ggX7_sleeps_X7_becomes
theorem dX7_sleeps_0 : decode cX7_sleeps 0 = .ok (.aload_n 0, 1) := by decide +kernel
theorem dX7_sleeps_1 : decode cX7_sleeps 1 = .ok (.aload_n 0, 1) := by decide +kernel
theorem dX7_sleeps_2 : decode cX7_sleeps 2 = .ok (.getfield 25, 3) := by decide +kernel
theorem dX7_sleeps_5 : decode cX7_sleeps 5 = .ok (.iload_n 1, 1) := by decide +kernel
theorem dX7_sleeps_6 : decode cX7_sleeps 6 = .ok (.iload_n 2, 1) := by decide +kernel
theorem dX7_sleeps_7 : decode cX7_sleeps 7 = .ok (.bipush 99, 2) := by decide +kernel
theorem dX7_sleeps_9 : decode cX7_sleeps 9 = .ok (.invokevirtual 190, 3) := by decide +kernel
theorem dX7_sleeps_12 : decode cX7_sleeps 12 = .ok (.ireturn, 1) := by decide +kernel
set_option maxRecDepth 20000 in
theorem ggX7_beds_X7_bound : GoodIn wsX7_beds wsX7_bound := goodIn_r _ [5] (by decide +kernel) (by decide +kernel)
set_option maxRecDepth 20000 in
theorem gX7_beds_X7_bound : GoodIn wsX7_beds (va_wsS RX7 68 yX7_bound wsX7_bound) := goodIn_app (goodIn_of _ (by decide +kernel)) ggX7_beds_X7_bound
set_option maxRecDepth 20000 in
theorem ggX7_beds_X7_no : GoodIn wsX7_beds wsX7_no := goodIn_r _ [9, 10, 11, 12, 13, 14, 15, 16, 17, 18, 19, 20, 21, 22, 23, 24, 25, 26, 27, 28, 29, 30, 31, 32, 33, 34, 35, 36] (by decide +kernel) (by decide +kernel)
set_option maxRecDepth 20000 in
theorem gX7_beds_X7_no : GoodIn wsX7_beds (wsV RX7 75 RX7 yX7_no wsX7_no) := goodIn_app (goodIn_of _ (by decide +kernel)) ggX7_beds_X7_no
theorem dX7_beds_0 : decode cX7_beds 0 = .ok (.iload_n 1, 1) := by decide +kernel
theorem dX7_beds_1 : decode cX7_beds 1 = .ok (.iconst 1, 1) := by decide +kernel
theorem dX7_beds_2 : decode cX7_beds 2 = .ok (.bipush 8, 2) := by decide +kernel
theorem dX7_beds_4 : decode cX7_beds 4 = .ok (.invokestatic 68, 3) := by decide +kernel
theorem dX7_beds_7 : decode cX7_beds 7 = .ok (.istore_n 2, 1) := by decide +kernel
theorem dX7_beds_8 : decode cX7_beds 8 = .ok (.iload_n 2, 1) := by decide +kernel
theorem dX7_beds_9 : decode cX7_beds 9 = .ok (.ifCond .eq 9, 3) := by decide +kernel
theorem dX7_beds_12 : decode cX7_beds 12 = .ok (.aload_n 0, 1) := by decide +kernel
theorem dX7_beds_13 : decode cX7_beds 13 = .ok (.iload_n 2, 1) := by decide +kernel
theorem dX7_beds_14 : decode cX7_beds 14 = .ok (.invokevirtual 75, 3) := by decide +kernel
theorem dX7_beds_17 : decode cX7_beds 17 = .ok (.ireturn, 1) := by decide +kernel
theorem dX7_beds_18 : decode cX7_beds 18 = .ok (.aload_n 0, 1) := by decide +kernel
theorem dX7_beds_19 : decode cX7_beds 19 = .ok (.getfield 56, 3) := by decide +kernel
theorem dX7_beds_22 : decode cX7_beds 22 = .ok (.istore_n 3, 1) := by decide +kernel
theorem dX7_beds_23 : decode cX7_beds 23 = .ok (.aload_n 0, 1) := by decide +kernel
theorem dX7_beds_24 : decode cX7_beds 24 = .ok (.iload_n 1, 1) := by decide +kernel
theorem dX7_beds_25 : decode cX7_beds 25 = .ok (.putfield 56, 3) := by decide +kernel
theorem dX7_beds_28 : decode cX7_beds 28 = .ok (.iload_n 3, 1) := by decide +kernel
theorem dX7_beds_29 : decode cX7_beds 29 = .ok (.ireturn, 1) := by decide +kernel
set_option maxRecDepth 20000 in
theorem ggX7_turn_X7_isOne : GoodIn wsX7_turn wsX7_isOne := goodIn_r _ [7, 8, 20, 21, 22, 23, 24, 25, 26, 27, 28, 29, 30, 31, 32, 33, 34, 35, 36, 37, 38, 39, 40, 41, 42, 43, 44, 45] (by decide +kernel) (by decide +kernel)
set_option maxRecDepth 20000 in
theorem gX7_turn_X7_isOne : GoodIn wsX7_turn (wsV RX7 120 RX7 yX7_isOne wsX7_isOne) := goodIn_app (goodIn_of _ (by decide +kernel)) ggX7_turn_X7_isOne
set_option maxRecDepth 20000 in
theorem ggX7_turn_X7_isIn : GoodIn wsX7_turn wsX7_isIn := goodIn_r _ [11] (by decide +kernel) (by decide +kernel)
set_option maxRecDepth 20000 in
theorem gX7_turn_X7_isIn : GoodIn wsX7_turn (va_wsS RX7 86 yX7_isIn wsX7_isIn) := goodIn_app (goodIn_of _ (by decide +kernel)) ggX7_turn_X7_isIn
set_option maxRecDepth 20000 in
theorem ggX7_turn_X7_bound : GoodIn wsX7_turn wsX7_bound := goodIn_r _ [14] (by decide +kernel) (by decide +kernel)
set_option maxRecDepth 20000 in
theorem gX7_turn_X7_bound : GoodIn wsX7_turn (va_wsS RX7 68 yX7_bound wsX7_bound) := goodIn_app (goodIn_of _ (by decide +kernel)) ggX7_turn_X7_bound
set_option maxRecDepth 20000 in
theorem ggX7_turn_X7_no : GoodIn wsX7_turn wsX7_no := goodIn_r _ [18, 19, 20, 21, 22, 23, 24, 25, 26, 27, 28, 29, 30, 31, 32, 33, 34, 35, 36, 37, 38, 39, 40, 41, 42, 43, 44, 45] (by decide +kernel) (by decide +kernel)
set_option maxRecDepth 20000 in
theorem gX7_turn_X7_no : GoodIn wsX7_turn (wsV RX7 75 RX7 yX7_no wsX7_no) := goodIn_app (goodIn_of _ (by decide +kernel)) ggX7_turn_X7_no
theorem dX7_turn_0 : decode cX7_turn 0 = .ok (.aload_n 0, 1) := by decide +kernel
theorem dX7_turn_1 : decode cX7_turn 1 = .ok (.iload_n 1, 1) := by decide +kernel
theorem dX7_turn_2 : decode cX7_turn 2 = .ok (.invokevirtual 120, 3) := by decide +kernel
theorem dX7_turn_5 : decode cX7_turn 5 = .ok (.ifCond .ne 7, 3) := by decide +kernel
theorem dX7_turn_8 : decode cX7_turn 8 = .ok (.iconst (-1), 1) := by decide +kernel
theorem dX7_turn_9 : decode cX7_turn 9 = .ok (.goto 24, 3) := by decide +kernel
theorem dX7_turn_12 : decode cX7_turn 12 = .ok (.iload_n 2, 1) := by decide +kernel
theorem dX7_turn_13 : decode cX7_turn 13 = .ok (.iconst 0, 1) := by decide +kernel
theorem dX7_turn_14 : decode cX7_turn 14 = .ok (.iconst 5, 1) := by decide +kernel
theorem dX7_turn_15 : decode cX7_turn 15 = .ok (.invokestatic 86, 3) := by decide +kernel
theorem dX7_turn_18 : decode cX7_turn 18 = .ok (.ifCond .ne 8, 3) := by decide +kernel
theorem dX7_turn_21 : decode cX7_turn 21 = .ok (.bipush (-2), 2) := by decide +kernel
theorem dX7_turn_23 : decode cX7_turn 23 = .ok (.goto 10, 3) := by decide +kernel
theorem dX7_turn_26 : decode cX7_turn 26 = .ok (.iload_n 3, 1) := by decide +kernel
theorem dX7_turn_27 : decode cX7_turn 27 = .ok (.iconst 0, 1) := by decide +kernel
theorem dX7_turn_28 : decode cX7_turn 28 = .ok (.bipush 9, 2) := by decide +kernel
theorem dX7_turn_30 : decode cX7_turn 30 = .ok (.invokestatic 68, 3) := by decide +kernel
theorem dX7_turn_33 : decode cX7_turn 33 = .ok (.istore 4, 2) := by decide +kernel
theorem dX7_turn_35 : decode cX7_turn 35 = .ok (.iload 4, 2) := by decide +kernel
theorem dX7_turn_37 : decode cX7_turn 37 = .ok (.ifCond .eq 10, 3) := by decide +kernel
theorem dX7_turn_40 : decode cX7_turn 40 = .ok (.aload_n 0, 1) := by decide +kernel
theorem dX7_turn_41 : decode cX7_turn 41 = .ok (.iload 4, 2) := by decide +kernel
theorem dX7_turn_43 : decode cX7_turn 43 = .ok (.invokevirtual 75, 3) := by decide +kernel
theorem dX7_turn_46 : decode cX7_turn 46 = .ok (.ireturn, 1) := by decide +kernel
theorem dX7_turn_47 : decode cX7_turn 47 = .ok (.bipush 10, 2) := by decide +kernel
theorem dX7_turn_49 : decode cX7_turn 49 = .ok (.aload_n 0, 1) := by decide +kernel
theorem dX7_turn_50 : decode cX7_turn 50 = .ok (.getfield 19, 3) := by decide +kernel
theorem dX7_turn_53 : decode cX7_turn 53 = .ok (.iload_n 1, 1) := by decide +kernel
theorem dX7_turn_54 : decode cX7_turn 54 = .ok (.iaload, 1) := by decide +kernel
theorem dX7_turn_55 : decode cX7_turn 55 = .ok (.imul, 1) := by decide +kernel
theorem dX7_turn_56 : decode cX7_turn 56 = .ok (.aload_n 0, 1) := by decide +kernel
theorem dX7_turn_57 : decode cX7_turn 57 = .ok (.getfield 22, 3) := by decide +kernel
theorem dX7_turn_60 : decode cX7_turn 60 = .ok (.iload_n 1, 1) := by decide +kernel
theorem dX7_turn_61 : decode cX7_turn 61 = .ok (.iaload, 1) := by decide +kernel
theorem dX7_turn_62 : decode cX7_turn 62 = .ok (.iadd, 1) := by decide +kernel
theorem dX7_turn_63 : decode cX7_turn 63 = .ok (.istore 5, 2) := by decide +kernel
theorem dX7_turn_65 : decode cX7_turn 65 = .ok (.aload_n 0, 1) := by decide +kernel
theorem dX7_turn_66 : decode cX7_turn 66 = .ok (.getfield 19, 3) := by decide +kernel
theorem dX7_turn_69 : decode cX7_turn 69 = .ok (.iload_n 1, 1) := by decide +kernel
theorem dX7_turn_70 : decode cX7_turn 70 = .ok (.iload_n 2, 1) := by decide +kernel
theorem dX7_turn_71 : decode cX7_turn 71 = .ok (.iastore, 1) := by decide +kernel
theorem dX7_turn_72 : decode cX7_turn 72 = .ok (.aload_n 0, 1) := by decide +kernel
theorem dX7_turn_73 : decode cX7_turn 73 = .ok (.getfield 22, 3) := by decide +kernel
theorem dX7_turn_76 : decode cX7_turn 76 = .ok (.iload_n 1, 1) := by decide +kernel
theorem dX7_turn_77 : decode cX7_turn 77 = .ok (.iload_n 3, 1) := by decide +kernel
theorem dX7_turn_78 : decode cX7_turn 78 = .ok (.iastore, 1) := by decide +kernel
theorem dX7_turn_79 : decode cX7_turn 79 = .ok (.iload 5, 2) := by decide +kernel
theorem dX7_turn_81 : decode cX7_turn 81 = .ok (.ireturn, 1) := by decide +kernel
set_option maxRecDepth 20000 in
theorem ggX7_days_X7_bound : GoodIn wsX7_days wsX7_bound := goodIn_r _ [5] (by decide +kernel) (by decide +kernel)
set_option maxRecDepth 20000 in
theorem gX7_days_X7_bound : GoodIn wsX7_days (va_wsS RX7 68 yX7_bound wsX7_bound) := goodIn_app (goodIn_of _ (by decide +kernel)) ggX7_days_X7_bound
set_option maxRecDepth 20000 in
theorem ggX7_days_X7_no : GoodIn wsX7_days wsX7_no := goodIn_r _ [9, 10, 51, 52, 53, 54, 55, 56, 57, 58, 59, 60, 61, 62, 63, 64, 65, 66, 67, 68, 69, 70, 71, 72, 73, 74, 75, 76] (by decide +kernel) (by decide +kernel)
set_option maxRecDepth 20000 in
theorem gX7_days_X7_no : GoodIn wsX7_days (wsV RX7 75 RX7 yX7_no wsX7_no) := goodIn_app (goodIn_of _ (by decide +kernel)) ggX7_days_X7_no
set_option maxRecDepth 20000 in
theorem ggX7_days_X7_goesOn : GoodIn wsX7_days wsX7_goesOn := goodIn_r _ [14, 15, 16, 17, 4, 18, 1, 19, 20, 21, 22, 23, 24, 25, 26, 27, 28, 29, 51, 52, 53, 54, 55, 56, 57, 58, 59, 60, 61, 62, 63, 64, 65, 66, 67, 68, 69, 70, 71, 72, 73, 74, 75, 76] (by decide +kernel) (by decide +kernel)
set_option maxRecDepth 20000 in
theorem gX7_days_X7_goesOn : GoodIn wsX7_days (wsV RX7 110 RX7 yX7_goesOn wsX7_goesOn) := goodIn_app (goodIn_of _ (by decide +kernel)) ggX7_days_X7_goesOn
set_option maxRecDepth 20000 in
theorem ggX7_days_X7_manyHear : GoodIn wsX7_days wsX7_manyHear := goodIn_r _ [33, 19, 34, 35, 36, 4, 37, 38, 39, 40, 41, 42, 43, 20, 25, 44, 45, 46, 47, 48, 49, 50, 51, 52, 53, 54, 55, 56, 57, 58, 59, 60, 61, 62, 63, 64, 65, 66, 67, 68, 69, 70, 71, 72, 73, 74, 75, 76] (by decide +kernel) (by decide +kernel)
set_option maxRecDepth 20000 in
theorem gX7_days_X7_manyHear : GoodIn wsX7_days (wsV RX7 194 RX7 yX7_manyHear wsX7_manyHear) := goodIn_app (goodIn_of _ (by decide +kernel)) ggX7_days_X7_manyHear
theorem dX7_days_0 : decode cX7_days 0 = .ok (.iload_n 1, 1) := by decide +kernel
theorem dX7_days_1 : decode cX7_days 1 = .ok (.iconst 1, 1) := by decide +kernel
theorem dX7_days_2 : decode cX7_days 2 = .ok (.bipush 60, 2) := by decide +kernel
theorem dX7_days_4 : decode cX7_days 4 = .ok (.invokestatic 68, 3) := by decide +kernel
theorem dX7_days_7 : decode cX7_days 7 = .ok (.istore_n 2, 1) := by decide +kernel
theorem dX7_days_8 : decode cX7_days 8 = .ok (.iload_n 2, 1) := by decide +kernel
theorem dX7_days_9 : decode cX7_days 9 = .ok (.ifCond .ne 18, 3) := by decide +kernel
theorem dX7_days_12 : decode cX7_days 12 = .ok (.aload_n 0, 1) := by decide +kernel
theorem dX7_days_13 : decode cX7_days 13 = .ok (.getfield 107, 3) := by decide +kernel
theorem dX7_days_16 : decode cX7_days 16 = .ok (.iload_n 1, 1) := by decide +kernel
theorem dX7_days_17 : decode cX7_days 17 = .ok (.iadd, 1) := by decide +kernel
theorem dX7_days_18 : decode cX7_days 18 = .ok (.sipush 999, 3) := by decide +kernel
theorem dX7_days_21 : decode cX7_days 21 = .ok (.if_icmp .le 6, 3) := by decide +kernel
theorem dX7_days_24 : decode cX7_days 24 = .ok (.bipush (-6), 2) := by decide +kernel
theorem dX7_days_26 : decode cX7_days 26 = .ok (.istore_n 2, 1) := by decide +kernel
theorem dX7_days_27 : decode cX7_days 27 = .ok (.iload_n 2, 1) := by decide +kernel
theorem dX7_days_28 : decode cX7_days 28 = .ok (.ifCond .eq 9, 3) := by decide +kernel
theorem dX7_days_31 : decode cX7_days 31 = .ok (.aload_n 0, 1) := by decide +kernel
theorem dX7_days_32 : decode cX7_days 32 = .ok (.iload_n 2, 1) := by decide +kernel
theorem dX7_days_33 : decode cX7_days 33 = .ok (.invokevirtual 75, 3) := by decide +kernel
theorem dX7_days_36 : decode cX7_days 36 = .ok (.ireturn, 1) := by decide +kernel
theorem dX7_days_37 : decode cX7_days 37 = .ok (.aload_n 0, 1) := by decide +kernel
theorem dX7_days_38 : decode cX7_days 38 = .ok (.iload_n 1, 1) := by decide +kernel
theorem dX7_days_39 : decode cX7_days 39 = .ok (.invokevirtual 110, 3) := by decide +kernel
theorem dX7_days_42 : decode cX7_days 42 = .ok (.aload_n 0, 1) := by decide +kernel
theorem dX7_days_43 : decode cX7_days 43 = .ok (.invokevirtual 194, 3) := by decide +kernel
theorem dX7_days_46 : decode cX7_days 46 = .ok (.ireturn, 1) := by decide +kernel
set_option maxRecDepth 20000 in
theorem ggX7_notDays_X7_bound : GoodIn wsX7_notDays wsX7_bound := goodIn_r _ [4] (by decide +kernel) (by decide +kernel)
set_option maxRecDepth 20000 in
theorem gX7_notDays_X7_bound : GoodIn wsX7_notDays (va_wsS RX7 68 yX7_bound wsX7_bound) := goodIn_app (goodIn_of _ (by decide +kernel)) ggX7_notDays_X7_bound
theorem dX7_notDays_0 : decode cX7_notDays 0 = .ok (.iload_n 0, 1) := by decide +kernel
theorem dX7_notDays_1 : decode cX7_notDays 1 = .ok (.iconst 0, 1) := by decide +kernel
theorem dX7_notDays_2 : decode cX7_notDays 2 = .ok (.bipush 99, 2) := by decide +kernel
theorem dX7_notDays_4 : decode cX7_notDays 4 = .ok (.invokestatic 68, 3) := by decide +kernel
theorem dX7_notDays_7 : decode cX7_notDays 7 = .ok (.ireturn, 1) := by decide +kernel
set_option maxRecDepth 20000 in
theorem ggX7_personThen_X7_isOne : GoodIn wsX7_personThen wsX7_isOne := goodIn_r _ [7, 8, 68, 69, 70, 71, 72, 73, 74, 75, 76, 77, 78, 79, 80, 81, 82, 83, 84, 85, 86, 87, 88, 89, 90, 91, 92, 93] (by decide +kernel) (by decide +kernel)
set_option maxRecDepth 20000 in
theorem gX7_personThen_X7_isOne : GoodIn wsX7_personThen (wsV RX7 120 RX7 yX7_isOne wsX7_isOne) := goodIn_app (goodIn_of _ (by decide +kernel)) ggX7_personThen_X7_isOne
set_option maxRecDepth 20000 in
theorem ggX7_personThen_X7_notDays : GoodIn wsX7_personThen wsX7_notDays := goodIn_r _ [11, 12, 13, 6, 14] (by decide +kernel) (by decide +kernel)
set_option maxRecDepth 20000 in
theorem gX7_personThen_X7_notDays : GoodIn wsX7_personThen (va_wsS RX7 197 yX7_notDays wsX7_notDays) := goodIn_app (goodIn_of _ (by decide +kernel)) ggX7_personThen_X7_notDays
set_option maxRecDepth 20000 in
theorem ggX7_personThen_X7_isIn : GoodIn wsX7_personThen wsX7_isIn := goodIn_r _ [17] (by decide +kernel) (by decide +kernel)
set_option maxRecDepth 20000 in
theorem gX7_personThen_X7_isIn : GoodIn wsX7_personThen (va_wsS RX7 86 yX7_isIn wsX7_isIn) := goodIn_app (goodIn_of _ (by decide +kernel)) ggX7_personThen_X7_isIn
set_option maxRecDepth 20000 in
theorem ggX7_personThen_X7_no : GoodIn wsX7_personThen wsX7_no := goodIn_r _ [21, 22, 68, 69, 70, 71, 72, 73, 74, 75, 76, 77, 78, 79, 80, 81, 82, 83, 84, 85, 86, 87, 88, 89, 90, 91, 92, 93] (by decide +kernel) (by decide +kernel)
set_option maxRecDepth 20000 in
theorem gX7_personThen_X7_no : GoodIn wsX7_personThen (wsV RX7 75 RX7 yX7_no wsX7_no) := goodIn_app (goodIn_of _ (by decide +kernel)) ggX7_personThen_X7_no
set_option maxRecDepth 20000 in
theorem ggX7_personThen_X7_thinks : GoodIn wsX7_personThen wsX7_thinks := goodIn_r _ [26, 27, 28, 29, 6, 30, 31, 32, 33, 34, 35, 36, 1, 2, 37, 8, 38, 39, 40, 41, 42, 43, 44, 45, 46, 47, 48, 68, 69, 70, 71, 72, 73, 74, 75, 76, 77, 78, 79, 80, 81, 82, 83, 84, 85, 86, 87, 88, 89, 90, 91, 92, 93] (by decide +kernel) (by decide +kernel)
set_option maxRecDepth 20000 in
theorem gX7_personThen_X7_thinks : GoodIn wsX7_personThen (wsV RX7 200 RX7 yX7_thinks wsX7_thinks) := goodIn_app (goodIn_of _ (by decide +kernel)) ggX7_personThen_X7_thinks
set_option maxRecDepth 20000 in
theorem ggX7_personThen_X7_goesOn : GoodIn wsX7_personThen wsX7_goesOn := goodIn_r _ [52, 53, 54, 55, 6, 56, 38, 8, 2, 57, 58, 59, 60, 1, 39, 61, 62, 63, 68, 69, 70, 71, 72, 73, 74, 75, 76, 77, 78, 79, 80, 81, 82, 83, 84, 85, 86, 87, 88, 89, 90, 91, 92, 93] (by decide +kernel) (by decide +kernel)
set_option maxRecDepth 20000 in
theorem gX7_personThen_X7_goesOn : GoodIn wsX7_personThen (wsV RX7 110 RX7 yX7_goesOn wsX7_goesOn) := goodIn_app (goodIn_of _ (by decide +kernel)) ggX7_personThen_X7_goesOn
set_option maxRecDepth 20000 in
theorem ggX7_personThen_X7_forgets : GoodIn wsX7_personThen wsX7_forgets := goodIn_r _ [67, 27, 28, 29, 6, 30, 31, 32, 33, 34, 35, 36, 1, 2, 37, 8, 38, 39, 40, 41, 42, 43, 44, 45, 46, 47, 48, 68, 69, 70, 71, 72, 73, 74, 75, 76, 77, 78, 79, 80, 81, 82, 83, 84, 85, 86, 87, 88, 89, 90, 91, 92, 93] (by decide +kernel) (by decide +kernel)
set_option maxRecDepth 20000 in
theorem gX7_personThen_X7_forgets : GoodIn wsX7_personThen (wsV RX7 203 RX7 yX7_forgets wsX7_forgets) := goodIn_app (goodIn_of _ (by decide +kernel)) ggX7_personThen_X7_forgets
theorem dX7_personThen_0 : decode cX7_personThen 0 = .ok (.aload_n 0, 1) := by decide +kernel
theorem dX7_personThen_1 : decode cX7_personThen 1 = .ok (.iload_n 1, 1) := by decide +kernel
theorem dX7_personThen_2 : decode cX7_personThen 2 = .ok (.invokevirtual 120, 3) := by decide +kernel
theorem dX7_personThen_5 : decode cX7_personThen 5 = .ok (.ifCond .ne 7, 3) := by decide +kernel
theorem dX7_personThen_8 : decode cX7_personThen 8 = .ok (.iconst (-1), 1) := by decide +kernel
theorem dX7_personThen_9 : decode cX7_personThen 9 = .ok (.goto 7, 3) := by decide +kernel
theorem dX7_personThen_12 : decode cX7_personThen 12 = .ok (.iload_n 2, 1) := by decide +kernel
theorem dX7_personThen_13 : decode cX7_personThen 13 = .ok (.invokestatic 197, 3) := by decide +kernel
theorem dX7_personThen_16 : decode cX7_personThen 16 = .ok (.istore 4, 2) := by decide +kernel
theorem dX7_personThen_18 : decode cX7_personThen 18 = .ok (.iload 4, 2) := by decide +kernel
theorem dX7_personThen_20 : decode cX7_personThen 20 = .ok (.ifCond .ne 16, 3) := by decide +kernel
theorem dX7_personThen_23 : decode cX7_personThen 23 = .ok (.iload_n 3, 1) := by decide +kernel
theorem dX7_personThen_24 : decode cX7_personThen 24 = .ok (.iconst 0, 1) := by decide +kernel
theorem dX7_personThen_25 : decode cX7_personThen 25 = .ok (.iconst 1, 1) := by decide +kernel
theorem dX7_personThen_26 : decode cX7_personThen 26 = .ok (.invokestatic 86, 3) := by decide +kernel
theorem dX7_personThen_29 : decode cX7_personThen 29 = .ok (.ifCond .ne 7, 3) := by decide +kernel
theorem dX7_personThen_32 : decode cX7_personThen 32 = .ok (.bipush (-2), 2) := by decide +kernel
theorem dX7_personThen_34 : decode cX7_personThen 34 = .ok (.istore 4, 2) := by decide +kernel
theorem dX7_personThen_36 : decode cX7_personThen 36 = .ok (.iload 4, 2) := by decide +kernel
theorem dX7_personThen_38 : decode cX7_personThen 38 = .ok (.ifCond .eq 10, 3) := by decide +kernel
theorem dX7_personThen_41 : decode cX7_personThen 41 = .ok (.aload_n 0, 1) := by decide +kernel
theorem dX7_personThen_42 : decode cX7_personThen 42 = .ok (.iload 4, 2) := by decide +kernel
theorem dX7_personThen_44 : decode cX7_personThen 44 = .ok (.invokevirtual 75, 3) := by decide +kernel
theorem dX7_personThen_47 : decode cX7_personThen 47 = .ok (.ireturn, 1) := by decide +kernel
theorem dX7_personThen_48 : decode cX7_personThen 48 = .ok (.aload_n 0, 1) := by decide +kernel
theorem dX7_personThen_49 : decode cX7_personThen 49 = .ok (.invokevirtual 200, 3) := by decide +kernel
theorem dX7_personThen_52 : decode cX7_personThen 52 = .ok (.aload_n 0, 1) := by decide +kernel
theorem dX7_personThen_53 : decode cX7_personThen 53 = .ok (.iload_n 2, 1) := by decide +kernel
theorem dX7_personThen_54 : decode cX7_personThen 54 = .ok (.invokevirtual 110, 3) := by decide +kernel
theorem dX7_personThen_57 : decode cX7_personThen 57 = .ok (.iload_n 3, 1) := by decide +kernel
theorem dX7_personThen_58 : decode cX7_personThen 58 = .ok (.ifCond .ne 12, 3) := by decide +kernel
theorem dX7_personThen_61 : decode cX7_personThen 61 = .ok (.aload_n 0, 1) := by decide +kernel
theorem dX7_personThen_62 : decode cX7_personThen 62 = .ok (.getfield 25, 3) := by decide +kernel
theorem dX7_personThen_65 : decode cX7_personThen 65 = .ok (.iload_n 1, 1) := by decide +kernel
theorem dX7_personThen_66 : decode cX7_personThen 66 = .ok (.iaload, 1) := by decide +kernel
theorem dX7_personThen_67 : decode cX7_personThen 67 = .ok (.goto 9, 3) := by decide +kernel
theorem dX7_personThen_70 : decode cX7_personThen 70 = .ok (.aload_n 0, 1) := by decide +kernel
theorem dX7_personThen_71 : decode cX7_personThen 71 = .ok (.getfield 28, 3) := by decide +kernel
theorem dX7_personThen_74 : decode cX7_personThen 74 = .ok (.iload_n 1, 1) := by decide +kernel
theorem dX7_personThen_75 : decode cX7_personThen 75 = .ok (.iaload, 1) := by decide +kernel
theorem dX7_personThen_76 : decode cX7_personThen 76 = .ok (.istore 5, 2) := by decide +kernel
theorem dX7_personThen_78 : decode cX7_personThen 78 = .ok (.aload_n 0, 1) := by decide +kernel
theorem dX7_personThen_79 : decode cX7_personThen 79 = .ok (.invokevirtual 203, 3) := by decide +kernel
theorem dX7_personThen_82 : decode cX7_personThen 82 = .ok (.iload 5, 2) := by decide +kernel
theorem dX7_personThen_84 : decode cX7_personThen 84 = .ok (.ireturn, 1) := by decide +kernel
set_option maxRecDepth 20000 in
theorem ggX7_bellThen_X7_isBell : GoodIn wsX7_bellThen wsX7_isBell := goodIn_r _ [5, 6, 97, 98, 99, 100, 101, 102, 103, 104, 105, 106, 107, 108, 109, 110, 111, 112, 113, 114, 115, 116, 117, 118, 119, 120, 121, 122] (by decide +kernel) (by decide +kernel)
set_option maxRecDepth 20000 in
theorem gX7_bellThen_X7_isBell : GoodIn wsX7_bellThen (wsV RX7 187 RX7 yX7_isBell wsX7_isBell) := goodIn_app (goodIn_of _ (by decide +kernel)) ggX7_bellThen_X7_isBell
set_option maxRecDepth 20000 in
theorem ggX7_bellThen_X7_notDays : GoodIn wsX7_bellThen wsX7_notDays := goodIn_r _ [9, 10, 11, 4, 12] (by decide +kernel) (by decide +kernel)
set_option maxRecDepth 20000 in
theorem gX7_bellThen_X7_notDays : GoodIn wsX7_bellThen (va_wsS RX7 197 yX7_notDays wsX7_notDays) := goodIn_app (goodIn_of _ (by decide +kernel)) ggX7_bellThen_X7_notDays
set_option maxRecDepth 20000 in
theorem ggX7_bellThen_X7_isIn : GoodIn wsX7_bellThen wsX7_isIn := goodIn_r _ [15] (by decide +kernel) (by decide +kernel)
set_option maxRecDepth 20000 in
theorem gX7_bellThen_X7_isIn : GoodIn wsX7_bellThen (va_wsS RX7 86 yX7_isIn wsX7_isIn) := goodIn_app (goodIn_of _ (by decide +kernel)) ggX7_bellThen_X7_isIn
set_option maxRecDepth 20000 in
theorem ggX7_bellThen_X7_no : GoodIn wsX7_bellThen wsX7_no := goodIn_r _ [19, 20, 97, 98, 99, 100, 101, 102, 103, 104, 105, 106, 107, 108, 109, 110, 111, 112, 113, 114, 115, 116, 117, 118, 119, 120, 121, 122] (by decide +kernel) (by decide +kernel)
set_option maxRecDepth 20000 in
theorem gX7_bellThen_X7_no : GoodIn wsX7_bellThen (wsV RX7 75 RX7 yX7_no wsX7_no) := goodIn_app (goodIn_of _ (by decide +kernel)) ggX7_bellThen_X7_no
set_option maxRecDepth 20000 in
theorem ggX7_bellThen_X7_thinks : GoodIn wsX7_bellThen wsX7_thinks := goodIn_r _ [24, 25, 26, 27, 4, 28, 29, 30, 31, 32, 33, 34, 35, 36, 6, 37, 38, 39, 40, 41, 42, 43, 44, 45, 46, 47, 48, 97, 98, 99, 100, 101, 102, 103, 104, 105, 106, 107, 108, 109, 110, 111, 112, 113, 114, 115, 116, 117, 118, 119, 120, 121, 122] (by decide +kernel) (by decide +kernel)
set_option maxRecDepth 20000 in
theorem gX7_bellThen_X7_thinks : GoodIn wsX7_bellThen (wsV RX7 200 RX7 yX7_thinks wsX7_thinks) := goodIn_app (goodIn_of _ (by decide +kernel)) ggX7_bellThen_X7_thinks
set_option maxRecDepth 20000 in
theorem ggX7_bellThen_X7_goesOn : GoodIn wsX7_bellThen wsX7_goesOn := goodIn_r _ [52, 53, 54, 55, 4, 56, 38, 37, 36, 57, 58, 59, 60, 35, 39, 61, 62, 63, 97, 98, 99, 100, 101, 102, 103, 104, 105, 106, 107, 108, 109, 110, 111, 112, 113, 114, 115, 116, 117, 118, 119, 120, 121, 122] (by decide +kernel) (by decide +kernel)
set_option maxRecDepth 20000 in
theorem gX7_bellThen_X7_goesOn : GoodIn wsX7_bellThen (wsV RX7 110 RX7 yX7_goesOn wsX7_goesOn) := goodIn_app (goodIn_of _ (by decide +kernel)) ggX7_bellThen_X7_goesOn
set_option maxRecDepth 20000 in
theorem ggX7_bellThen_X7_hearers : GoodIn wsX7_bellThen wsX7_hearers := goodIn_r _ [67, 37, 68, 69, 70, 4, 71, 72, 36, 35, 33, 31, 73, 74, 75, 76, 34, 97, 98, 99, 100, 101, 102, 103, 104, 105, 106, 107, 108, 109, 110, 111, 112, 113, 114, 115, 116, 117, 118, 119, 120, 121, 122] (by decide +kernel) (by decide +kernel)
set_option maxRecDepth 20000 in
theorem gX7_bellThen_X7_hearers : GoodIn wsX7_bellThen (wsV RX7 167 RX7 yX7_hearers wsX7_hearers) := goodIn_app (goodIn_of _ (by decide +kernel)) ggX7_bellThen_X7_hearers
set_option maxRecDepth 20000 in
theorem ggX7_bellThen_X7_ringsNow : GoodIn wsX7_bellThen wsX7_ringsNow := goodIn_r _ [80, 38, 32, 97, 98, 99, 100, 101, 102, 103, 104, 105, 106, 107, 108, 109, 110, 111, 112, 113, 114, 115, 116, 117, 118, 119, 120, 121, 122] (by decide +kernel) (by decide +kernel)
set_option maxRecDepth 20000 in
theorem gX7_bellThen_X7_ringsNow : GoodIn wsX7_bellThen (wsV RX7 206 RX7 yX7_ringsNow wsX7_ringsNow) := goodIn_app (goodIn_of _ (by decide +kernel)) ggX7_bellThen_X7_ringsNow
set_option maxRecDepth 20000 in
theorem ggX7_bellThen_X7_saidOf : GoodIn wsX7_bellThen wsX7_saidOf := goodIn_r _ [84, 85, 86, 87, 4, 88, 37, 89, 90, 91, 92, 33, 31, 34, 68, 69, 70, 71, 72, 36, 35, 73, 74, 75, 76, 64, 65, 66, 67, 97, 98, 99, 100, 101, 102, 103, 104, 105, 106, 107, 108, 109, 110, 111, 112, 113, 114, 115, 116, 117, 118, 119, 120, 121, 122] (by decide +kernel) (by decide +kernel)
set_option maxRecDepth 20000 in
theorem gX7_bellThen_X7_saidOf : GoodIn wsX7_bellThen (wsV RX7 170 RX7 yX7_saidOf wsX7_saidOf) := goodIn_app (goodIn_of _ (by decide +kernel)) ggX7_bellThen_X7_saidOf
set_option maxRecDepth 20000 in
theorem ggX7_bellThen_X7_forgets : GoodIn wsX7_bellThen wsX7_forgets := goodIn_r _ [96, 25, 26, 27, 4, 28, 29, 30, 31, 32, 33, 34, 35, 36, 6, 37, 38, 39, 40, 41, 42, 43, 44, 45, 46, 47, 48, 97, 98, 99, 100, 101, 102, 103, 104, 105, 106, 107, 108, 109, 110, 111, 112, 113, 114, 115, 116, 117, 118, 119, 120, 121, 122] (by decide +kernel) (by decide +kernel)
set_option maxRecDepth 20000 in
theorem gX7_bellThen_X7_forgets : GoodIn wsX7_bellThen (wsV RX7 203 RX7 yX7_forgets wsX7_forgets) := goodIn_app (goodIn_of _ (by decide +kernel)) ggX7_bellThen_X7_forgets
theorem dX7_bellThen_0 : decode cX7_bellThen 0 = .ok (.aload_n 0, 1) := by decide +kernel
theorem dX7_bellThen_1 : decode cX7_bellThen 1 = .ok (.iload_n 1, 1) := by decide +kernel
theorem dX7_bellThen_2 : decode cX7_bellThen 2 = .ok (.invokevirtual 187, 3) := by decide +kernel
theorem dX7_bellThen_5 : decode cX7_bellThen 5 = .ok (.ifCond .ne 7, 3) := by decide +kernel
theorem dX7_bellThen_8 : decode cX7_bellThen 8 = .ok (.iconst (-1), 1) := by decide +kernel
theorem dX7_bellThen_9 : decode cX7_bellThen 9 = .ok (.goto 7, 3) := by decide +kernel
theorem dX7_bellThen_12 : decode cX7_bellThen 12 = .ok (.iload_n 2, 1) := by decide +kernel
theorem dX7_bellThen_13 : decode cX7_bellThen 13 = .ok (.invokestatic 197, 3) := by decide +kernel
theorem dX7_bellThen_16 : decode cX7_bellThen 16 = .ok (.istore 4, 2) := by decide +kernel
theorem dX7_bellThen_18 : decode cX7_bellThen 18 = .ok (.iload 4, 2) := by decide +kernel
theorem dX7_bellThen_20 : decode cX7_bellThen 20 = .ok (.ifCond .ne 16, 3) := by decide +kernel
theorem dX7_bellThen_23 : decode cX7_bellThen 23 = .ok (.iload_n 3, 1) := by decide +kernel
theorem dX7_bellThen_24 : decode cX7_bellThen 24 = .ok (.iconst 0, 1) := by decide +kernel
theorem dX7_bellThen_25 : decode cX7_bellThen 25 = .ok (.iconst 1, 1) := by decide +kernel
theorem dX7_bellThen_26 : decode cX7_bellThen 26 = .ok (.invokestatic 86, 3) := by decide +kernel
theorem dX7_bellThen_29 : decode cX7_bellThen 29 = .ok (.ifCond .ne 7, 3) := by decide +kernel
theorem dX7_bellThen_32 : decode cX7_bellThen 32 = .ok (.bipush (-2), 2) := by decide +kernel
theorem dX7_bellThen_34 : decode cX7_bellThen 34 = .ok (.istore 4, 2) := by decide +kernel
theorem dX7_bellThen_36 : decode cX7_bellThen 36 = .ok (.iload 4, 2) := by decide +kernel
theorem dX7_bellThen_38 : decode cX7_bellThen 38 = .ok (.ifCond .eq 10, 3) := by decide +kernel
theorem dX7_bellThen_41 : decode cX7_bellThen 41 = .ok (.aload_n 0, 1) := by decide +kernel
theorem dX7_bellThen_42 : decode cX7_bellThen 42 = .ok (.iload 4, 2) := by decide +kernel
theorem dX7_bellThen_44 : decode cX7_bellThen 44 = .ok (.invokevirtual 75, 3) := by decide +kernel
theorem dX7_bellThen_47 : decode cX7_bellThen 47 = .ok (.ireturn, 1) := by decide +kernel
theorem dX7_bellThen_48 : decode cX7_bellThen 48 = .ok (.aload_n 0, 1) := by decide +kernel
theorem dX7_bellThen_49 : decode cX7_bellThen 49 = .ok (.invokevirtual 200, 3) := by decide +kernel
theorem dX7_bellThen_52 : decode cX7_bellThen 52 = .ok (.aload_n 0, 1) := by decide +kernel
theorem dX7_bellThen_53 : decode cX7_bellThen 53 = .ok (.iload_n 2, 1) := by decide +kernel
theorem dX7_bellThen_54 : decode cX7_bellThen 54 = .ok (.invokevirtual 110, 3) := by decide +kernel
theorem dX7_bellThen_57 : decode cX7_bellThen 57 = .ok (.iload_n 3, 1) := by decide +kernel
theorem dX7_bellThen_58 : decode cX7_bellThen 58 = .ok (.ifCond .ne 11, 3) := by decide +kernel
theorem dX7_bellThen_61 : decode cX7_bellThen 61 = .ok (.aload_n 0, 1) := by decide +kernel
theorem dX7_bellThen_62 : decode cX7_bellThen 62 = .ok (.iload_n 1, 1) := by decide +kernel
theorem dX7_bellThen_63 : decode cX7_bellThen 63 = .ok (.invokevirtual 167, 3) := by decide +kernel
theorem dX7_bellThen_66 : decode cX7_bellThen 66 = .ok (.goto 21, 3) := by decide +kernel
theorem dX7_bellThen_69 : decode cX7_bellThen 69 = .ok (.aload_n 0, 1) := by decide +kernel
theorem dX7_bellThen_70 : decode cX7_bellThen 70 = .ok (.iload_n 1, 1) := by decide +kernel
theorem dX7_bellThen_71 : decode cX7_bellThen 71 = .ok (.invokevirtual 206, 3) := by decide +kernel
theorem dX7_bellThen_74 : decode cX7_bellThen 74 = .ok (.ifCond .eq 11, 3) := by decide +kernel
theorem dX7_bellThen_77 : decode cX7_bellThen 77 = .ok (.aload_n 0, 1) := by decide +kernel
theorem dX7_bellThen_78 : decode cX7_bellThen 78 = .ok (.iload_n 1, 1) := by decide +kernel
theorem dX7_bellThen_79 : decode cX7_bellThen 79 = .ok (.invokevirtual 170, 3) := by decide +kernel
theorem dX7_bellThen_82 : decode cX7_bellThen 82 = .ok (.goto 5, 3) := by decide +kernel
theorem dX7_bellThen_85 : decode cX7_bellThen 85 = .ok (.bipush (-9), 2) := by decide +kernel
theorem dX7_bellThen_87 : decode cX7_bellThen 87 = .ok (.istore 5, 2) := by decide +kernel
theorem dX7_bellThen_89 : decode cX7_bellThen 89 = .ok (.aload_n 0, 1) := by decide +kernel
theorem dX7_bellThen_90 : decode cX7_bellThen 90 = .ok (.invokevirtual 203, 3) := by decide +kernel
theorem dX7_bellThen_93 : decode cX7_bellThen 93 = .ok (.iload 5, 2) := by decide +kernel
theorem dX7_bellThen_95 : decode cX7_bellThen 95 = .ok (.ireturn, 1) := by decide +kernel
set_option maxRecDepth 20000 in
theorem ggX7_deafAt_X7_thinks : GoodIn wsX7_deafAt wsX7_thinks := goodIn_r _ [5, 6, 7, 8, 4, 9, 10, 11, 12, 13, 14, 15, 16, 17, 18, 19, 20, 21, 22, 23, 24, 25, 26, 27, 28, 29, 30, 59, 60, 61, 62, 63, 64, 65, 66, 67, 68, 69, 70, 71, 72, 73, 74, 75, 76, 77, 78, 79, 80, 81, 82, 83, 84] (by decide +kernel) (by decide +kernel)
set_option maxRecDepth 20000 in
theorem gX7_deafAt_X7_thinks : GoodIn wsX7_deafAt (wsV RX7 200 RX7 yX7_thinks wsX7_thinks) := goodIn_app (goodIn_of _ (by decide +kernel)) ggX7_deafAt_X7_thinks
set_option maxRecDepth 20000 in
theorem ggX7_deafAt_X7_hearsSome : GoodIn wsX7_deafAt wsX7_hearsSome := goodIn_r _ [34, 18, 35, 36, 37, 4, 38, 39, 17, 16, 14, 12, 40, 41, 42, 43, 15, 59, 60, 61, 62, 63, 64, 65, 66, 67, 68, 69, 70, 71, 72, 73, 74, 75, 76, 77, 78, 79, 80, 81, 82, 83, 84] (by decide +kernel) (by decide +kernel)
set_option maxRecDepth 20000 in
theorem gX7_deafAt_X7_hearsSome : GoodIn wsX7_deafAt (wsV RX7 173 RX7 yX7_hearsSome wsX7_hearsSome) := goodIn_app (goodIn_of _ (by decide +kernel)) ggX7_deafAt_X7_hearsSome
set_option maxRecDepth 20000 in
theorem ggX7_deafAt_X7_goesDay : GoodIn wsX7_deafAt wsX7_goesDay := goodIn_r _ [47, 20, 19, 17, 48, 49, 50, 4, 51, 16, 21, 52, 53, 54, 59, 60, 61, 62, 63, 64, 65, 66, 67, 68, 69, 70, 71, 72, 73, 74, 75, 76, 77, 78, 79, 80, 81, 82, 83, 84] (by decide +kernel) (by decide +kernel)
set_option maxRecDepth 20000 in
theorem gX7_deafAt_X7_goesDay : GoodIn wsX7_deafAt (wsV RX7 183 RX7 yX7_goesDay wsX7_goesDay) := goodIn_app (goodIn_of _ (by decide +kernel)) ggX7_deafAt_X7_goesDay
set_option maxRecDepth 20000 in
theorem ggX7_deafAt_X7_forgets : GoodIn wsX7_deafAt wsX7_forgets := goodIn_r _ [58, 6, 7, 8, 4, 9, 10, 11, 12, 13, 14, 15, 16, 17, 18, 19, 20, 21, 22, 23, 24, 25, 26, 27, 28, 29, 30, 59, 60, 61, 62, 63, 64, 65, 66, 67, 68, 69, 70, 71, 72, 73, 74, 75, 76, 77, 78, 79, 80, 81, 82, 83, 84] (by decide +kernel) (by decide +kernel)
set_option maxRecDepth 20000 in
theorem gX7_deafAt_X7_forgets : GoodIn wsX7_deafAt (wsV RX7 203 RX7 yX7_forgets wsX7_forgets) := goodIn_app (goodIn_of _ (by decide +kernel)) ggX7_deafAt_X7_forgets
theorem dX7_deafAt_0 : decode cX7_deafAt 0 = .ok (.aload_n 0, 1) := by decide +kernel
theorem dX7_deafAt_1 : decode cX7_deafAt 1 = .ok (.invokevirtual 200, 3) := by decide +kernel
theorem dX7_deafAt_4 : decode cX7_deafAt 4 = .ok (.bipush (-9), 2) := by decide +kernel
theorem dX7_deafAt_6 : decode cX7_deafAt 6 = .ok (.istore_n 2, 1) := by decide +kernel
theorem dX7_deafAt_7 : decode cX7_deafAt 7 = .ok (.iconst 0, 1) := by decide +kernel
theorem dX7_deafAt_8 : decode cX7_deafAt 8 = .ok (.istore_n 3, 1) := by decide +kernel
theorem dX7_deafAt_9 : decode cX7_deafAt 9 = .ok (.iload_n 3, 1) := by decide +kernel
theorem dX7_deafAt_10 : decode cX7_deafAt 10 = .ok (.bipush 99, 2) := by decide +kernel
theorem dX7_deafAt_12 : decode cX7_deafAt 12 = .ok (.if_icmp .gt 33, 3) := by decide +kernel
theorem dX7_deafAt_15 : decode cX7_deafAt 15 = .ok (.iload_n 2, 1) := by decide +kernel
theorem dX7_deafAt_16 : decode cX7_deafAt 16 = .ok (.ifCond .ge 29, 3) := by decide +kernel
theorem dX7_deafAt_19 : decode cX7_deafAt 19 = .ok (.aload_n 0, 1) := by decide +kernel
theorem dX7_deafAt_20 : decode cX7_deafAt 20 = .ok (.iload_n 1, 1) := by decide +kernel
theorem dX7_deafAt_21 : decode cX7_deafAt 21 = .ok (.invokevirtual 173, 3) := by decide +kernel
theorem dX7_deafAt_24 : decode cX7_deafAt 24 = .ok (.ifCond .eq 8, 3) := by decide +kernel
theorem dX7_deafAt_27 : decode cX7_deafAt 27 = .ok (.bipush (-9), 2) := by decide +kernel
theorem dX7_deafAt_29 : decode cX7_deafAt 29 = .ok (.goto 4, 3) := by decide +kernel
theorem dX7_deafAt_32 : decode cX7_deafAt 32 = .ok (.iload_n 3, 1) := by decide +kernel
theorem dX7_deafAt_33 : decode cX7_deafAt 33 = .ok (.istore_n 2, 1) := by decide +kernel
theorem dX7_deafAt_34 : decode cX7_deafAt 34 = .ok (.aload_n 0, 1) := by decide +kernel
theorem dX7_deafAt_35 : decode cX7_deafAt 35 = .ok (.iconst 0, 1) := by decide +kernel
theorem dX7_deafAt_36 : decode cX7_deafAt 36 = .ok (.invokevirtual 183, 3) := by decide +kernel
theorem dX7_deafAt_39 : decode cX7_deafAt 39 = .ok (.iinc 3 1, 3) := by decide +kernel
theorem dX7_deafAt_42 : decode cX7_deafAt 42 = .ok (.goto (-33), 3) := by decide +kernel
theorem dX7_deafAt_45 : decode cX7_deafAt 45 = .ok (.aload_n 0, 1) := by decide +kernel
theorem dX7_deafAt_46 : decode cX7_deafAt 46 = .ok (.invokevirtual 203, 3) := by decide +kernel
theorem dX7_deafAt_49 : decode cX7_deafAt 49 = .ok (.iload_n 2, 1) := by decide +kernel
theorem dX7_deafAt_50 : decode cX7_deafAt 50 = .ok (.ireturn, 1) := by decide +kernel
set_option maxRecDepth 20000 in
theorem ggX7_deaf_X7_isOne : GoodIn wsX7_deaf wsX7_isOne := goodIn_r _ [5, 6, 72, 73, 74, 75, 76, 77, 78, 79, 80, 81, 82, 83, 84, 85, 86, 87, 88, 89, 90, 91, 92, 93, 94, 95, 96, 97] (by decide +kernel) (by decide +kernel)
set_option maxRecDepth 20000 in
theorem gX7_deaf_X7_isOne : GoodIn wsX7_deaf (wsV RX7 120 RX7 yX7_isOne wsX7_isOne) := goodIn_app (goodIn_of _ (by decide +kernel)) ggX7_deaf_X7_isOne
set_option maxRecDepth 20000 in
theorem ggX7_deaf_X7_deafAt : GoodIn wsX7_deaf wsX7_deafAt := goodIn_r _ [10, 11, 12, 13, 4, 14, 15, 16, 17, 18, 19, 20, 21, 22, 23, 24, 25, 26, 27, 6, 28, 29, 30, 31, 32, 33, 34, 35, 36, 37, 38, 39, 40, 41, 42, 43, 44, 45, 46, 47, 48, 49, 50, 51, 52, 53, 54, 55, 56, 57, 58, 59, 60, 61, 62, 63, 64, 65, 66, 72, 73, 74, 75, 76, 77, 78, 79, 80, 81, 82, 83, 84, 85, 86, 87, 88, 89, 90, 91, 92, 93, 94, 95, 96, 97] (by decide +kernel) (by decide +kernel)
set_option maxRecDepth 20000 in
theorem gX7_deaf_X7_deafAt : GoodIn wsX7_deaf (wsV RX7 209 RX7 yX7_deafAt wsX7_deafAt) := goodIn_app (goodIn_of _ (by decide +kernel)) ggX7_deaf_X7_deafAt
set_option maxRecDepth 20000 in
theorem ggX7_deaf_X7_no : GoodIn wsX7_deaf wsX7_no := goodIn_r _ [70, 71, 72, 73, 74, 75, 76, 77, 78, 79, 80, 81, 82, 83, 84, 85, 86, 87, 88, 89, 90, 91, 92, 93, 94, 95, 96, 97] (by decide +kernel) (by decide +kernel)
set_option maxRecDepth 20000 in
theorem gX7_deaf_X7_no : GoodIn wsX7_deaf (wsV RX7 75 RX7 yX7_no wsX7_no) := goodIn_app (goodIn_of _ (by decide +kernel)) ggX7_deaf_X7_no
theorem dX7_deaf_0 : decode cX7_deaf 0 = .ok (.aload_n 0, 1) := by decide +kernel
theorem dX7_deaf_1 : decode cX7_deaf 1 = .ok (.iload_n 1, 1) := by decide +kernel
theorem dX7_deaf_2 : decode cX7_deaf 2 = .ok (.invokevirtual 120, 3) := by decide +kernel
theorem dX7_deaf_5 : decode cX7_deaf 5 = .ok (.ifCond .eq 11, 3) := by decide +kernel
theorem dX7_deaf_8 : decode cX7_deaf 8 = .ok (.aload_n 0, 1) := by decide +kernel
theorem dX7_deaf_9 : decode cX7_deaf 9 = .ok (.iload_n 1, 1) := by decide +kernel
theorem dX7_deaf_10 : decode cX7_deaf 10 = .ok (.invokevirtual 209, 3) := by decide +kernel
theorem dX7_deaf_13 : decode cX7_deaf 13 = .ok (.goto 8, 3) := by decide +kernel
theorem dX7_deaf_16 : decode cX7_deaf 16 = .ok (.aload_n 0, 1) := by decide +kernel
theorem dX7_deaf_17 : decode cX7_deaf 17 = .ok (.iconst (-1), 1) := by decide +kernel
theorem dX7_deaf_18 : decode cX7_deaf 18 = .ok (.invokevirtual 75, 3) := by decide +kernel
theorem dX7_deaf_21 : decode cX7_deaf 21 = .ok (.ireturn, 1) := by decide +kernel
set_option maxRecDepth 20000 in
theorem ggX7_lostAt_X7_hearers : GoodIn wsX7_lostAt wsX7_hearers := goodIn_r _ [5, 6, 7, 8, 9, 4, 10, 11, 12, 13, 14, 15, 16, 17, 18, 19, 20, 59, 60, 61, 62, 63, 64, 65, 66, 67, 68, 69, 70, 71, 72, 73, 74, 75, 76, 77, 78, 79, 80, 81, 82, 83, 84] (by decide +kernel) (by decide +kernel)
set_option maxRecDepth 20000 in
theorem gX7_lostAt_X7_hearers : GoodIn wsX7_lostAt (wsV RX7 167 RX7 yX7_hearers wsX7_hearers) := goodIn_app (goodIn_of _ (by decide +kernel)) ggX7_lostAt_X7_hearers
set_option maxRecDepth 20000 in
theorem ggX7_lostAt_X7_thinks : GoodIn wsX7_lostAt wsX7_thinks := goodIn_r _ [24, 25, 26, 27, 4, 28, 29, 30, 15, 31, 14, 20, 13, 12, 32, 6, 33, 34, 35, 36, 37, 38, 39, 40, 41, 42, 43, 59, 60, 61, 62, 63, 64, 65, 66, 67, 68, 69, 70, 71, 72, 73, 74, 75, 76, 77, 78, 79, 80, 81, 82, 83, 84] (by decide +kernel) (by decide +kernel)
set_option maxRecDepth 20000 in
theorem gX7_lostAt_X7_thinks : GoodIn wsX7_lostAt (wsV RX7 200 RX7 yX7_thinks wsX7_thinks) := goodIn_app (goodIn_of _ (by decide +kernel)) ggX7_lostAt_X7_thinks
set_option maxRecDepth 20000 in
theorem ggX7_lostAt_X7_goesDay : GoodIn wsX7_lostAt wsX7_goesDay := goodIn_r _ [47, 33, 6, 12, 48, 49, 50, 4, 51, 13, 34, 52, 53, 54, 59, 60, 61, 62, 63, 64, 65, 66, 67, 68, 69, 70, 71, 72, 73, 74, 75, 76, 77, 78, 79, 80, 81, 82, 83, 84] (by decide +kernel) (by decide +kernel)
set_option maxRecDepth 20000 in
theorem gX7_lostAt_X7_goesDay : GoodIn wsX7_lostAt (wsV RX7 183 RX7 yX7_goesDay wsX7_goesDay) := goodIn_app (goodIn_of _ (by decide +kernel)) ggX7_lostAt_X7_goesDay
set_option maxRecDepth 20000 in
theorem ggX7_lostAt_X7_forgets : GoodIn wsX7_lostAt wsX7_forgets := goodIn_r _ [58, 25, 26, 27, 4, 28, 29, 30, 15, 31, 14, 20, 13, 12, 32, 6, 33, 34, 35, 36, 37, 38, 39, 40, 41, 42, 43, 59, 60, 61, 62, 63, 64, 65, 66, 67, 68, 69, 70, 71, 72, 73, 74, 75, 76, 77, 78, 79, 80, 81, 82, 83, 84] (by decide +kernel) (by decide +kernel)
set_option maxRecDepth 20000 in
theorem gX7_lostAt_X7_forgets : GoodIn wsX7_lostAt (wsV RX7 203 RX7 yX7_forgets wsX7_forgets) := goodIn_app (goodIn_of _ (by decide +kernel)) ggX7_lostAt_X7_forgets
theorem dX7_lostAt_0 : decode cX7_lostAt 0 = .ok (.aload_n 0, 1) := by decide +kernel
theorem dX7_lostAt_1 : decode cX7_lostAt 1 = .ok (.iload_n 1, 1) := by decide +kernel
theorem dX7_lostAt_2 : decode cX7_lostAt 2 = .ok (.invokevirtual 167, 3) := by decide +kernel
theorem dX7_lostAt_5 : decode cX7_lostAt 5 = .ok (.ifCond .ne 6, 3) := by decide +kernel
theorem dX7_lostAt_8 : decode cX7_lostAt 8 = .ok (.bipush (-9), 2) := by decide +kernel
theorem dX7_lostAt_10 : decode cX7_lostAt 10 = .ok (.ireturn, 1) := by decide +kernel
theorem dX7_lostAt_11 : decode cX7_lostAt 11 = .ok (.aload_n 0, 1) := by decide +kernel
theorem dX7_lostAt_12 : decode cX7_lostAt 12 = .ok (.invokevirtual 200, 3) := by decide +kernel
theorem dX7_lostAt_15 : decode cX7_lostAt 15 = .ok (.bipush (-9), 2) := by decide +kernel
theorem dX7_lostAt_17 : decode cX7_lostAt 17 = .ok (.istore_n 2, 1) := by decide +kernel
theorem dX7_lostAt_18 : decode cX7_lostAt 18 = .ok (.iconst 0, 1) := by decide +kernel
theorem dX7_lostAt_19 : decode cX7_lostAt 19 = .ok (.istore_n 3, 1) := by decide +kernel
theorem dX7_lostAt_20 : decode cX7_lostAt 20 = .ok (.iload_n 3, 1) := by decide +kernel
theorem dX7_lostAt_21 : decode cX7_lostAt 21 = .ok (.bipush 99, 2) := by decide +kernel
theorem dX7_lostAt_23 : decode cX7_lostAt 23 = .ok (.if_icmp .gt 33, 3) := by decide +kernel
theorem dX7_lostAt_26 : decode cX7_lostAt 26 = .ok (.iload_n 2, 1) := by decide +kernel
theorem dX7_lostAt_27 : decode cX7_lostAt 27 = .ok (.ifCond .ge 29, 3) := by decide +kernel
theorem dX7_lostAt_30 : decode cX7_lostAt 30 = .ok (.aload_n 0, 1) := by decide +kernel
theorem dX7_lostAt_31 : decode cX7_lostAt 31 = .ok (.iload_n 1, 1) := by decide +kernel
theorem dX7_lostAt_32 : decode cX7_lostAt 32 = .ok (.invokevirtual 167, 3) := by decide +kernel
theorem dX7_lostAt_35 : decode cX7_lostAt 35 = .ok (.ifCond .ne 7, 3) := by decide +kernel
theorem dX7_lostAt_38 : decode cX7_lostAt 38 = .ok (.iload_n 3, 1) := by decide +kernel
theorem dX7_lostAt_39 : decode cX7_lostAt 39 = .ok (.goto 5, 3) := by decide +kernel
theorem dX7_lostAt_42 : decode cX7_lostAt 42 = .ok (.bipush (-9), 2) := by decide +kernel
theorem dX7_lostAt_44 : decode cX7_lostAt 44 = .ok (.istore_n 2, 1) := by decide +kernel
theorem dX7_lostAt_45 : decode cX7_lostAt 45 = .ok (.aload_n 0, 1) := by decide +kernel
theorem dX7_lostAt_46 : decode cX7_lostAt 46 = .ok (.iconst 0, 1) := by decide +kernel
theorem dX7_lostAt_47 : decode cX7_lostAt 47 = .ok (.invokevirtual 183, 3) := by decide +kernel
theorem dX7_lostAt_50 : decode cX7_lostAt 50 = .ok (.iinc 3 1, 3) := by decide +kernel
theorem dX7_lostAt_53 : decode cX7_lostAt 53 = .ok (.goto (-33), 3) := by decide +kernel
theorem dX7_lostAt_56 : decode cX7_lostAt 56 = .ok (.aload_n 0, 1) := by decide +kernel
theorem dX7_lostAt_57 : decode cX7_lostAt 57 = .ok (.invokevirtual 203, 3) := by decide +kernel
theorem dX7_lostAt_60 : decode cX7_lostAt 60 = .ok (.iload_n 2, 1) := by decide +kernel
theorem dX7_lostAt_61 : decode cX7_lostAt 61 = .ok (.ireturn, 1) := by decide +kernel
set_option maxRecDepth 20000 in
theorem ggX7_lost_X7_isIn : GoodIn wsX7_lost wsX7_isIn := goodIn_r _ [5] (by decide +kernel) (by decide +kernel)
set_option maxRecDepth 20000 in
theorem gX7_lost_X7_isIn : GoodIn wsX7_lost (va_wsS RX7 86 yX7_isIn wsX7_isIn) := goodIn_app (goodIn_of _ (by decide +kernel)) ggX7_lost_X7_isIn
set_option maxRecDepth 20000 in
theorem ggX7_lost_X7_no : GoodIn wsX7_lost wsX7_no := goodIn_r _ [9, 10, 71, 72, 73, 74, 75, 76, 77, 78, 79, 80, 81, 82, 83, 84, 85, 86, 87, 88, 89, 90, 91, 92, 93, 94, 95, 96] (by decide +kernel) (by decide +kernel)
set_option maxRecDepth 20000 in
theorem gX7_lost_X7_no : GoodIn wsX7_lost (wsV RX7 75 RX7 yX7_no wsX7_no) := goodIn_app (goodIn_of _ (by decide +kernel)) ggX7_lost_X7_no
set_option maxRecDepth 20000 in
theorem ggX7_lost_X7_lostAt : GoodIn wsX7_lost wsX7_lostAt := goodIn_r _ [14, 15, 16, 17, 4, 18, 19, 20, 21, 22, 23, 24, 25, 26, 27, 28, 29, 30, 31, 32, 33, 34, 35, 36, 37, 38, 39, 40, 41, 42, 43, 44, 1, 45, 46, 47, 48, 49, 50, 51, 52, 53, 54, 55, 56, 57, 58, 59, 60, 61, 62, 63, 64, 65, 66, 67, 68, 69, 70, 71, 72, 73, 74, 75, 76, 77, 78, 79, 80, 81, 82, 83, 84, 85, 86, 87, 88, 89, 90, 91, 92, 93, 94, 95, 96] (by decide +kernel) (by decide +kernel)
set_option maxRecDepth 20000 in
theorem gX7_lost_X7_lostAt : GoodIn wsX7_lost (wsV RX7 212 RX7 yX7_lostAt wsX7_lostAt) := goodIn_app (goodIn_of _ (by decide +kernel)) ggX7_lost_X7_lostAt
theorem dX7_lost_0 : decode cX7_lost 0 = .ok (.iload_n 1, 1) := by decide +kernel
theorem dX7_lost_1 : decode cX7_lost 1 = .ok (.iconst 0, 1) := by decide +kernel
theorem dX7_lost_2 : decode cX7_lost 2 = .ok (.iconst 1, 1) := by decide +kernel
theorem dX7_lost_3 : decode cX7_lost 3 = .ok (.invokestatic 86, 3) := by decide +kernel
theorem dX7_lost_6 : decode cX7_lost 6 = .ok (.ifCond .ne 10, 3) := by decide +kernel
theorem dX7_lost_9 : decode cX7_lost 9 = .ok (.aload_n 0, 1) := by decide +kernel
theorem dX7_lost_10 : decode cX7_lost 10 = .ok (.bipush (-2), 2) := by decide +kernel
theorem dX7_lost_12 : decode cX7_lost 12 = .ok (.invokevirtual 75, 3) := by decide +kernel
theorem dX7_lost_15 : decode cX7_lost 15 = .ok (.ireturn, 1) := by decide +kernel
theorem dX7_lost_16 : decode cX7_lost 16 = .ok (.bipush (-9), 2) := by decide +kernel
theorem dX7_lost_18 : decode cX7_lost 18 = .ok (.istore_n 2, 1) := by decide +kernel
theorem dX7_lost_19 : decode cX7_lost 19 = .ok (.bipush (-9), 2) := by decide +kernel
theorem dX7_lost_21 : decode cX7_lost 21 = .ok (.istore_n 3, 1) := by decide +kernel
theorem dX7_lost_22 : decode cX7_lost 22 = .ok (.iconst 0, 1) := by decide +kernel
theorem dX7_lost_23 : decode cX7_lost 23 = .ok (.istore 4, 2) := by decide +kernel
theorem dX7_lost_25 : decode cX7_lost 25 = .ok (.iload 4, 2) := by decide +kernel
theorem dX7_lost_27 : decode cX7_lost 27 = .ok (.aload_n 0, 1) := by decide +kernel
theorem dX7_lost_28 : decode cX7_lost 28 = .ok (.getfield 62, 3) := by decide +kernel
theorem dX7_lost_31 : decode cX7_lost 31 = .ok (.if_icmp .ge 41, 3) := by decide +kernel
theorem dX7_lost_34 : decode cX7_lost 34 = .ok (.aload_n 0, 1) := by decide +kernel
theorem dX7_lost_35 : decode cX7_lost 35 = .ok (.iload 4, 2) := by decide +kernel
theorem dX7_lost_37 : decode cX7_lost 37 = .ok (.invokevirtual 212, 3) := by decide +kernel
theorem dX7_lost_40 : decode cX7_lost 40 = .ok (.istore 5, 2) := by decide +kernel
theorem dX7_lost_42 : decode cX7_lost 42 = .ok (.iload 5, 2) := by decide +kernel
theorem dX7_lost_44 : decode cX7_lost 44 = .ok (.ifCond .lt 22, 3) := by decide +kernel
theorem dX7_lost_47 : decode cX7_lost 47 = .ok (.iload_n 2, 1) := by decide +kernel
theorem dX7_lost_48 : decode cX7_lost 48 = .ok (.ifCond .lt 12, 3) := by decide +kernel
theorem dX7_lost_51 : decode cX7_lost 51 = .ok (.iload 5, 2) := by decide +kernel
theorem dX7_lost_53 : decode cX7_lost 53 = .ok (.iload_n 3, 1) := by decide +kernel
theorem dX7_lost_54 : decode cX7_lost 54 = .ok (.if_icmp .lt 6, 3) := by decide +kernel
theorem dX7_lost_57 : decode cX7_lost 57 = .ok (.goto 9, 3) := by decide +kernel
theorem dX7_lost_60 : decode cX7_lost 60 = .ok (.iload 4, 2) := by decide +kernel
theorem dX7_lost_62 : decode cX7_lost 62 = .ok (.istore_n 2, 1) := by decide +kernel
theorem dX7_lost_63 : decode cX7_lost 63 = .ok (.iload 5, 2) := by decide +kernel
theorem dX7_lost_65 : decode cX7_lost 65 = .ok (.istore_n 3, 1) := by decide +kernel
theorem dX7_lost_66 : decode cX7_lost 66 = .ok (.iinc 4 1, 3) := by decide +kernel
theorem dX7_lost_69 : decode cX7_lost 69 = .ok (.goto (-44), 3) := by decide +kernel
theorem dX7_lost_72 : decode cX7_lost 72 = .ok (.iload_n 1, 1) := by decide +kernel
theorem dX7_lost_73 : decode cX7_lost 73 = .ok (.ifCond .ne 7, 3) := by decide +kernel
theorem dX7_lost_76 : decode cX7_lost 76 = .ok (.iload_n 2, 1) := by decide +kernel
theorem dX7_lost_77 : decode cX7_lost 77 = .ok (.goto 4, 3) := by decide +kernel
theorem dX7_lost_80 : decode cX7_lost 80 = .ok (.iload_n 3, 1) := by decide +kernel
theorem dX7_lost_81 : decode cX7_lost 81 = .ok (.ireturn, 1) := by decide +kernel
set_option maxRecDepth 20000 in
theorem ggX7_ringing_X7_thinks : GoodIn wsX7_ringing wsX7_thinks := goodIn_r _ [5, 6, 7, 8, 4, 9, 10, 11, 12, 13, 14, 15, 16, 17, 18, 19, 20, 21, 22, 23, 24, 25, 26, 27, 28, 29, 30, 79, 80, 81, 82, 83, 84, 85, 86, 87, 88, 89, 90, 91, 92, 93, 94, 95, 96, 97, 98, 99, 100, 101, 102, 103, 104] (by decide +kernel) (by decide +kernel)
set_option maxRecDepth 20000 in
theorem gX7_ringing_X7_thinks : GoodIn wsX7_ringing (wsV RX7 200 RX7 yX7_thinks wsX7_thinks) := goodIn_app (goodIn_of _ (by decide +kernel)) ggX7_ringing_X7_thinks
set_option maxRecDepth 20000 in
theorem ggX7_ringing_X7_goesDay : GoodIn wsX7_ringing wsX7_goesDay := goodIn_r _ [34, 20, 19, 17, 35, 36, 37, 4, 38, 16, 21, 39, 40, 41, 79, 80, 81, 82, 83, 84, 85, 86, 87, 88, 89, 90, 91, 92, 93, 94, 95, 96, 97, 98, 99, 100, 101, 102, 103, 104] (by decide +kernel) (by decide +kernel)
set_option maxRecDepth 20000 in
theorem gX7_ringing_X7_goesDay : GoodIn wsX7_ringing (wsV RX7 183 RX7 yX7_goesDay wsX7_goesDay) := goodIn_app (goodIn_of _ (by decide +kernel)) ggX7_ringing_X7_goesDay
set_option maxRecDepth 20000 in
theorem ggX7_ringing_X7_ringsNow : GoodIn wsX7_ringing wsX7_ringsNow := goodIn_r _ [45, 20, 13, 79, 80, 81, 82, 83, 84, 85, 86, 87, 88, 89, 90, 91, 92, 93, 94, 95, 96, 97, 98, 99, 100, 101, 102, 103, 104] (by decide +kernel) (by decide +kernel)
set_option maxRecDepth 20000 in
theorem gX7_ringing_X7_ringsNow : GoodIn wsX7_ringing (wsV RX7 206 RX7 yX7_ringsNow wsX7_ringsNow) := goodIn_app (goodIn_of _ (by decide +kernel)) ggX7_ringing_X7_ringsNow
set_option maxRecDepth 20000 in
theorem ggX7_ringing_X7_isTrue : GoodIn wsX7_ringing wsX7_isTrue := goodIn_r _ [49, 12, 50, 51, 52, 4, 53, 54, 55, 56, 57, 19, 58, 59, 60, 61, 14, 15, 62, 63, 64, 65, 66, 17, 16, 67, 68, 69, 70, 71, 72, 73, 74, 79, 80, 81, 82, 83, 84, 85, 86, 87, 88, 89, 90, 91, 92, 93, 94, 95, 96, 97, 98, 99, 100, 101, 102, 103, 104] (by decide +kernel) (by decide +kernel)
set_option maxRecDepth 20000 in
theorem gX7_ringing_X7_isTrue : GoodIn wsX7_ringing (wsV RX7 215 RX7 yX7_isTrue wsX7_isTrue) := goodIn_app (goodIn_of _ (by decide +kernel)) ggX7_ringing_X7_isTrue
set_option maxRecDepth 20000 in
theorem ggX7_ringing_X7_hearers : GoodIn wsX7_ringing wsX7_hearers := goodIn_r _ [74, 19, 62, 63, 64, 4, 65, 66, 17, 16, 14, 12, 67, 68, 69, 70, 15, 79, 80, 81, 82, 83, 84, 85, 86, 87, 88, 89, 90, 91, 92, 93, 94, 95, 96, 97, 98, 99, 100, 101, 102, 103, 104] (by decide +kernel) (by decide +kernel)
set_option maxRecDepth 20000 in
theorem gX7_ringing_X7_hearers : GoodIn wsX7_ringing (wsV RX7 167 RX7 yX7_hearers wsX7_hearers) := goodIn_app (goodIn_of _ (by decide +kernel)) ggX7_ringing_X7_hearers
set_option maxRecDepth 20000 in
theorem ggX7_ringing_X7_forgets : GoodIn wsX7_ringing wsX7_forgets := goodIn_r _ [78, 6, 7, 8, 4, 9, 10, 11, 12, 13, 14, 15, 16, 17, 18, 19, 20, 21, 22, 23, 24, 25, 26, 27, 28, 29, 30, 79, 80, 81, 82, 83, 84, 85, 86, 87, 88, 89, 90, 91, 92, 93, 94, 95, 96, 97, 98, 99, 100, 101, 102, 103, 104] (by decide +kernel) (by decide +kernel)
set_option maxRecDepth 20000 in
theorem gX7_ringing_X7_forgets : GoodIn wsX7_ringing (wsV RX7 203 RX7 yX7_forgets wsX7_forgets) := goodIn_app (goodIn_of _ (by decide +kernel)) ggX7_ringing_X7_forgets
theorem dX7_ringing_0 : decode cX7_ringing 0 = .ok (.aload_n 0, 1) := by decide +kernel
theorem dX7_ringing_1 : decode cX7_ringing 1 = .ok (.invokevirtual 200, 3) := by decide +kernel
theorem dX7_ringing_4 : decode cX7_ringing 4 = .ok (.iconst 0, 1) := by decide +kernel
theorem dX7_ringing_5 : decode cX7_ringing 5 = .ok (.istore 4, 2) := by decide +kernel
theorem dX7_ringing_7 : decode cX7_ringing 7 = .ok (.iconst 0, 1) := by decide +kernel
theorem dX7_ringing_8 : decode cX7_ringing 8 = .ok (.istore 5, 2) := by decide +kernel
theorem dX7_ringing_10 : decode cX7_ringing 10 = .ok (.iload 5, 2) := by decide +kernel
theorem dX7_ringing_12 : decode cX7_ringing 12 = .ok (.iload_n 2, 1) := by decide +kernel
theorem dX7_ringing_13 : decode cX7_ringing 13 = .ok (.if_icmp .ge 55, 3) := by decide +kernel
theorem dX7_ringing_16 : decode cX7_ringing 16 = .ok (.aload_n 0, 1) := by decide +kernel
theorem dX7_ringing_17 : decode cX7_ringing 17 = .ok (.iconst 0, 1) := by decide +kernel
theorem dX7_ringing_18 : decode cX7_ringing 18 = .ok (.invokevirtual 183, 3) := by decide +kernel
theorem dX7_ringing_21 : decode cX7_ringing 21 = .ok (.aload_n 0, 1) := by decide +kernel
theorem dX7_ringing_22 : decode cX7_ringing 22 = .ok (.iload_n 1, 1) := by decide +kernel
theorem dX7_ringing_23 : decode cX7_ringing 23 = .ok (.invokevirtual 206, 3) := by decide +kernel
theorem dX7_ringing_26 : decode cX7_ringing 26 = .ok (.ifCond .eq 36, 3) := by decide +kernel
theorem dX7_ringing_29 : decode cX7_ringing 29 = .ok (.iload 4, 2) := by decide +kernel
theorem dX7_ringing_31 : decode cX7_ringing 31 = .ok (.iload_n 3, 1) := by decide +kernel
theorem dX7_ringing_32 : decode cX7_ringing 32 = .ok (.ifCond .eq 14, 3) := by decide +kernel
theorem dX7_ringing_35 : decode cX7_ringing 35 = .ok (.aload_n 0, 1) := by decide +kernel
theorem dX7_ringing_36 : decode cX7_ringing 36 = .ok (.iload_n 1, 1) := by decide +kernel
theorem dX7_ringing_37 : decode cX7_ringing 37 = .ok (.invokevirtual 215, 3) := by decide +kernel
theorem dX7_ringing_40 : decode cX7_ringing 40 = .ok (.ifCond .eq 18, 3) := by decide +kernel
theorem dX7_ringing_43 : decode cX7_ringing 43 = .ok (.goto 11, 3) := by decide +kernel
theorem dX7_ringing_46 : decode cX7_ringing 46 = .ok (.aload_n 0, 1) := by decide +kernel
theorem dX7_ringing_47 : decode cX7_ringing 47 = .ok (.iload_n 1, 1) := by decide +kernel
theorem dX7_ringing_48 : decode cX7_ringing 48 = .ok (.invokevirtual 167, 3) := by decide +kernel
theorem dX7_ringing_51 : decode cX7_ringing 51 = .ok (.ifCond .ne 7, 3) := by decide +kernel
theorem dX7_ringing_54 : decode cX7_ringing 54 = .ok (.iconst 1, 1) := by decide +kernel
theorem dX7_ringing_55 : decode cX7_ringing 55 = .ok (.goto 4, 3) := by decide +kernel
theorem dX7_ringing_58 : decode cX7_ringing 58 = .ok (.iconst 0, 1) := by decide +kernel
theorem dX7_ringing_59 : decode cX7_ringing 59 = .ok (.iadd, 1) := by decide +kernel
theorem dX7_ringing_60 : decode cX7_ringing 60 = .ok (.istore 4, 2) := by decide +kernel
theorem dX7_ringing_62 : decode cX7_ringing 62 = .ok (.iinc 5 1, 3) := by decide +kernel
theorem dX7_ringing_65 : decode cX7_ringing 65 = .ok (.goto (-55), 3) := by decide +kernel
theorem dX7_ringing_68 : decode cX7_ringing 68 = .ok (.aload_n 0, 1) := by decide +kernel
theorem dX7_ringing_69 : decode cX7_ringing 69 = .ok (.invokevirtual 203, 3) := by decide +kernel
theorem dX7_ringing_72 : decode cX7_ringing 72 = .ok (.iload 4, 2) := by decide +kernel
theorem dX7_ringing_74 : decode cX7_ringing 74 = .ok (.ireturn, 1) := by decide +kernel
set_option maxRecDepth 20000 in
theorem ggX7_rings_X7_isBell : GoodIn wsX7_rings wsX7_isBell := goodIn_r _ [5, 6, 98, 99, 100, 101, 102, 103, 104, 105, 106, 107, 108, 109, 110, 111, 112, 113, 114, 115, 116, 117, 118, 119, 120, 121, 122, 123] (by decide +kernel) (by decide +kernel)
set_option maxRecDepth 20000 in
theorem gX7_rings_X7_isBell : GoodIn wsX7_rings (wsV RX7 187 RX7 yX7_isBell wsX7_isBell) := goodIn_app (goodIn_of _ (by decide +kernel)) ggX7_rings_X7_isBell
set_option maxRecDepth 20000 in
theorem ggX7_rings_X7_bound : GoodIn wsX7_rings wsX7_bound := goodIn_r _ [9] (by decide +kernel) (by decide +kernel)
set_option maxRecDepth 20000 in
theorem gX7_rings_X7_bound : GoodIn wsX7_rings (va_wsS RX7 68 yX7_bound wsX7_bound) := goodIn_app (goodIn_of _ (by decide +kernel)) ggX7_rings_X7_bound
set_option maxRecDepth 20000 in
theorem ggX7_rings_X7_isIn : GoodIn wsX7_rings wsX7_isIn := goodIn_r _ [12] (by decide +kernel) (by decide +kernel)
set_option maxRecDepth 20000 in
theorem gX7_rings_X7_isIn : GoodIn wsX7_rings (va_wsS RX7 86 yX7_isIn wsX7_isIn) := goodIn_app (goodIn_of _ (by decide +kernel)) ggX7_rings_X7_isIn
set_option maxRecDepth 20000 in
theorem ggX7_rings_X7_no : GoodIn wsX7_rings wsX7_no := goodIn_r _ [16, 17, 98, 99, 100, 101, 102, 103, 104, 105, 106, 107, 108, 109, 110, 111, 112, 113, 114, 115, 116, 117, 118, 119, 120, 121, 122, 123] (by decide +kernel) (by decide +kernel)
set_option maxRecDepth 20000 in
theorem gX7_rings_X7_no : GoodIn wsX7_rings (wsV RX7 75 RX7 yX7_no wsX7_no) := goodIn_app (goodIn_of _ (by decide +kernel)) ggX7_rings_X7_no
set_option maxRecDepth 20000 in
theorem ggX7_rings_X7_ringing : GoodIn wsX7_rings wsX7_ringing := goodIn_r _ [21, 22, 23, 24, 4, 25, 26, 27, 28, 29, 30, 31, 32, 33, 34, 35, 36, 37, 6, 38, 39, 40, 41, 42, 43, 44, 45, 46, 47, 48, 49, 50, 51, 52, 53, 54, 55, 56, 57, 58, 59, 60, 61, 62, 63, 64, 65, 66, 67, 68, 69, 70, 71, 72, 73, 74, 75, 76, 77, 78, 79, 80, 81, 82, 83, 84, 85, 86, 87, 88, 89, 90, 91, 92, 93, 94, 95, 96, 97, 98, 99, 100, 101, 102, 103, 104, 105, 106, 107, 108, 109, 110, 111, 112, 113, 114, 115, 116, 117, 118, 119, 120, 121, 122, 123] (by decide +kernel) (by decide +kernel)
set_option maxRecDepth 20000 in
theorem gX7_rings_X7_ringing : GoodIn wsX7_rings (wsV RX7 218 RX7 yX7_ringing wsX7_ringing) := goodIn_app (goodIn_of _ (by decide +kernel)) ggX7_rings_X7_ringing
theorem dX7_rings_0 : decode cX7_rings 0 = .ok (.aload_n 0, 1) := by decide +kernel
theorem dX7_rings_1 : decode cX7_rings 1 = .ok (.iload_n 1, 1) := by decide +kernel
theorem dX7_rings_2 : decode cX7_rings 2 = .ok (.invokevirtual 187, 3) := by decide +kernel
theorem dX7_rings_5 : decode cX7_rings 5 = .ok (.ifCond .ne 7, 3) := by decide +kernel
theorem dX7_rings_8 : decode cX7_rings 8 = .ok (.iconst (-1), 1) := by decide +kernel
theorem dX7_rings_9 : decode cX7_rings 9 = .ok (.goto 10, 3) := by decide +kernel
theorem dX7_rings_12 : decode cX7_rings 12 = .ok (.iload_n 2, 1) := by decide +kernel
theorem dX7_rings_13 : decode cX7_rings 13 = .ok (.iconst 1, 1) := by decide +kernel
theorem dX7_rings_14 : decode cX7_rings 14 = .ok (.bipush 40, 2) := by decide +kernel
theorem dX7_rings_16 : decode cX7_rings 16 = .ok (.invokestatic 68, 3) := by decide +kernel
theorem dX7_rings_19 : decode cX7_rings 19 = .ok (.istore 4, 2) := by decide +kernel
theorem dX7_rings_21 : decode cX7_rings 21 = .ok (.iload 4, 2) := by decide +kernel
theorem dX7_rings_23 : decode cX7_rings 23 = .ok (.ifCond .ne 16, 3) := by decide +kernel
theorem dX7_rings_26 : decode cX7_rings 26 = .ok (.iload_n 3, 1) := by decide +kernel
theorem dX7_rings_27 : decode cX7_rings 27 = .ok (.iconst 0, 1) := by decide +kernel
theorem dX7_rings_28 : decode cX7_rings 28 = .ok (.iconst 1, 1) := by decide +kernel
theorem dX7_rings_29 : decode cX7_rings 29 = .ok (.invokestatic 86, 3) := by decide +kernel
theorem dX7_rings_32 : decode cX7_rings 32 = .ok (.ifCond .ne 7, 3) := by decide +kernel
theorem dX7_rings_35 : decode cX7_rings 35 = .ok (.bipush (-2), 2) := by decide +kernel
theorem dX7_rings_37 : decode cX7_rings 37 = .ok (.istore 4, 2) := by decide +kernel
theorem dX7_rings_39 : decode cX7_rings 39 = .ok (.iload 4, 2) := by decide +kernel
theorem dX7_rings_41 : decode cX7_rings 41 = .ok (.ifCond .eq 12, 3) := by decide +kernel
theorem dX7_rings_44 : decode cX7_rings 44 = .ok (.aload_n 0, 1) := by decide +kernel
theorem dX7_rings_45 : decode cX7_rings 45 = .ok (.iload 4, 2) := by decide +kernel
theorem dX7_rings_47 : decode cX7_rings 47 = .ok (.invokevirtual 75, 3) := by decide +kernel
theorem dX7_rings_50 : decode cX7_rings 50 = .ok (.goto 18, 3) := by decide +kernel
theorem dX7_rings_53 : decode cX7_rings 53 = .ok (.aload_n 0, 1) := by decide +kernel
theorem dX7_rings_54 : decode cX7_rings 54 = .ok (.iload_n 1, 1) := by decide +kernel
theorem dX7_rings_55 : decode cX7_rings 55 = .ok (.iload_n 2, 1) := by decide +kernel
theorem dX7_rings_56 : decode cX7_rings 56 = .ok (.iload_n 3, 1) := by decide +kernel
theorem dX7_rings_57 : decode cX7_rings 57 = .ok (.ifCond .ne 7, 3) := by decide +kernel
theorem dX7_rings_60 : decode cX7_rings 60 = .ok (.iconst 1, 1) := by decide +kernel
theorem dX7_rings_61 : decode cX7_rings 61 = .ok (.goto 4, 3) := by decide +kernel
theorem dX7_rings_64 : decode cX7_rings 64 = .ok (.iconst 0, 1) := by decide +kernel
theorem dX7_rings_65 : decode cX7_rings 65 = .ok (.invokevirtual 218, 3) := by decide +kernel
theorem dX7_rings_68 : decode cX7_rings 68 = .ok (.ireturn, 1) := by decide +kernel
set_option maxRecDepth 20000 in
theorem ggX7_allTrue_X7_thinks : GoodIn wsX7_allTrue wsX7_thinks := goodIn_r _ [6, 7, 8, 9, 5, 10, 11, 12, 13, 14, 15, 16, 17, 18, 1, 19, 20, 21, 22, 23, 24, 25, 26, 27, 28, 29, 30, 79, 80, 81, 82, 83, 84, 85, 86, 87, 88, 89, 90, 91, 92, 93, 94, 95, 96, 97, 98, 99, 100, 101, 102, 103, 104] (by decide +kernel) (by decide +kernel)
set_option maxRecDepth 20000 in
theorem gX7_allTrue_X7_thinks : GoodIn wsX7_allTrue (wsV RX7 200 RX7 yX7_thinks wsX7_thinks) := goodIn_app (goodIn_of _ (by decide +kernel)) ggX7_allTrue_X7_thinks
set_option maxRecDepth 20000 in
theorem ggX7_allTrue_X7_goesDay : GoodIn wsX7_allTrue wsX7_goesDay := goodIn_r _ [34, 20, 19, 18, 35, 36, 37, 5, 38, 17, 21, 39, 40, 41, 79, 80, 81, 82, 83, 84, 85, 86, 87, 88, 89, 90, 91, 92, 93, 94, 95, 96, 97, 98, 99, 100, 101, 102, 103, 104] (by decide +kernel) (by decide +kernel)
set_option maxRecDepth 20000 in
theorem gX7_allTrue_X7_goesDay : GoodIn wsX7_allTrue (wsV RX7 183 RX7 yX7_goesDay wsX7_goesDay) := goodIn_app (goodIn_of _ (by decide +kernel)) ggX7_allTrue_X7_goesDay
set_option maxRecDepth 20000 in
theorem ggX7_allTrue_X7_ringsNow : GoodIn wsX7_allTrue wsX7_ringsNow := goodIn_r _ [45, 20, 14, 79, 80, 81, 82, 83, 84, 85, 86, 87, 88, 89, 90, 91, 92, 93, 94, 95, 96, 97, 98, 99, 100, 101, 102, 103, 104] (by decide +kernel) (by decide +kernel)
set_option maxRecDepth 20000 in
theorem gX7_allTrue_X7_ringsNow : GoodIn wsX7_allTrue (wsV RX7 206 RX7 yX7_ringsNow wsX7_ringsNow) := goodIn_app (goodIn_of _ (by decide +kernel)) ggX7_allTrue_X7_ringsNow
set_option maxRecDepth 20000 in
theorem ggX7_allTrue_X7_isTrue : GoodIn wsX7_allTrue wsX7_isTrue := goodIn_r _ [49, 13, 50, 51, 52, 5, 53, 54, 55, 56, 57, 19, 58, 59, 60, 61, 15, 16, 62, 63, 64, 65, 66, 18, 17, 67, 68, 69, 70, 71, 72, 73, 74, 79, 80, 81, 82, 83, 84, 85, 86, 87, 88, 89, 90, 91, 92, 93, 94, 95, 96, 97, 98, 99, 100, 101, 102, 103, 104] (by decide +kernel) (by decide +kernel)
set_option maxRecDepth 20000 in
theorem gX7_allTrue_X7_isTrue : GoodIn wsX7_allTrue (wsV RX7 215 RX7 yX7_isTrue wsX7_isTrue) := goodIn_app (goodIn_of _ (by decide +kernel)) ggX7_allTrue_X7_isTrue
set_option maxRecDepth 20000 in
theorem ggX7_allTrue_X7_forgets : GoodIn wsX7_allTrue wsX7_forgets := goodIn_r _ [78, 7, 8, 9, 5, 10, 11, 12, 13, 14, 15, 16, 17, 18, 1, 19, 20, 21, 22, 23, 24, 25, 26, 27, 28, 29, 30, 79, 80, 81, 82, 83, 84, 85, 86, 87, 88, 89, 90, 91, 92, 93, 94, 95, 96, 97, 98, 99, 100, 101, 102, 103, 104] (by decide +kernel) (by decide +kernel)
set_option maxRecDepth 20000 in
theorem gX7_allTrue_X7_forgets : GoodIn wsX7_allTrue (wsV RX7 203 RX7 yX7_forgets wsX7_forgets) := goodIn_app (goodIn_of _ (by decide +kernel)) ggX7_allTrue_X7_forgets
theorem dX7_allTrue_0 : decode cX7_allTrue 0 = .ok (.aload_n 0, 1) := by decide +kernel
theorem dX7_allTrue_1 : decode cX7_allTrue 1 = .ok (.invokevirtual 200, 3) := by decide +kernel
theorem dX7_allTrue_4 : decode cX7_allTrue 4 = .ok (.iconst 0, 1) := by decide +kernel
theorem dX7_allTrue_5 : decode cX7_allTrue 5 = .ok (.istore_n 2, 1) := by decide +kernel
theorem dX7_allTrue_6 : decode cX7_allTrue 6 = .ok (.iconst 0, 1) := by decide +kernel
theorem dX7_allTrue_7 : decode cX7_allTrue 7 = .ok (.istore_n 3, 1) := by decide +kernel
theorem dX7_allTrue_8 : decode cX7_allTrue 8 = .ok (.iload_n 3, 1) := by decide +kernel
theorem dX7_allTrue_9 : decode cX7_allTrue 9 = .ok (.iload_n 1, 1) := by decide +kernel
theorem dX7_allTrue_10 : decode cX7_allTrue 10 = .ok (.if_icmp .ge 58, 3) := by decide +kernel
theorem dX7_allTrue_13 : decode cX7_allTrue 13 = .ok (.aload_n 0, 1) := by decide +kernel
theorem dX7_allTrue_14 : decode cX7_allTrue 14 = .ok (.iconst 0, 1) := by decide +kernel
theorem dX7_allTrue_15 : decode cX7_allTrue 15 = .ok (.invokevirtual 183, 3) := by decide +kernel
theorem dX7_allTrue_18 : decode cX7_allTrue 18 = .ok (.iconst 0, 1) := by decide +kernel
theorem dX7_allTrue_19 : decode cX7_allTrue 19 = .ok (.istore 4, 2) := by decide +kernel
theorem dX7_allTrue_21 : decode cX7_allTrue 21 = .ok (.iload 4, 2) := by decide +kernel
theorem dX7_allTrue_23 : decode cX7_allTrue 23 = .ok (.aload_n 0, 1) := by decide +kernel
theorem dX7_allTrue_24 : decode cX7_allTrue 24 = .ok (.getfield 62, 3) := by decide +kernel
theorem dX7_allTrue_27 : decode cX7_allTrue 27 = .ok (.if_icmp .ge 35, 3) := by decide +kernel
theorem dX7_allTrue_30 : decode cX7_allTrue 30 = .ok (.iload_n 2, 1) := by decide +kernel
theorem dX7_allTrue_31 : decode cX7_allTrue 31 = .ok (.aload_n 0, 1) := by decide +kernel
theorem dX7_allTrue_32 : decode cX7_allTrue 32 = .ok (.iload 4, 2) := by decide +kernel
theorem dX7_allTrue_34 : decode cX7_allTrue 34 = .ok (.invokevirtual 206, 3) := by decide +kernel
theorem dX7_allTrue_37 : decode cX7_allTrue 37 = .ok (.ifCond .eq 16, 3) := by decide +kernel
theorem dX7_allTrue_40 : decode cX7_allTrue 40 = .ok (.aload_n 0, 1) := by decide +kernel
theorem dX7_allTrue_41 : decode cX7_allTrue 41 = .ok (.iload 4, 2) := by decide +kernel
theorem dX7_allTrue_43 : decode cX7_allTrue 43 = .ok (.invokevirtual 215, 3) := by decide +kernel
theorem dX7_allTrue_46 : decode cX7_allTrue 46 = .ok (.ifCond .eq 7, 3) := by decide +kernel
theorem dX7_allTrue_49 : decode cX7_allTrue 49 = .ok (.iconst 1, 1) := by decide +kernel
theorem dX7_allTrue_50 : decode cX7_allTrue 50 = .ok (.goto 4, 3) := by decide +kernel
theorem dX7_allTrue_53 : decode cX7_allTrue 53 = .ok (.iconst 0, 1) := by decide +kernel
theorem dX7_allTrue_54 : decode cX7_allTrue 54 = .ok (.iadd, 1) := by decide +kernel
theorem dX7_allTrue_55 : decode cX7_allTrue 55 = .ok (.istore_n 2, 1) := by decide +kernel
theorem dX7_allTrue_56 : decode cX7_allTrue 56 = .ok (.iinc 4 1, 3) := by decide +kernel
theorem dX7_allTrue_59 : decode cX7_allTrue 59 = .ok (.goto (-38), 3) := by decide +kernel
theorem dX7_allTrue_62 : decode cX7_allTrue 62 = .ok (.iinc 3 1, 3) := by decide +kernel
theorem dX7_allTrue_65 : decode cX7_allTrue 65 = .ok (.goto (-57), 3) := by decide +kernel
theorem dX7_allTrue_68 : decode cX7_allTrue 68 = .ok (.aload_n 0, 1) := by decide +kernel
theorem dX7_allTrue_69 : decode cX7_allTrue 69 = .ok (.invokevirtual 203, 3) := by decide +kernel
theorem dX7_allTrue_72 : decode cX7_allTrue 72 = .ok (.iload_n 2, 1) := by decide +kernel
theorem dX7_allTrue_73 : decode cX7_allTrue 73 = .ok (.ireturn, 1) := by decide +kernel
set_option maxRecDepth 20000 in
theorem ggX7_send_X7_isBell : GoodIn wsX7_send wsX7_isBell := goodIn_r _ [7, 8, 92, 93, 94, 95, 96, 97, 98, 99, 100, 101, 102, 103, 104, 105, 106, 107, 108, 109, 110, 111, 112, 113, 114, 115, 116, 117] (by decide +kernel) (by decide +kernel)
set_option maxRecDepth 20000 in
theorem gX7_send_X7_isBell : GoodIn wsX7_send (wsV RX7 187 RX7 yX7_isBell wsX7_isBell) := goodIn_app (goodIn_of _ (by decide +kernel)) ggX7_send_X7_isBell
set_option maxRecDepth 20000 in
theorem ggX7_send_X7_no : GoodIn wsX7_send wsX7_no := goodIn_r _ [12, 13, 92, 93, 94, 95, 96, 97, 98, 99, 100, 101, 102, 103, 104, 105, 106, 107, 108, 109, 110, 111, 112, 113, 114, 115, 116, 117] (by decide +kernel) (by decide +kernel)
set_option maxRecDepth 20000 in
theorem gX7_send_X7_no : GoodIn wsX7_send (wsV RX7 75 RX7 yX7_no wsX7_no) := goodIn_app (goodIn_of _ (by decide +kernel)) ggX7_send_X7_no
set_option maxRecDepth 20000 in
theorem ggX7_send_X7_ringing : GoodIn wsX7_send wsX7_ringing := goodIn_r _ [17, 18, 19, 20, 6, 21, 22, 23, 24, 25, 26, 27, 28, 29, 30, 31, 32, 2, 8, 1, 33, 34, 35, 36, 37, 38, 39, 40, 41, 42, 43, 44, 45, 46, 47, 48, 49, 50, 51, 52, 53, 54, 55, 56, 57, 58, 59, 60, 61, 62, 63, 64, 65, 66, 67, 68, 69, 70, 71, 72, 73, 74, 75, 76, 77, 78, 79, 80, 81, 82, 83, 84, 85, 86, 87, 88, 89, 90, 91, 92, 93, 94, 95, 96, 97, 98, 99, 100, 101, 102, 103, 104, 105, 106, 107, 108, 109, 110, 111, 112, 113, 114, 115, 116, 117] (by decide +kernel) (by decide +kernel)
set_option maxRecDepth 20000 in
theorem gX7_send_X7_ringing : GoodIn wsX7_send (wsV RX7 218 RX7 yX7_ringing wsX7_ringing) := goodIn_app (goodIn_of _ (by decide +kernel)) ggX7_send_X7_ringing
theorem dX7_send_0 : decode cX7_send 0 = .ok (.aload_n 0, 1) := by decide +kernel
theorem dX7_send_1 : decode cX7_send 1 = .ok (.iload_n 1, 1) := by decide +kernel
theorem dX7_send_2 : decode cX7_send 2 = .ok (.invokevirtual 187, 3) := by decide +kernel
theorem dX7_send_5 : decode cX7_send 5 = .ok (.ifCond .ne 7, 3) := by decide +kernel
theorem dX7_send_8 : decode cX7_send 8 = .ok (.iconst (-1), 1) := by decide +kernel
theorem dX7_send_9 : decode cX7_send 9 = .ok (.goto 36, 3) := by decide +kernel
theorem dX7_send_12 : decode cX7_send 12 = .ok (.iload_n 2, 1) := by decide +kernel
theorem dX7_send_13 : decode cX7_send 13 = .ok (.iconst 1, 1) := by decide +kernel
theorem dX7_send_14 : decode cX7_send 14 = .ok (.if_icmp .lt 8, 3) := by decide +kernel
theorem dX7_send_17 : decode cX7_send 17 = .ok (.iload_n 3, 1) := by decide +kernel
theorem dX7_send_18 : decode cX7_send 18 = .ok (.iconst 1, 1) := by decide +kernel
theorem dX7_send_19 : decode cX7_send 19 = .ok (.if_icmp .ge 8, 3) := by decide +kernel
theorem dX7_send_22 : decode cX7_send 22 = .ok (.bipush (-4), 2) := by decide +kernel
theorem dX7_send_24 : decode cX7_send 24 = .ok (.goto 21, 3) := by decide +kernel
theorem dX7_send_27 : decode cX7_send 27 = .ok (.iload_n 2, 1) := by decide +kernel
theorem dX7_send_28 : decode cX7_send 28 = .ok (.bipush 9, 2) := by decide +kernel
theorem dX7_send_30 : decode cX7_send 30 = .ok (.if_icmp .gt 9, 3) := by decide +kernel
theorem dX7_send_33 : decode cX7_send 33 = .ok (.iload_n 3, 1) := by decide +kernel
theorem dX7_send_34 : decode cX7_send 34 = .ok (.bipush 40, 2) := by decide +kernel
theorem dX7_send_36 : decode cX7_send 36 = .ok (.if_icmp .le 8, 3) := by decide +kernel
theorem dX7_send_39 : decode cX7_send 39 = .ok (.bipush (-6), 2) := by decide +kernel
theorem dX7_send_41 : decode cX7_send 41 = .ok (.goto 4, 3) := by decide +kernel
theorem dX7_send_44 : decode cX7_send 44 = .ok (.iconst 0, 1) := by decide +kernel
theorem dX7_send_45 : decode cX7_send 45 = .ok (.istore 4, 2) := by decide +kernel
theorem dX7_send_47 : decode cX7_send 47 = .ok (.iload 4, 2) := by decide +kernel
theorem dX7_send_49 : decode cX7_send 49 = .ok (.ifCond .eq 10, 3) := by decide +kernel
theorem dX7_send_52 : decode cX7_send 52 = .ok (.aload_n 0, 1) := by decide +kernel
theorem dX7_send_53 : decode cX7_send 53 = .ok (.iload 4, 2) := by decide +kernel
theorem dX7_send_55 : decode cX7_send 55 = .ok (.invokevirtual 75, 3) := by decide +kernel
theorem dX7_send_58 : decode cX7_send 58 = .ok (.ireturn, 1) := by decide +kernel
theorem dX7_send_59 : decode cX7_send 59 = .ok (.bipush (-9), 2) := by decide +kernel
theorem dX7_send_61 : decode cX7_send 61 = .ok (.istore 5, 2) := by decide +kernel
theorem dX7_send_63 : decode cX7_send 63 = .ok (.aload_n 0, 1) := by decide +kernel
theorem dX7_send_64 : decode cX7_send 64 = .ok (.iload_n 1, 1) := by decide +kernel
theorem dX7_send_65 : decode cX7_send 65 = .ok (.iload_n 3, 1) := by decide +kernel
theorem dX7_send_66 : decode cX7_send 66 = .ok (.iconst 1, 1) := by decide +kernel
theorem dX7_send_67 : decode cX7_send 67 = .ok (.invokevirtual 218, 3) := by decide +kernel
theorem dX7_send_70 : decode cX7_send 70 = .ok (.istore 6, 2) := by decide +kernel
theorem dX7_send_72 : decode cX7_send 72 = .ok (.iconst 0, 1) := by decide +kernel
theorem dX7_send_73 : decode cX7_send 73 = .ok (.istore 7, 2) := by decide +kernel
theorem dX7_send_75 : decode cX7_send 75 = .ok (.iload 7, 2) := by decide +kernel
theorem dX7_send_77 : decode cX7_send 77 = .ok (.aload_n 0, 1) := by decide +kernel
theorem dX7_send_78 : decode cX7_send 78 = .ok (.getfield 65, 3) := by decide +kernel
theorem dX7_send_81 : decode cX7_send 81 = .ok (.if_icmp .ge 62, 3) := by decide +kernel
theorem dX7_send_84 : decode cX7_send 84 = .ok (.aload_n 0, 1) := by decide +kernel
theorem dX7_send_85 : decode cX7_send 85 = .ok (.getfield 28, 3) := by decide +kernel
theorem dX7_send_88 : decode cX7_send 88 = .ok (.iload 7, 2) := by decide +kernel
theorem dX7_send_90 : decode cX7_send 90 = .ok (.iaload, 1) := by decide +kernel
theorem dX7_send_91 : decode cX7_send 91 = .ok (.istore 8, 2) := by decide +kernel
theorem dX7_send_93 : decode cX7_send 93 = .ok (.aload_n 0, 1) := by decide +kernel
theorem dX7_send_94 : decode cX7_send 94 = .ok (.getfield 28, 3) := by decide +kernel
theorem dX7_send_97 : decode cX7_send 97 = .ok (.iload 7, 2) := by decide +kernel
theorem dX7_send_99 : decode cX7_send 99 = .ok (.iload_n 2, 1) := by decide +kernel
theorem dX7_send_100 : decode cX7_send 100 = .ok (.iastore, 1) := by decide +kernel
theorem dX7_send_101 : decode cX7_send 101 = .ok (.aload_n 0, 1) := by decide +kernel
theorem dX7_send_102 : decode cX7_send 102 = .ok (.iload_n 1, 1) := by decide +kernel
theorem dX7_send_103 : decode cX7_send 103 = .ok (.iload_n 3, 1) := by decide +kernel
theorem dX7_send_104 : decode cX7_send 104 = .ok (.iconst 1, 1) := by decide +kernel
theorem dX7_send_105 : decode cX7_send 105 = .ok (.invokevirtual 218, 3) := by decide +kernel
theorem dX7_send_108 : decode cX7_send 108 = .ok (.istore 9, 2) := by decide +kernel
theorem dX7_send_110 : decode cX7_send 110 = .ok (.aload_n 0, 1) := by decide +kernel
theorem dX7_send_111 : decode cX7_send 111 = .ok (.getfield 28, 3) := by decide +kernel
theorem dX7_send_114 : decode cX7_send 114 = .ok (.iload 7, 2) := by decide +kernel
theorem dX7_send_116 : decode cX7_send 116 = .ok (.iload 8, 2) := by decide +kernel
theorem dX7_send_118 : decode cX7_send 118 = .ok (.iastore, 1) := by decide +kernel
theorem dX7_send_119 : decode cX7_send 119 = .ok (.iload 9, 2) := by decide +kernel
theorem dX7_send_121 : decode cX7_send 121 = .ok (.iload 6, 2) := by decide +kernel
theorem dX7_send_123 : decode cX7_send 123 = .ok (.if_icmp .gt 6, 3) := by decide +kernel
theorem dX7_send_126 : decode cX7_send 126 = .ok (.goto 11, 3) := by decide +kernel
theorem dX7_send_129 : decode cX7_send 129 = .ok (.iload 7, 2) := by decide +kernel
theorem dX7_send_131 : decode cX7_send 131 = .ok (.istore 5, 2) := by decide +kernel
theorem dX7_send_133 : decode cX7_send 133 = .ok (.iload 9, 2) := by decide +kernel
theorem dX7_send_135 : decode cX7_send 135 = .ok (.istore 6, 2) := by decide +kernel
theorem dX7_send_137 : decode cX7_send 137 = .ok (.iinc 7 1, 3) := by decide +kernel
theorem dX7_send_140 : decode cX7_send 140 = .ok (.goto (-65), 3) := by decide +kernel
theorem dX7_send_143 : decode cX7_send 143 = .ok (.iload 5, 2) := by decide +kernel
theorem dX7_send_145 : decode cX7_send 145 = .ok (.ireturn, 1) := by decide +kernel
set_option maxRecDepth 20000 in
theorem ggX7_nightsFor_X7_isOne : GoodIn wsX7_nightsFor wsX7_isOne := goodIn_r _ [6, 7, 95, 96, 97, 98, 99, 100, 101, 102, 103, 104, 105, 106, 107, 108, 109, 110, 111, 112, 113, 114, 115, 116, 117, 118, 119, 120] (by decide +kernel) (by decide +kernel)
set_option maxRecDepth 20000 in
theorem gX7_nightsFor_X7_isOne : GoodIn wsX7_nightsFor (wsV RX7 120 RX7 yX7_isOne wsX7_isOne) := goodIn_app (goodIn_of _ (by decide +kernel)) ggX7_nightsFor_X7_isOne
set_option maxRecDepth 20000 in
theorem ggX7_nightsFor_X7_bound : GoodIn wsX7_nightsFor wsX7_bound := goodIn_r _ [10] (by decide +kernel) (by decide +kernel)
set_option maxRecDepth 20000 in
theorem gX7_nightsFor_X7_bound : GoodIn wsX7_nightsFor (va_wsS RX7 68 yX7_bound wsX7_bound) := goodIn_app (goodIn_of _ (by decide +kernel)) ggX7_nightsFor_X7_bound
set_option maxRecDepth 20000 in
theorem ggX7_nightsFor_X7_no : GoodIn wsX7_nightsFor wsX7_no := goodIn_r _ [14, 15, 95, 96, 97, 98, 99, 100, 101, 102, 103, 104, 105, 106, 107, 108, 109, 110, 111, 112, 113, 114, 115, 116, 117, 118, 119, 120] (by decide +kernel) (by decide +kernel)
set_option maxRecDepth 20000 in
theorem gX7_nightsFor_X7_no : GoodIn wsX7_nightsFor (wsV RX7 75 RX7 yX7_no wsX7_no) := goodIn_app (goodIn_of _ (by decide +kernel)) ggX7_nightsFor_X7_no
set_option maxRecDepth 20000 in
theorem ggX7_nightsFor_X7_allTrue : GoodIn wsX7_nightsFor wsX7_allTrue := goodIn_r _ [19, 20, 21, 22, 23, 5, 24, 25, 26, 27, 28, 29, 30, 31, 32, 33, 34, 35, 1, 7, 36, 37, 38, 39, 40, 41, 42, 43, 44, 45, 46, 47, 48, 49, 50, 51, 52, 53, 54, 55, 56, 57, 58, 59, 60, 61, 62, 63, 64, 65, 66, 67, 68, 69, 70, 71, 72, 73, 74, 75, 76, 77, 78, 79, 80, 81, 82, 83, 84, 85, 86, 87, 88, 89, 90, 91, 92, 93, 94, 95, 96, 97, 98, 99, 100, 101, 102, 103, 104, 105, 106, 107, 108, 109, 110, 111, 112, 113, 114, 115, 116, 117, 118, 119, 120] (by decide +kernel) (by decide +kernel)
set_option maxRecDepth 20000 in
theorem gX7_nightsFor_X7_allTrue : GoodIn wsX7_nightsFor (wsV RX7 222 RX7 yX7_allTrue wsX7_allTrue) := goodIn_app (goodIn_of _ (by decide +kernel)) ggX7_nightsFor_X7_allTrue
theorem dX7_nightsFor_0 : decode cX7_nightsFor 0 = .ok (.aload_n 0, 1) := by decide +kernel
theorem dX7_nightsFor_1 : decode cX7_nightsFor 1 = .ok (.iload_n 1, 1) := by decide +kernel
theorem dX7_nightsFor_2 : decode cX7_nightsFor 2 = .ok (.invokevirtual 120, 3) := by decide +kernel
theorem dX7_nightsFor_5 : decode cX7_nightsFor 5 = .ok (.ifCond .ne 7, 3) := by decide +kernel
theorem dX7_nightsFor_8 : decode cX7_nightsFor 8 = .ok (.iconst (-1), 1) := by decide +kernel
theorem dX7_nightsFor_9 : decode cX7_nightsFor 9 = .ok (.goto 10, 3) := by decide +kernel
theorem dX7_nightsFor_12 : decode cX7_nightsFor 12 = .ok (.iload_n 2, 1) := by decide +kernel
theorem dX7_nightsFor_13 : decode cX7_nightsFor 13 = .ok (.iconst 1, 1) := by decide +kernel
theorem dX7_nightsFor_14 : decode cX7_nightsFor 14 = .ok (.bipush 40, 2) := by decide +kernel
theorem dX7_nightsFor_16 : decode cX7_nightsFor 16 = .ok (.invokestatic 68, 3) := by decide +kernel
theorem dX7_nightsFor_19 : decode cX7_nightsFor 19 = .ok (.istore_n 3, 1) := by decide +kernel
theorem dX7_nightsFor_20 : decode cX7_nightsFor 20 = .ok (.iload_n 3, 1) := by decide +kernel
theorem dX7_nightsFor_21 : decode cX7_nightsFor 21 = .ok (.ifCond .eq 9, 3) := by decide +kernel
theorem dX7_nightsFor_24 : decode cX7_nightsFor 24 = .ok (.aload_n 0, 1) := by decide +kernel
theorem dX7_nightsFor_25 : decode cX7_nightsFor 25 = .ok (.iload_n 3, 1) := by decide +kernel
theorem dX7_nightsFor_26 : decode cX7_nightsFor 26 = .ok (.invokevirtual 75, 3) := by decide +kernel
theorem dX7_nightsFor_29 : decode cX7_nightsFor 29 = .ok (.ireturn, 1) := by decide +kernel
theorem dX7_nightsFor_30 : decode cX7_nightsFor 30 = .ok (.bipush (-9), 2) := by decide +kernel
theorem dX7_nightsFor_32 : decode cX7_nightsFor 32 = .ok (.istore 4, 2) := by decide +kernel
theorem dX7_nightsFor_34 : decode cX7_nightsFor 34 = .ok (.aload_n 0, 1) := by decide +kernel
theorem dX7_nightsFor_35 : decode cX7_nightsFor 35 = .ok (.iload_n 2, 1) := by decide +kernel
theorem dX7_nightsFor_36 : decode cX7_nightsFor 36 = .ok (.invokevirtual 222, 3) := by decide +kernel
theorem dX7_nightsFor_39 : decode cX7_nightsFor 39 = .ok (.istore 5, 2) := by decide +kernel
theorem dX7_nightsFor_41 : decode cX7_nightsFor 41 = .ok (.aload_n 0, 1) := by decide +kernel
theorem dX7_nightsFor_42 : decode cX7_nightsFor 42 = .ok (.getfield 28, 3) := by decide +kernel
theorem dX7_nightsFor_45 : decode cX7_nightsFor 45 = .ok (.iload_n 1, 1) := by decide +kernel
theorem dX7_nightsFor_46 : decode cX7_nightsFor 46 = .ok (.iaload, 1) := by decide +kernel
theorem dX7_nightsFor_47 : decode cX7_nightsFor 47 = .ok (.istore 6, 2) := by decide +kernel
theorem dX7_nightsFor_49 : decode cX7_nightsFor 49 = .ok (.iconst 1, 1) := by decide +kernel
theorem dX7_nightsFor_50 : decode cX7_nightsFor 50 = .ok (.istore 7, 2) := by decide +kernel
theorem dX7_nightsFor_52 : decode cX7_nightsFor 52 = .ok (.iload 7, 2) := by decide +kernel
theorem dX7_nightsFor_54 : decode cX7_nightsFor 54 = .ok (.bipush 9, 2) := by decide +kernel
theorem dX7_nightsFor_56 : decode cX7_nightsFor 56 = .ok (.if_icmp .gt 42, 3) := by decide +kernel
theorem dX7_nightsFor_59 : decode cX7_nightsFor 59 = .ok (.aload_n 0, 1) := by decide +kernel
theorem dX7_nightsFor_60 : decode cX7_nightsFor 60 = .ok (.getfield 28, 3) := by decide +kernel
theorem dX7_nightsFor_63 : decode cX7_nightsFor 63 = .ok (.iload_n 1, 1) := by decide +kernel
theorem dX7_nightsFor_64 : decode cX7_nightsFor 64 = .ok (.iload 7, 2) := by decide +kernel
theorem dX7_nightsFor_66 : decode cX7_nightsFor 66 = .ok (.iastore, 1) := by decide +kernel
theorem dX7_nightsFor_67 : decode cX7_nightsFor 67 = .ok (.aload_n 0, 1) := by decide +kernel
theorem dX7_nightsFor_68 : decode cX7_nightsFor 68 = .ok (.iload_n 2, 1) := by decide +kernel
theorem dX7_nightsFor_69 : decode cX7_nightsFor 69 = .ok (.invokevirtual 222, 3) := by decide +kernel
theorem dX7_nightsFor_72 : decode cX7_nightsFor 72 = .ok (.istore 8, 2) := by decide +kernel
theorem dX7_nightsFor_74 : decode cX7_nightsFor 74 = .ok (.iload 8, 2) := by decide +kernel
theorem dX7_nightsFor_76 : decode cX7_nightsFor 76 = .ok (.iload 5, 2) := by decide +kernel
theorem dX7_nightsFor_78 : decode cX7_nightsFor 78 = .ok (.if_icmp .gt 6, 3) := by decide +kernel
theorem dX7_nightsFor_81 : decode cX7_nightsFor 81 = .ok (.goto 11, 3) := by decide +kernel
theorem dX7_nightsFor_84 : decode cX7_nightsFor 84 = .ok (.iload 7, 2) := by decide +kernel
theorem dX7_nightsFor_86 : decode cX7_nightsFor 86 = .ok (.istore 4, 2) := by decide +kernel
theorem dX7_nightsFor_88 : decode cX7_nightsFor 88 = .ok (.iload 8, 2) := by decide +kernel
theorem dX7_nightsFor_90 : decode cX7_nightsFor 90 = .ok (.istore 5, 2) := by decide +kernel
theorem dX7_nightsFor_92 : decode cX7_nightsFor 92 = .ok (.iinc 7 1, 3) := by decide +kernel
theorem dX7_nightsFor_95 : decode cX7_nightsFor 95 = .ok (.goto (-43), 3) := by decide +kernel
theorem dX7_nightsFor_98 : decode cX7_nightsFor 98 = .ok (.aload_n 0, 1) := by decide +kernel
theorem dX7_nightsFor_99 : decode cX7_nightsFor 99 = .ok (.getfield 28, 3) := by decide +kernel
theorem dX7_nightsFor_102 : decode cX7_nightsFor 102 = .ok (.iload_n 1, 1) := by decide +kernel
theorem dX7_nightsFor_103 : decode cX7_nightsFor 103 = .ok (.iload 6, 2) := by decide +kernel
theorem dX7_nightsFor_105 : decode cX7_nightsFor 105 = .ok (.iastore, 1) := by decide +kernel
theorem dX7_nightsFor_106 : decode cX7_nightsFor 106 = .ok (.iload 4, 2) := by decide +kernel
theorem dX7_nightsFor_108 : decode cX7_nightsFor 108 = .ok (.ireturn, 1) := by decide +kernel
set_option maxRecDepth 20000 in
theorem ggX7_allHeard_X7_hearers : GoodIn wsX7_allHeard wsX7_hearers := goodIn_r _ [6, 7, 8, 9, 10, 5, 11, 12, 13, 14, 15, 16, 17, 18, 19, 20, 21, 22, 23, 24, 25, 26, 27, 28, 29, 30, 31, 32, 33, 34, 35, 36, 37, 38, 39, 40, 41, 42, 43, 44, 45, 46, 47] (by decide +kernel) (by decide +kernel)
set_option maxRecDepth 20000 in
theorem gX7_allHeard_X7_hearers : GoodIn wsX7_allHeard (wsV RX7 167 RX7 yX7_hearers wsX7_hearers) := goodIn_app (goodIn_of _ (by decide +kernel)) ggX7_allHeard_X7_hearers
theorem dX7_allHeard_0 : decode cX7_allHeard 0 = .ok (.iconst 0, 1) := by decide +kernel
theorem dX7_allHeard_1 : decode cX7_allHeard 1 = .ok (.istore_n 1, 1) := by decide +kernel
theorem dX7_allHeard_2 : decode cX7_allHeard 2 = .ok (.iload_n 1, 1) := by decide +kernel
theorem dX7_allHeard_3 : decode cX7_allHeard 3 = .ok (.aload_n 0, 1) := by decide +kernel
theorem dX7_allHeard_4 : decode cX7_allHeard 4 = .ok (.getfield 62, 3) := by decide +kernel
theorem dX7_allHeard_7 : decode cX7_allHeard 7 = .ok (.if_icmp .ge 19, 3) := by decide +kernel
theorem dX7_allHeard_10 : decode cX7_allHeard 10 = .ok (.aload_n 0, 1) := by decide +kernel
theorem dX7_allHeard_11 : decode cX7_allHeard 11 = .ok (.iload_n 1, 1) := by decide +kernel
theorem dX7_allHeard_12 : decode cX7_allHeard 12 = .ok (.invokevirtual 167, 3) := by decide +kernel
theorem dX7_allHeard_15 : decode cX7_allHeard 15 = .ok (.ifCond .ne 5, 3) := by decide +kernel
theorem dX7_allHeard_18 : decode cX7_allHeard 18 = .ok (.iconst 0, 1) := by decide +kernel
theorem dX7_allHeard_19 : decode cX7_allHeard 19 = .ok (.ireturn, 1) := by decide +kernel
theorem dX7_allHeard_20 : decode cX7_allHeard 20 = .ok (.iinc 1 1, 3) := by decide +kernel
theorem dX7_allHeard_23 : decode cX7_allHeard 23 = .ok (.goto (-21), 3) := by decide +kernel
theorem dX7_allHeard_26 : decode cX7_allHeard 26 = .ok (.iconst 1, 1) := by decide +kernel
theorem dX7_allHeard_27 : decode cX7_allHeard 27 = .ok (.ireturn, 1) := by decide +kernel
set_option maxRecDepth 20000 in
theorem ggX7_allHeardIn_X7_thinks : GoodIn wsX7_allHeardIn wsX7_thinks := goodIn_r _ [5, 6, 7, 8, 4, 9, 10, 11, 12, 13, 14, 15, 16, 17, 18, 19, 20, 21, 22, 23, 24, 25, 26, 27, 28, 29, 30, 67, 68, 69, 70, 71, 72, 73, 74, 75, 76, 77, 78, 79, 80, 81, 82, 83, 84, 85, 86, 87, 88, 89, 90, 91, 92] (by decide +kernel) (by decide +kernel)
set_option maxRecDepth 20000 in
theorem gX7_allHeardIn_X7_thinks : GoodIn wsX7_allHeardIn (wsV RX7 200 RX7 yX7_thinks wsX7_thinks) := goodIn_app (goodIn_of _ (by decide +kernel)) ggX7_allHeardIn_X7_thinks
set_option maxRecDepth 20000 in
theorem ggX7_allHeardIn_X7_goesOn : GoodIn wsX7_allHeardIn wsX7_goesOn := goodIn_r _ [34, 35, 36, 37, 4, 38, 20, 19, 17, 39, 40, 41, 42, 16, 21, 43, 44, 45, 67, 68, 69, 70, 71, 72, 73, 74, 75, 76, 77, 78, 79, 80, 81, 82, 83, 84, 85, 86, 87, 88, 89, 90, 91, 92] (by decide +kernel) (by decide +kernel)
set_option maxRecDepth 20000 in
theorem gX7_allHeardIn_X7_goesOn : GoodIn wsX7_allHeardIn (wsV RX7 110 RX7 yX7_goesOn wsX7_goesOn) := goodIn_app (goodIn_of _ (by decide +kernel)) ggX7_allHeardIn_X7_goesOn
set_option maxRecDepth 20000 in
theorem ggX7_allHeardIn_X7_allHeard : GoodIn wsX7_allHeardIn wsX7_allHeard := goodIn_r _ [49, 18, 50, 51, 52, 4, 53, 19, 54, 55, 56, 57, 58, 17, 16, 14, 12, 59, 60, 61, 62, 15, 67, 68, 69, 70, 71, 72, 73, 74, 75, 76, 77, 78, 79, 80, 81, 82, 83, 84, 85, 86, 87, 88, 89, 90, 91, 92] (by decide +kernel) (by decide +kernel)
set_option maxRecDepth 20000 in
theorem gX7_allHeardIn_X7_allHeard : GoodIn wsX7_allHeardIn (wsV RX7 225 RX7 yX7_allHeard wsX7_allHeard) := goodIn_app (goodIn_of _ (by decide +kernel)) ggX7_allHeardIn_X7_allHeard
set_option maxRecDepth 20000 in
theorem ggX7_allHeardIn_X7_forgets : GoodIn wsX7_allHeardIn wsX7_forgets := goodIn_r _ [66, 6, 7, 8, 4, 9, 10, 11, 12, 13, 14, 15, 16, 17, 18, 19, 20, 21, 22, 23, 24, 25, 26, 27, 28, 29, 30, 67, 68, 69, 70, 71, 72, 73, 74, 75, 76, 77, 78, 79, 80, 81, 82, 83, 84, 85, 86, 87, 88, 89, 90, 91, 92] (by decide +kernel) (by decide +kernel)
set_option maxRecDepth 20000 in
theorem gX7_allHeardIn_X7_forgets : GoodIn wsX7_allHeardIn (wsV RX7 203 RX7 yX7_forgets wsX7_forgets) := goodIn_app (goodIn_of _ (by decide +kernel)) ggX7_allHeardIn_X7_forgets
theorem dX7_allHeardIn_0 : decode cX7_allHeardIn 0 = .ok (.aload_n 0, 1) := by decide +kernel
theorem dX7_allHeardIn_1 : decode cX7_allHeardIn 1 = .ok (.invokevirtual 200, 3) := by decide +kernel
theorem dX7_allHeardIn_4 : decode cX7_allHeardIn 4 = .ok (.aload_n 0, 1) := by decide +kernel
theorem dX7_allHeardIn_5 : decode cX7_allHeardIn 5 = .ok (.iload_n 1, 1) := by decide +kernel
theorem dX7_allHeardIn_6 : decode cX7_allHeardIn 6 = .ok (.invokevirtual 110, 3) := by decide +kernel
theorem dX7_allHeardIn_9 : decode cX7_allHeardIn 9 = .ok (.aload_n 0, 1) := by decide +kernel
theorem dX7_allHeardIn_10 : decode cX7_allHeardIn 10 = .ok (.invokevirtual 225, 3) := by decide +kernel
theorem dX7_allHeardIn_13 : decode cX7_allHeardIn 13 = .ok (.istore_n 2, 1) := by decide +kernel
theorem dX7_allHeardIn_14 : decode cX7_allHeardIn 14 = .ok (.aload_n 0, 1) := by decide +kernel
theorem dX7_allHeardIn_15 : decode cX7_allHeardIn 15 = .ok (.invokevirtual 203, 3) := by decide +kernel
theorem dX7_allHeardIn_18 : decode cX7_allHeardIn 18 = .ok (.iload_n 2, 1) := by decide +kernel
theorem dX7_allHeardIn_19 : decode cX7_allHeardIn 19 = .ok (.ireturn, 1) := by decide +kernel
set_option maxRecDepth 20000 in
theorem ggX7_allHeardWithout_X7_changes : GoodIn wsX7_allHeardWithout wsX7_changes := goodIn_r _ [7, 8, 9, 10, 6, 11, 12, 13, 14, 15, 16, 17, 18, 2, 19, 1, 20, 21, 22, 23, 24, 25, 26, 27, 28, 29, 30, 82, 83, 84, 85, 86, 87, 88, 89, 90, 91, 92, 93, 94, 95, 96, 97, 98, 99, 100, 101, 102, 103, 104, 105, 106, 107] (by decide +kernel) (by decide +kernel)
set_option maxRecDepth 20000 in
theorem gX7_allHeardWithout_X7_changes : GoodIn wsX7_allHeardWithout (wsV RX7 228 RX7 yX7_changes wsX7_changes) := goodIn_app (goodIn_of _ (by decide +kernel)) ggX7_allHeardWithout_X7_changes
set_option maxRecDepth 20000 in
theorem ggX7_allHeardWithout_X7_has : GoodIn wsX7_allHeardWithout wsX7_has := goodIn_r _ [33] (by decide +kernel) (by decide +kernel)
set_option maxRecDepth 20000 in
theorem gX7_allHeardWithout_X7_has : GoodIn wsX7_allHeardWithout (va_wsS RX7 231 yX7_has wsX7_has) := goodIn_app (goodIn_of _ (by decide +kernel)) ggX7_allHeardWithout_X7_has
set_option maxRecDepth 20000 in
theorem ggX7_allHeardWithout_X7_allHeardIn : GoodIn wsX7_allHeardWithout wsX7_allHeardIn := goodIn_r _ [37, 38, 39, 40, 6, 41, 8, 9, 10, 11, 12, 13, 14, 15, 16, 17, 18, 2, 19, 1, 20, 21, 22, 23, 24, 25, 26, 27, 28, 29, 30, 42, 43, 44, 45, 46, 47, 48, 49, 50, 51, 52, 53, 54, 55, 56, 57, 58, 59, 60, 61, 62, 63, 64, 65, 66, 67, 68, 69, 70, 71, 72, 73, 74, 75, 76, 77, 82, 83, 84, 85, 86, 87, 88, 89, 90, 91, 92, 93, 94, 95, 96, 97, 98, 99, 100, 101, 102, 103, 104, 105, 106, 107] (by decide +kernel) (by decide +kernel)
set_option maxRecDepth 20000 in
theorem gX7_allHeardWithout_X7_allHeardIn : GoodIn wsX7_allHeardWithout (wsV RX7 234 RX7 yX7_allHeardIn wsX7_allHeardIn) := goodIn_app (goodIn_of _ (by decide +kernel)) ggX7_allHeardWithout_X7_allHeardIn
set_option maxRecDepth 20000 in
theorem ggX7_allHeardWithout_X7_changesBack : GoodIn wsX7_allHeardWithout wsX7_changesBack := goodIn_r _ [81, 8, 9, 10, 6, 11, 12, 13, 14, 15, 16, 17, 18, 2, 19, 1, 20, 21, 22, 23, 24, 25, 26, 27, 28, 29, 30, 82, 83, 84, 85, 86, 87, 88, 89, 90, 91, 92, 93, 94, 95, 96, 97, 98, 99, 100, 101, 102, 103, 104, 105, 106, 107] (by decide +kernel) (by decide +kernel)
set_option maxRecDepth 20000 in
theorem gX7_allHeardWithout_X7_changesBack : GoodIn wsX7_allHeardWithout (wsV RX7 237 RX7 yX7_changesBack wsX7_changesBack) := goodIn_app (goodIn_of _ (by decide +kernel)) ggX7_allHeardWithout_X7_changesBack
theorem dX7_allHeardWithout_0 : decode cX7_allHeardWithout 0 = .ok (.aload_n 0, 1) := by decide +kernel
theorem dX7_allHeardWithout_1 : decode cX7_allHeardWithout 1 = .ok (.invokevirtual 228, 3) := by decide +kernel
theorem dX7_allHeardWithout_4 : decode cX7_allHeardWithout 4 = .ok (.iconst 0, 1) := by decide +kernel
theorem dX7_allHeardWithout_5 : decode cX7_allHeardWithout 5 = .ok (.istore_n 3, 1) := by decide +kernel
theorem dX7_allHeardWithout_6 : decode cX7_allHeardWithout 6 = .ok (.iload_n 3, 1) := by decide +kernel
theorem dX7_allHeardWithout_7 : decode cX7_allHeardWithout 7 = .ok (.aload_n 0, 1) := by decide +kernel
theorem dX7_allHeardWithout_8 : decode cX7_allHeardWithout 8 = .ok (.getfield 65, 3) := by decide +kernel
theorem dX7_allHeardWithout_11 : decode cX7_allHeardWithout 11 = .ok (.if_icmp .ge 33, 3) := by decide +kernel
theorem dX7_allHeardWithout_14 : decode cX7_allHeardWithout 14 = .ok (.aload_n 0, 1) := by decide +kernel
theorem dX7_allHeardWithout_15 : decode cX7_allHeardWithout 15 = .ok (.getfield 28, 3) := by decide +kernel
theorem dX7_allHeardWithout_18 : decode cX7_allHeardWithout 18 = .ok (.iload_n 3, 1) := by decide +kernel
theorem dX7_allHeardWithout_19 : decode cX7_allHeardWithout 19 = .ok (.iload_n 1, 1) := by decide +kernel
theorem dX7_allHeardWithout_20 : decode cX7_allHeardWithout 20 = .ok (.iload_n 3, 1) := by decide +kernel
theorem dX7_allHeardWithout_21 : decode cX7_allHeardWithout 21 = .ok (.invokestatic 231, 3) := by decide +kernel
theorem dX7_allHeardWithout_24 : decode cX7_allHeardWithout 24 = .ok (.ifCond .eq 7, 3) := by decide +kernel
theorem dX7_allHeardWithout_27 : decode cX7_allHeardWithout 27 = .ok (.iconst 5, 1) := by decide +kernel
theorem dX7_allHeardWithout_28 : decode cX7_allHeardWithout 28 = .ok (.goto 9, 3) := by decide +kernel
theorem dX7_allHeardWithout_31 : decode cX7_allHeardWithout 31 = .ok (.aload_n 0, 1) := by decide +kernel
theorem dX7_allHeardWithout_32 : decode cX7_allHeardWithout 32 = .ok (.getfield 28, 3) := by decide +kernel
theorem dX7_allHeardWithout_35 : decode cX7_allHeardWithout 35 = .ok (.iload_n 3, 1) := by decide +kernel
theorem dX7_allHeardWithout_36 : decode cX7_allHeardWithout 36 = .ok (.iaload, 1) := by decide +kernel
theorem dX7_allHeardWithout_37 : decode cX7_allHeardWithout 37 = .ok (.iastore, 1) := by decide +kernel
theorem dX7_allHeardWithout_38 : decode cX7_allHeardWithout 38 = .ok (.iinc 3 1, 3) := by decide +kernel
theorem dX7_allHeardWithout_41 : decode cX7_allHeardWithout 41 = .ok (.goto (-35), 3) := by decide +kernel
theorem dX7_allHeardWithout_44 : decode cX7_allHeardWithout 44 = .ok (.aload_n 0, 1) := by decide +kernel
theorem dX7_allHeardWithout_45 : decode cX7_allHeardWithout 45 = .ok (.iload_n 2, 1) := by decide +kernel
theorem dX7_allHeardWithout_46 : decode cX7_allHeardWithout 46 = .ok (.invokevirtual 234, 3) := by decide +kernel
theorem dX7_allHeardWithout_49 : decode cX7_allHeardWithout 49 = .ok (.istore_n 3, 1) := by decide +kernel
theorem dX7_allHeardWithout_50 : decode cX7_allHeardWithout 50 = .ok (.aload_n 0, 1) := by decide +kernel
theorem dX7_allHeardWithout_51 : decode cX7_allHeardWithout 51 = .ok (.invokevirtual 237, 3) := by decide +kernel
theorem dX7_allHeardWithout_54 : decode cX7_allHeardWithout 54 = .ok (.iload_n 3, 1) := by decide +kernel
theorem dX7_allHeardWithout_55 : decode cX7_allHeardWithout 55 = .ok (.ireturn, 1) := by decide +kernel
set_option maxRecDepth 20000 in
theorem ggX7_fewest_X7_bound : GoodIn wsX7_fewest wsX7_bound := goodIn_r _ [5] (by decide +kernel) (by decide +kernel)
set_option maxRecDepth 20000 in
theorem gX7_fewest_X7_bound : GoodIn wsX7_fewest (va_wsS RX7 68 yX7_bound wsX7_bound) := goodIn_app (goodIn_of _ (by decide +kernel)) ggX7_fewest_X7_bound
set_option maxRecDepth 20000 in
theorem ggX7_fewest_X7_no : GoodIn wsX7_fewest wsX7_no := goodIn_r _ [9, 10, 97, 98, 99, 100, 101, 102, 103, 104, 105, 106, 107, 108, 109, 110, 111, 112, 113, 114, 115, 116, 117, 118, 119, 120, 121, 122] (by decide +kernel) (by decide +kernel)
set_option maxRecDepth 20000 in
theorem gX7_fewest_X7_no : GoodIn wsX7_fewest (wsV RX7 75 RX7 yX7_no wsX7_no) := goodIn_app (goodIn_of _ (by decide +kernel)) ggX7_fewest_X7_no
set_option maxRecDepth 20000 in
theorem ggX7_fewest_X7_bits : GoodIn wsX7_fewest wsX7_bits := goodIn_r _ [13] (by decide +kernel) (by decide +kernel)
set_option maxRecDepth 20000 in
theorem gX7_fewest_X7_bits : GoodIn wsX7_fewest (va_wsS RX7 240 yX7_bits wsX7_bits) := goodIn_app (goodIn_of _ (by decide +kernel)) ggX7_fewest_X7_bits
set_option maxRecDepth 20000 in
theorem ggX7_fewest_X7_allHeardWithout : GoodIn wsX7_fewest wsX7_allHeardWithout := goodIn_r _ [17, 1, 18, 19, 20, 21, 4, 22, 23, 24, 25, 26, 27, 28, 29, 30, 31, 32, 33, 34, 35, 36, 37, 38, 39, 40, 41, 42, 43, 44, 45, 46, 47, 48, 49, 50, 51, 52, 53, 54, 55, 56, 57, 58, 59, 60, 61, 62, 63, 64, 65, 66, 67, 68, 69, 70, 71, 72, 73, 74, 75, 76, 77, 78, 79, 80, 81, 82, 83, 84, 85, 86, 87, 88, 89, 90, 91, 92, 93, 94, 95, 96, 97, 98, 99, 100, 101, 102, 103, 104, 105, 106, 107, 108, 109, 110, 111, 112, 113, 114, 115, 116, 117, 118, 119, 120, 121, 122] (by decide +kernel) (by decide +kernel)
set_option maxRecDepth 20000 in
theorem gX7_fewest_X7_allHeardWithout : GoodIn wsX7_fewest (wsV RX7 243 RX7 yX7_allHeardWithout wsX7_allHeardWithout) := goodIn_app (goodIn_of _ (by decide +kernel)) ggX7_fewest_X7_allHeardWithout
theorem dX7_fewest_0 : decode cX7_fewest 0 = .ok (.iload_n 1, 1) := by decide +kernel
theorem dX7_fewest_1 : decode cX7_fewest 1 = .ok (.iconst 0, 1) := by decide +kernel
theorem dX7_fewest_2 : decode cX7_fewest 2 = .ok (.bipush 40, 2) := by decide +kernel
theorem dX7_fewest_4 : decode cX7_fewest 4 = .ok (.invokestatic 68, 3) := by decide +kernel
theorem dX7_fewest_7 : decode cX7_fewest 7 = .ok (.istore_n 2, 1) := by decide +kernel
theorem dX7_fewest_8 : decode cX7_fewest 8 = .ok (.iload_n 2, 1) := by decide +kernel
theorem dX7_fewest_9 : decode cX7_fewest 9 = .ok (.ifCond .eq 9, 3) := by decide +kernel
theorem dX7_fewest_12 : decode cX7_fewest 12 = .ok (.aload_n 0, 1) := by decide +kernel
theorem dX7_fewest_13 : decode cX7_fewest 13 = .ok (.iload_n 2, 1) := by decide +kernel
theorem dX7_fewest_14 : decode cX7_fewest 14 = .ok (.invokevirtual 75, 3) := by decide +kernel
theorem dX7_fewest_17 : decode cX7_fewest 17 = .ok (.ireturn, 1) := by decide +kernel
theorem dX7_fewest_18 : decode cX7_fewest 18 = .ok (.bipush (-9), 2) := by decide +kernel
theorem dX7_fewest_20 : decode cX7_fewest 20 = .ok (.istore_n 3, 1) := by decide +kernel
theorem dX7_fewest_21 : decode cX7_fewest 21 = .ok (.iconst 0, 1) := by decide +kernel
theorem dX7_fewest_22 : decode cX7_fewest 22 = .ok (.istore 4, 2) := by decide +kernel
theorem dX7_fewest_24 : decode cX7_fewest 24 = .ok (.iload 4, 2) := by decide +kernel
theorem dX7_fewest_26 : decode cX7_fewest 26 = .ok (.iconst 1, 1) := by decide +kernel
theorem dX7_fewest_27 : decode cX7_fewest 27 = .ok (.aload_n 0, 1) := by decide +kernel
theorem dX7_fewest_28 : decode cX7_fewest 28 = .ok (.getfield 65, 3) := by decide +kernel
theorem dX7_fewest_31 : decode cX7_fewest 31 = .ok (.ishl, 1) := by decide +kernel
theorem dX7_fewest_32 : decode cX7_fewest 32 = .ok (.if_icmp .ge 41, 3) := by decide +kernel
theorem dX7_fewest_35 : decode cX7_fewest 35 = .ok (.iload_n 3, 1) := by decide +kernel
theorem dX7_fewest_36 : decode cX7_fewest 36 = .ok (.ifCond .lt 18, 3) := by decide +kernel
theorem dX7_fewest_39 : decode cX7_fewest 39 = .ok (.iload 4, 2) := by decide +kernel
theorem dX7_fewest_41 : decode cX7_fewest 41 = .ok (.invokestatic 240, 3) := by decide +kernel
theorem dX7_fewest_44 : decode cX7_fewest 44 = .ok (.iload_n 3, 1) := by decide +kernel
theorem dX7_fewest_45 : decode cX7_fewest 45 = .ok (.invokestatic 240, 3) := by decide +kernel
theorem dX7_fewest_48 : decode cX7_fewest 48 = .ok (.if_icmp .lt 6, 3) := by decide +kernel
theorem dX7_fewest_51 : decode cX7_fewest 51 = .ok (.goto 16, 3) := by decide +kernel
theorem dX7_fewest_54 : decode cX7_fewest 54 = .ok (.aload_n 0, 1) := by decide +kernel
theorem dX7_fewest_55 : decode cX7_fewest 55 = .ok (.iload 4, 2) := by decide +kernel
theorem dX7_fewest_57 : decode cX7_fewest 57 = .ok (.iload_n 1, 1) := by decide +kernel
theorem dX7_fewest_58 : decode cX7_fewest 58 = .ok (.invokevirtual 243, 3) := by decide +kernel
theorem dX7_fewest_61 : decode cX7_fewest 61 = .ok (.ifCond .eq 6, 3) := by decide +kernel
theorem dX7_fewest_64 : decode cX7_fewest 64 = .ok (.iload 4, 2) := by decide +kernel
theorem dX7_fewest_66 : decode cX7_fewest 66 = .ok (.istore_n 3, 1) := by decide +kernel
theorem dX7_fewest_67 : decode cX7_fewest 67 = .ok (.iinc 4 1, 3) := by decide +kernel
theorem dX7_fewest_70 : decode cX7_fewest 70 = .ok (.goto (-46), 3) := by decide +kernel
theorem dX7_fewest_73 : decode cX7_fewest 73 = .ok (.iload_n 3, 1) := by decide +kernel
theorem dX7_fewest_74 : decode cX7_fewest 74 = .ok (.ireturn, 1) := by decide +kernel
set_option maxRecDepth 20000 in
theorem ggX7_hearsTill_X7_thinks : GoodIn wsX7_hearsTill wsX7_thinks := goodIn_r _ [5, 6, 7, 8, 4, 9, 10, 11, 12, 13, 14, 15, 16, 17, 18, 19, 20, 21, 22, 23, 24, 25, 26, 27, 28, 29, 30, 55, 56, 57, 58, 59, 60, 61, 62, 63, 64, 65, 66, 67, 68, 69, 70, 71, 72, 73, 74, 75, 76, 77, 78, 79, 80] (by decide +kernel) (by decide +kernel)
set_option maxRecDepth 20000 in
theorem gX7_hearsTill_X7_thinks : GoodIn wsX7_hearsTill (wsV RX7 200 RX7 yX7_thinks wsX7_thinks) := goodIn_app (goodIn_of _ (by decide +kernel)) ggX7_hearsTill_X7_thinks
set_option maxRecDepth 20000 in
theorem ggX7_hearsTill_X7_goesDay : GoodIn wsX7_hearsTill wsX7_goesDay := goodIn_r _ [34, 20, 19, 17, 35, 36, 37, 4, 38, 16, 21, 39, 40, 41, 55, 56, 57, 58, 59, 60, 61, 62, 63, 64, 65, 66, 67, 68, 69, 70, 71, 72, 73, 74, 75, 76, 77, 78, 79, 80] (by decide +kernel) (by decide +kernel)
set_option maxRecDepth 20000 in
theorem gX7_hearsTill_X7_goesDay : GoodIn wsX7_hearsTill (wsV RX7 183 RX7 yX7_goesDay wsX7_goesDay) := goodIn_app (goodIn_of _ (by decide +kernel)) ggX7_hearsTill_X7_goesDay
set_option maxRecDepth 20000 in
theorem ggX7_hearsTill_X7_hears : GoodIn wsX7_hearsTill wsX7_hears := goodIn_r _ [45, 46, 17, 16, 14, 12, 47, 48, 49, 4, 50, 15, 55, 56, 57, 58, 59, 60, 61, 62, 63, 64, 65, 66, 67, 68, 69, 70, 71, 72, 73, 74, 75, 76, 77, 78, 79, 80] (by decide +kernel) (by decide +kernel)
set_option maxRecDepth 20000 in
theorem gX7_hearsTill_X7_hears : GoodIn wsX7_hearsTill (wsV RX7 157 RX7 yX7_hears wsX7_hears) := goodIn_app (goodIn_of _ (by decide +kernel)) ggX7_hearsTill_X7_hears
set_option maxRecDepth 20000 in
theorem ggX7_hearsTill_X7_forgets : GoodIn wsX7_hearsTill wsX7_forgets := goodIn_r _ [54, 6, 7, 8, 4, 9, 10, 11, 12, 13, 14, 15, 16, 17, 18, 19, 20, 21, 22, 23, 24, 25, 26, 27, 28, 29, 30, 55, 56, 57, 58, 59, 60, 61, 62, 63, 64, 65, 66, 67, 68, 69, 70, 71, 72, 73, 74, 75, 76, 77, 78, 79, 80] (by decide +kernel) (by decide +kernel)
set_option maxRecDepth 20000 in
theorem gX7_hearsTill_X7_forgets : GoodIn wsX7_hearsTill (wsV RX7 203 RX7 yX7_forgets wsX7_forgets) := goodIn_app (goodIn_of _ (by decide +kernel)) ggX7_hearsTill_X7_forgets
theorem dX7_hearsTill_0 : decode cX7_hearsTill 0 = .ok (.aload_n 0, 1) := by decide +kernel
theorem dX7_hearsTill_1 : decode cX7_hearsTill 1 = .ok (.invokevirtual 200, 3) := by decide +kernel
theorem dX7_hearsTill_4 : decode cX7_hearsTill 4 = .ok (.sipush 1000, 3) := by decide +kernel
theorem dX7_hearsTill_7 : decode cX7_hearsTill 7 = .ok (.istore_n 3, 1) := by decide +kernel
theorem dX7_hearsTill_8 : decode cX7_hearsTill 8 = .ok (.iconst 1, 1) := by decide +kernel
theorem dX7_hearsTill_9 : decode cX7_hearsTill 9 = .ok (.istore 4, 2) := by decide +kernel
theorem dX7_hearsTill_11 : decode cX7_hearsTill 11 = .ok (.iload 4, 2) := by decide +kernel
theorem dX7_hearsTill_13 : decode cX7_hearsTill 13 = .ok (.bipush 99, 2) := by decide +kernel
theorem dX7_hearsTill_15 : decode cX7_hearsTill 15 = .ok (.if_icmp .gt 39, 3) := by decide +kernel
theorem dX7_hearsTill_18 : decode cX7_hearsTill 18 = .ok (.iload_n 3, 1) := by decide +kernel
theorem dX7_hearsTill_19 : decode cX7_hearsTill 19 = .ok (.sipush 1000, 3) := by decide +kernel
theorem dX7_hearsTill_22 : decode cX7_hearsTill 22 = .ok (.if_icmp .ne 32, 3) := by decide +kernel
theorem dX7_hearsTill_25 : decode cX7_hearsTill 25 = .ok (.aload_n 0, 1) := by decide +kernel
theorem dX7_hearsTill_26 : decode cX7_hearsTill 26 = .ok (.iconst 0, 1) := by decide +kernel
theorem dX7_hearsTill_27 : decode cX7_hearsTill 27 = .ok (.invokevirtual 183, 3) := by decide +kernel
theorem dX7_hearsTill_30 : decode cX7_hearsTill 30 = .ok (.aload_n 0, 1) := by decide +kernel
theorem dX7_hearsTill_31 : decode cX7_hearsTill 31 = .ok (.iload_n 1, 1) := by decide +kernel
theorem dX7_hearsTill_32 : decode cX7_hearsTill 32 = .ok (.iload_n 2, 1) := by decide +kernel
theorem dX7_hearsTill_33 : decode cX7_hearsTill 33 = .ok (.invokevirtual 157, 3) := by decide +kernel
theorem dX7_hearsTill_36 : decode cX7_hearsTill 36 = .ok (.ifCond .eq 9, 3) := by decide +kernel
theorem dX7_hearsTill_39 : decode cX7_hearsTill 39 = .ok (.sipush 1000, 3) := by decide +kernel
theorem dX7_hearsTill_42 : decode cX7_hearsTill 42 = .ok (.goto 5, 3) := by decide +kernel
theorem dX7_hearsTill_45 : decode cX7_hearsTill 45 = .ok (.iload 4, 2) := by decide +kernel
theorem dX7_hearsTill_47 : decode cX7_hearsTill 47 = .ok (.istore_n 3, 1) := by decide +kernel
theorem dX7_hearsTill_48 : decode cX7_hearsTill 48 = .ok (.iinc 4 1, 3) := by decide +kernel
theorem dX7_hearsTill_51 : decode cX7_hearsTill 51 = .ok (.goto (-40), 3) := by decide +kernel
theorem dX7_hearsTill_54 : decode cX7_hearsTill 54 = .ok (.aload_n 0, 1) := by decide +kernel
theorem dX7_hearsTill_55 : decode cX7_hearsTill 55 = .ok (.invokevirtual 203, 3) := by decide +kernel
theorem dX7_hearsTill_58 : decode cX7_hearsTill 58 = .ok (.iload_n 3, 1) := by decide +kernel
theorem dX7_hearsTill_59 : decode cX7_hearsTill 59 = .ok (.ireturn, 1) := by decide +kernel
set_option maxRecDepth 20000 in
theorem ggX7_ask_X7_isBell : GoodIn wsX7_ask wsX7_isBell := goodIn_r _ [7, 8, 72, 73, 74, 75, 76, 77, 78, 79, 80, 81, 82, 83, 84, 85, 86, 87, 88, 89, 90, 91, 92, 93, 94, 95, 96, 97] (by decide +kernel) (by decide +kernel)
set_option maxRecDepth 20000 in
theorem gX7_ask_X7_isBell : GoodIn wsX7_ask (wsV RX7 187 RX7 yX7_isBell wsX7_isBell) := goodIn_app (goodIn_of _ (by decide +kernel)) ggX7_ask_X7_isBell
set_option maxRecDepth 20000 in
theorem ggX7_ask_X7_no : GoodIn wsX7_ask wsX7_no := goodIn_r _ [12, 13, 72, 73, 74, 75, 76, 77, 78, 79, 80, 81, 82, 83, 84, 85, 86, 87, 88, 89, 90, 91, 92, 93, 94, 95, 96, 97] (by decide +kernel) (by decide +kernel)
set_option maxRecDepth 20000 in
theorem gX7_ask_X7_no : GoodIn wsX7_ask (wsV RX7 75 RX7 yX7_no wsX7_no) := goodIn_app (goodIn_of _ (by decide +kernel)) ggX7_ask_X7_no
set_option maxRecDepth 20000 in
theorem ggX7_ask_X7_saysOf : GoodIn wsX7_ask wsX7_saysOf := goodIn_r _ [17, 18, 2, 19, 20, 21, 22, 6, 23, 24, 25, 26, 27, 28, 29, 30, 72, 73, 74, 75, 76, 77, 78, 79, 80, 81, 82, 83, 84, 85, 86, 87, 88, 89, 90, 91, 92, 93, 94, 95, 96, 97] (by decide +kernel) (by decide +kernel)
set_option maxRecDepth 20000 in
theorem gX7_ask_X7_saysOf : GoodIn wsX7_ask (wsV RX7 160 RX7 yX7_saysOf wsX7_saysOf) := goodIn_app (goodIn_of _ (by decide +kernel)) ggX7_ask_X7_saysOf
set_option maxRecDepth 20000 in
theorem ggX7_ask_X7_hearsTill : GoodIn wsX7_ask wsX7_hearsTill := goodIn_r _ [34, 35, 36, 37, 6, 38, 39, 40, 41, 42, 43, 44, 2, 45, 18, 19, 26, 25, 8, 1, 46, 47, 48, 49, 50, 51, 52, 53, 54, 55, 56, 57, 58, 59, 60, 61, 62, 63, 64, 65, 66, 67, 20, 21, 22, 23, 24, 27, 28, 29, 30, 68, 69, 70, 71, 72, 73, 74, 75, 76, 77, 78, 79, 80, 81, 82, 83, 84, 85, 86, 87, 88, 89, 90, 91, 92, 93, 94, 95, 96, 97] (by decide +kernel) (by decide +kernel)
set_option maxRecDepth 20000 in
theorem gX7_ask_X7_hearsTill : GoodIn wsX7_ask (wsV RX7 246 RX7 yX7_hearsTill wsX7_hearsTill) := goodIn_app (goodIn_of _ (by decide +kernel)) ggX7_ask_X7_hearsTill
theorem dX7_ask_0 : decode cX7_ask 0 = .ok (.aload_n 0, 1) := by decide +kernel
theorem dX7_ask_1 : decode cX7_ask 1 = .ok (.iload_n 1, 1) := by decide +kernel
theorem dX7_ask_2 : decode cX7_ask 2 = .ok (.invokevirtual 187, 3) := by decide +kernel
theorem dX7_ask_5 : decode cX7_ask 5 = .ok (.ifCond .ne 9, 3) := by decide +kernel
theorem dX7_ask_8 : decode cX7_ask 8 = .ok (.aload_n 0, 1) := by decide +kernel
theorem dX7_ask_9 : decode cX7_ask 9 = .ok (.iconst (-1), 1) := by decide +kernel
theorem dX7_ask_10 : decode cX7_ask 10 = .ok (.invokevirtual 75, 3) := by decide +kernel
theorem dX7_ask_13 : decode cX7_ask 13 = .ok (.ireturn, 1) := by decide +kernel
theorem dX7_ask_14 : decode cX7_ask 14 = .ok (.bipush (-9), 2) := by decide +kernel
theorem dX7_ask_16 : decode cX7_ask 16 = .ok (.istore_n 2, 1) := by decide +kernel
theorem dX7_ask_17 : decode cX7_ask 17 = .ok (.iconst 0, 1) := by decide +kernel
theorem dX7_ask_18 : decode cX7_ask 18 = .ok (.istore_n 3, 1) := by decide +kernel
theorem dX7_ask_19 : decode cX7_ask 19 = .ok (.iconst 0, 1) := by decide +kernel
theorem dX7_ask_20 : decode cX7_ask 20 = .ok (.istore 4, 2) := by decide +kernel
theorem dX7_ask_22 : decode cX7_ask 22 = .ok (.iload 4, 2) := by decide +kernel
theorem dX7_ask_24 : decode cX7_ask 24 = .ok (.aload_n 0, 1) := by decide +kernel
theorem dX7_ask_25 : decode cX7_ask 25 = .ok (.getfield 65, 3) := by decide +kernel
theorem dX7_ask_28 : decode cX7_ask 28 = .ok (.if_icmp .ge 53, 3) := by decide +kernel
theorem dX7_ask_31 : decode cX7_ask 31 = .ok (.aload_n 0, 1) := by decide +kernel
theorem dX7_ask_32 : decode cX7_ask 32 = .ok (.iload 4, 2) := by decide +kernel
theorem dX7_ask_34 : decode cX7_ask 34 = .ok (.iload_n 1, 1) := by decide +kernel
theorem dX7_ask_35 : decode cX7_ask 35 = .ok (.invokevirtual 160, 3) := by decide +kernel
theorem dX7_ask_38 : decode cX7_ask 38 = .ok (.aload_n 0, 1) := by decide +kernel
theorem dX7_ask_39 : decode cX7_ask 39 = .ok (.getfield 13, 3) := by decide +kernel
theorem dX7_ask_42 : decode cX7_ask 42 = .ok (.iload_n 1, 1) := by decide +kernel
theorem dX7_ask_43 : decode cX7_ask 43 = .ok (.iaload, 1) := by decide +kernel
theorem dX7_ask_44 : decode cX7_ask 44 = .ok (.if_icmp .ne 13, 3) := by decide +kernel
theorem dX7_ask_47 : decode cX7_ask 47 = .ok (.aload_n 0, 1) := by decide +kernel
theorem dX7_ask_48 : decode cX7_ask 48 = .ok (.iload 4, 2) := by decide +kernel
theorem dX7_ask_50 : decode cX7_ask 50 = .ok (.iload_n 1, 1) := by decide +kernel
theorem dX7_ask_51 : decode cX7_ask 51 = .ok (.invokevirtual 246, 3) := by decide +kernel
theorem dX7_ask_54 : decode cX7_ask 54 = .ok (.goto 4, 3) := by decide +kernel
theorem dX7_ask_57 : decode cX7_ask 57 = .ok (.iconst 0, 1) := by decide +kernel
theorem dX7_ask_58 : decode cX7_ask 58 = .ok (.istore 5, 2) := by decide +kernel
theorem dX7_ask_60 : decode cX7_ask 60 = .ok (.iload 5, 2) := by decide +kernel
theorem dX7_ask_62 : decode cX7_ask 62 = .ok (.iload_n 3, 1) := by decide +kernel
theorem dX7_ask_63 : decode cX7_ask 63 = .ok (.if_icmp .gt 6, 3) := by decide +kernel
theorem dX7_ask_66 : decode cX7_ask 66 = .ok (.goto 9, 3) := by decide +kernel
theorem dX7_ask_69 : decode cX7_ask 69 = .ok (.iload 4, 2) := by decide +kernel
theorem dX7_ask_71 : decode cX7_ask 71 = .ok (.istore_n 2, 1) := by decide +kernel
theorem dX7_ask_72 : decode cX7_ask 72 = .ok (.iload 5, 2) := by decide +kernel
theorem dX7_ask_74 : decode cX7_ask 74 = .ok (.istore_n 3, 1) := by decide +kernel
theorem dX7_ask_75 : decode cX7_ask 75 = .ok (.iinc 4 1, 3) := by decide +kernel
theorem dX7_ask_78 : decode cX7_ask 78 = .ok (.goto (-56), 3) := by decide +kernel
theorem dX7_ask_81 : decode cX7_ask 81 = .ok (.iload_n 2, 1) := by decide +kernel
theorem dX7_ask_82 : decode cX7_ask 82 = .ok (.ireturn, 1) := by decide +kernel
set_option maxRecDepth 20000 in
theorem ggX7_manyTrue_X7_isTrue : GoodIn wsX7_manyTrue wsX7_isTrue := goodIn_r _ [6, 7, 8, 9, 10, 5, 11, 12, 13, 14, 15, 16, 17, 18, 19, 20, 21, 22, 23, 24, 25, 26, 27, 28, 29, 30, 31, 32, 33, 34, 35, 36, 37, 38, 39, 40, 41, 42, 43, 44, 45, 46, 47, 48, 49, 50, 51, 52, 53, 54, 55, 56, 57, 58, 59, 60, 61, 62, 63] (by decide +kernel) (by decide +kernel)
set_option maxRecDepth 20000 in
theorem gX7_manyTrue_X7_isTrue : GoodIn wsX7_manyTrue (wsV RX7 215 RX7 yX7_isTrue wsX7_isTrue) := goodIn_app (goodIn_of _ (by decide +kernel)) ggX7_manyTrue_X7_isTrue
theorem dX7_manyTrue_0 : decode cX7_manyTrue 0 = .ok (.iconst 0, 1) := by decide +kernel
theorem dX7_manyTrue_1 : decode cX7_manyTrue 1 = .ok (.istore_n 1, 1) := by decide +kernel
theorem dX7_manyTrue_2 : decode cX7_manyTrue 2 = .ok (.iconst 0, 1) := by decide +kernel
theorem dX7_manyTrue_3 : decode cX7_manyTrue 3 = .ok (.istore_n 2, 1) := by decide +kernel
theorem dX7_manyTrue_4 : decode cX7_manyTrue 4 = .ok (.iload_n 2, 1) := by decide +kernel
theorem dX7_manyTrue_5 : decode cX7_manyTrue 5 = .ok (.aload_n 0, 1) := by decide +kernel
theorem dX7_manyTrue_6 : decode cX7_manyTrue 6 = .ok (.getfield 62, 3) := by decide +kernel
theorem dX7_manyTrue_9 : decode cX7_manyTrue 9 = .ok (.if_icmp .ge 25, 3) := by decide +kernel
theorem dX7_manyTrue_12 : decode cX7_manyTrue 12 = .ok (.iload_n 1, 1) := by decide +kernel
theorem dX7_manyTrue_13 : decode cX7_manyTrue 13 = .ok (.aload_n 0, 1) := by decide +kernel
theorem dX7_manyTrue_14 : decode cX7_manyTrue 14 = .ok (.iload_n 2, 1) := by decide +kernel
theorem dX7_manyTrue_15 : decode cX7_manyTrue 15 = .ok (.invokevirtual 215, 3) := by decide +kernel
theorem dX7_manyTrue_18 : decode cX7_manyTrue 18 = .ok (.ifCond .eq 7, 3) := by decide +kernel
theorem dX7_manyTrue_21 : decode cX7_manyTrue 21 = .ok (.iconst 1, 1) := by decide +kernel
theorem dX7_manyTrue_22 : decode cX7_manyTrue 22 = .ok (.goto 4, 3) := by decide +kernel
theorem dX7_manyTrue_25 : decode cX7_manyTrue 25 = .ok (.iconst 0, 1) := by decide +kernel
theorem dX7_manyTrue_26 : decode cX7_manyTrue 26 = .ok (.iadd, 1) := by decide +kernel
theorem dX7_manyTrue_27 : decode cX7_manyTrue 27 = .ok (.istore_n 1, 1) := by decide +kernel
theorem dX7_manyTrue_28 : decode cX7_manyTrue 28 = .ok (.iinc 2 1, 3) := by decide +kernel
theorem dX7_manyTrue_31 : decode cX7_manyTrue 31 = .ok (.goto (-27), 3) := by decide +kernel
theorem dX7_manyTrue_34 : decode cX7_manyTrue 34 = .ok (.iload_n 1, 1) := by decide +kernel
theorem dX7_manyTrue_35 : decode cX7_manyTrue 35 = .ok (.ireturn, 1) := by decide +kernel
set_option maxRecDepth 20000 in
theorem ggX7_leave_X7_manyTrue : GoodIn wsX7_leave wsX7_manyTrue := goodIn_r _ [7, 8, 9, 10, 11, 6, 12, 13, 14, 15, 16, 17, 18, 19, 20, 21, 1, 22, 23, 24, 25, 26, 27, 28, 29, 30, 31, 2, 32, 33, 34, 35, 36, 37, 38, 39, 40, 41, 42, 43, 44, 45, 46, 47, 48, 49, 50, 51, 52, 53, 54, 55, 56, 57, 58, 59, 60, 61, 62, 63, 64, 65, 66, 67] (by decide +kernel) (by decide +kernel)
set_option maxRecDepth 20000 in
theorem gX7_leave_X7_manyTrue : GoodIn wsX7_leave (wsV RX7 249 RX7 yX7_manyTrue wsX7_manyTrue) := goodIn_app (goodIn_of _ (by decide +kernel)) ggX7_leave_X7_manyTrue
theorem dX7_leave_0 : decode cX7_leave 0 = .ok (.bipush (-9), 2) := by decide +kernel
theorem dX7_leave_2 : decode cX7_leave 2 = .ok (.istore_n 1, 1) := by decide +kernel
theorem dX7_leave_3 : decode cX7_leave 3 = .ok (.aload_n 0, 1) := by decide +kernel
theorem dX7_leave_4 : decode cX7_leave 4 = .ok (.invokevirtual 249, 3) := by decide +kernel
theorem dX7_leave_7 : decode cX7_leave 7 = .ok (.istore_n 2, 1) := by decide +kernel
theorem dX7_leave_8 : decode cX7_leave 8 = .ok (.iconst 0, 1) := by decide +kernel
theorem dX7_leave_9 : decode cX7_leave 9 = .ok (.istore_n 3, 1) := by decide +kernel
theorem dX7_leave_10 : decode cX7_leave 10 = .ok (.iload_n 3, 1) := by decide +kernel
theorem dX7_leave_11 : decode cX7_leave 11 = .ok (.aload_n 0, 1) := by decide +kernel
theorem dX7_leave_12 : decode cX7_leave 12 = .ok (.getfield 65, 3) := by decide +kernel
theorem dX7_leave_15 : decode cX7_leave 15 = .ok (.if_icmp .ge 40, 3) := by decide +kernel
theorem dX7_leave_18 : decode cX7_leave 18 = .ok (.aload_n 0, 1) := by decide +kernel
theorem dX7_leave_19 : decode cX7_leave 19 = .ok (.iload_n 3, 1) := by decide +kernel
theorem dX7_leave_20 : decode cX7_leave 20 = .ok (.putfield 31, 3) := by decide +kernel
theorem dX7_leave_23 : decode cX7_leave 23 = .ok (.aload_n 0, 1) := by decide +kernel
theorem dX7_leave_24 : decode cX7_leave 24 = .ok (.invokevirtual 249, 3) := by decide +kernel
theorem dX7_leave_27 : decode cX7_leave 27 = .ok (.istore 4, 2) := by decide +kernel
theorem dX7_leave_29 : decode cX7_leave 29 = .ok (.aload_n 0, 1) := by decide +kernel
theorem dX7_leave_30 : decode cX7_leave 30 = .ok (.bipush (-9), 2) := by decide +kernel
theorem dX7_leave_32 : decode cX7_leave 32 = .ok (.putfield 31, 3) := by decide +kernel
theorem dX7_leave_35 : decode cX7_leave 35 = .ok (.iload 4, 2) := by decide +kernel
theorem dX7_leave_37 : decode cX7_leave 37 = .ok (.iload_n 2, 1) := by decide +kernel
theorem dX7_leave_38 : decode cX7_leave 38 = .ok (.if_icmp .gt 6, 3) := by decide +kernel
theorem dX7_leave_41 : decode cX7_leave 41 = .ok (.goto 8, 3) := by decide +kernel
theorem dX7_leave_44 : decode cX7_leave 44 = .ok (.iload_n 3, 1) := by decide +kernel
theorem dX7_leave_45 : decode cX7_leave 45 = .ok (.istore_n 1, 1) := by decide +kernel
theorem dX7_leave_46 : decode cX7_leave 46 = .ok (.iload 4, 2) := by decide +kernel
theorem dX7_leave_48 : decode cX7_leave 48 = .ok (.istore_n 2, 1) := by decide +kernel
theorem dX7_leave_49 : decode cX7_leave 49 = .ok (.iinc 3 1, 3) := by decide +kernel
theorem dX7_leave_52 : decode cX7_leave 52 = .ok (.goto (-42), 3) := by decide +kernel
theorem dX7_leave_55 : decode cX7_leave 55 = .ok (.iload_n 1, 1) := by decide +kernel
theorem dX7_leave_56 : decode cX7_leave 56 = .ok (.ireturn, 1) := by decide +kernel
set_option maxRecDepth 20000 in
theorem ggX7_manyWrong_X7_hearers : GoodIn wsX7_manyWrong wsX7_hearers := goodIn_r _ [6, 7, 8, 9, 10, 5, 11, 12, 13, 14, 15, 16, 17, 18, 19, 20, 21, 38, 39, 40, 41, 42, 43, 44, 45, 46, 47, 48, 49, 50, 51, 52, 53, 54, 55, 56, 57, 58, 59, 60, 61, 62, 63] (by decide +kernel) (by decide +kernel)
set_option maxRecDepth 20000 in
theorem gX7_manyWrong_X7_hearers : GoodIn wsX7_manyWrong (wsV RX7 167 RX7 yX7_hearers wsX7_hearers) := goodIn_app (goodIn_of _ (by decide +kernel)) ggX7_manyWrong_X7_hearers
set_option maxRecDepth 20000 in
theorem ggX7_manyWrong_X7_isTrue : GoodIn wsX7_manyWrong wsX7_isTrue := goodIn_r _ [25, 16, 26, 27, 28, 5, 29, 30, 31, 32, 33, 7, 34, 35, 36, 37, 15, 21, 8, 9, 10, 11, 12, 13, 14, 17, 18, 19, 20, 2, 3, 4, 6, 38, 39, 40, 41, 42, 43, 44, 45, 46, 47, 48, 49, 50, 51, 52, 53, 54, 55, 56, 57, 58, 59, 60, 61, 62, 63] (by decide +kernel) (by decide +kernel)
set_option maxRecDepth 20000 in
theorem gX7_manyWrong_X7_isTrue : GoodIn wsX7_manyWrong (wsV RX7 215 RX7 yX7_isTrue wsX7_isTrue) := goodIn_app (goodIn_of _ (by decide +kernel)) ggX7_manyWrong_X7_isTrue
theorem dX7_manyWrong_0 : decode cX7_manyWrong 0 = .ok (.iconst 0, 1) := by decide +kernel
theorem dX7_manyWrong_1 : decode cX7_manyWrong 1 = .ok (.istore_n 1, 1) := by decide +kernel
theorem dX7_manyWrong_2 : decode cX7_manyWrong 2 = .ok (.iconst 0, 1) := by decide +kernel
theorem dX7_manyWrong_3 : decode cX7_manyWrong 3 = .ok (.istore_n 2, 1) := by decide +kernel
theorem dX7_manyWrong_4 : decode cX7_manyWrong 4 = .ok (.iload_n 2, 1) := by decide +kernel
theorem dX7_manyWrong_5 : decode cX7_manyWrong 5 = .ok (.aload_n 0, 1) := by decide +kernel
theorem dX7_manyWrong_6 : decode cX7_manyWrong 6 = .ok (.getfield 62, 3) := by decide +kernel
theorem dX7_manyWrong_9 : decode cX7_manyWrong 9 = .ok (.if_icmp .ge 33, 3) := by decide +kernel
theorem dX7_manyWrong_12 : decode cX7_manyWrong 12 = .ok (.iload_n 1, 1) := by decide +kernel
theorem dX7_manyWrong_13 : decode cX7_manyWrong 13 = .ok (.aload_n 0, 1) := by decide +kernel
theorem dX7_manyWrong_14 : decode cX7_manyWrong 14 = .ok (.iload_n 2, 1) := by decide +kernel
theorem dX7_manyWrong_15 : decode cX7_manyWrong 15 = .ok (.invokevirtual 167, 3) := by decide +kernel
theorem dX7_manyWrong_18 : decode cX7_manyWrong 18 = .ok (.ifCond .eq 15, 3) := by decide +kernel
theorem dX7_manyWrong_21 : decode cX7_manyWrong 21 = .ok (.aload_n 0, 1) := by decide +kernel
theorem dX7_manyWrong_22 : decode cX7_manyWrong 22 = .ok (.iload_n 2, 1) := by decide +kernel
theorem dX7_manyWrong_23 : decode cX7_manyWrong 23 = .ok (.invokevirtual 215, 3) := by decide +kernel
theorem dX7_manyWrong_26 : decode cX7_manyWrong 26 = .ok (.ifCond .ne 7, 3) := by decide +kernel
theorem dX7_manyWrong_29 : decode cX7_manyWrong 29 = .ok (.iconst 1, 1) := by decide +kernel
theorem dX7_manyWrong_30 : decode cX7_manyWrong 30 = .ok (.goto 4, 3) := by decide +kernel
theorem dX7_manyWrong_33 : decode cX7_manyWrong 33 = .ok (.iconst 0, 1) := by decide +kernel
theorem dX7_manyWrong_34 : decode cX7_manyWrong 34 = .ok (.iadd, 1) := by decide +kernel
theorem dX7_manyWrong_35 : decode cX7_manyWrong 35 = .ok (.istore_n 1, 1) := by decide +kernel
theorem dX7_manyWrong_36 : decode cX7_manyWrong 36 = .ok (.iinc 2 1, 3) := by decide +kernel
theorem dX7_manyWrong_39 : decode cX7_manyWrong 39 = .ok (.goto (-35), 3) := by decide +kernel
theorem dX7_manyWrong_42 : decode cX7_manyWrong 42 = .ok (.iload_n 1, 1) := by decide +kernel
theorem dX7_manyWrong_43 : decode cX7_manyWrong 43 = .ok (.ireturn, 1) := by decide +kernel
set_option maxRecDepth 20000 in
theorem ggX7_lastOne_X7_hearsSome : GoodIn wsX7_lastOne wsX7_hearsSome := goodIn_r _ [6, 7, 8, 9, 10, 5, 11, 12, 13, 14, 15, 16, 17, 18, 19, 20, 21, 63, 64, 65, 66, 67, 68, 69, 70, 71, 72, 73, 74, 75, 76, 77, 78, 79, 80, 81, 82, 83, 84, 85, 86, 87, 88] (by decide +kernel) (by decide +kernel)
set_option maxRecDepth 20000 in
theorem gX7_lastOne_X7_hearsSome : GoodIn wsX7_lastOne (wsV RX7 173 RX7 yX7_hearsSome wsX7_hearsSome) := goodIn_app (goodIn_of _ (by decide +kernel)) ggX7_lastOne_X7_hearsSome
set_option maxRecDepth 20000 in
theorem ggX7_lastOne_X7_deafAt : GoodIn wsX7_lastOne wsX7_deafAt := goodIn_r _ [25, 26, 27, 28, 5, 29, 30, 31, 32, 33, 34, 35, 16, 36, 15, 21, 14, 13, 7, 1, 37, 38, 39, 40, 41, 42, 43, 44, 45, 46, 47, 2, 3, 4, 6, 8, 9, 10, 11, 12, 17, 18, 19, 20, 48, 49, 50, 51, 52, 53, 54, 55, 56, 57, 58, 59, 60, 61, 62, 63, 64, 65, 66, 67, 68, 69, 70, 71, 72, 73, 74, 75, 76, 77, 78, 79, 80, 81, 82, 83, 84, 85, 86, 87, 88] (by decide +kernel) (by decide +kernel)
set_option maxRecDepth 20000 in
theorem gX7_lastOne_X7_deafAt : GoodIn wsX7_lastOne (wsV RX7 209 RX7 yX7_deafAt wsX7_deafAt) := goodIn_app (goodIn_of _ (by decide +kernel)) ggX7_lastOne_X7_deafAt
theorem dX7_lastOne_0 : decode cX7_lastOne 0 = .ok (.bipush (-9), 2) := by decide +kernel
theorem dX7_lastOne_2 : decode cX7_lastOne 2 = .ok (.istore_n 1, 1) := by decide +kernel
theorem dX7_lastOne_3 : decode cX7_lastOne 3 = .ok (.iconst 0, 1) := by decide +kernel
theorem dX7_lastOne_4 : decode cX7_lastOne 4 = .ok (.istore_n 2, 1) := by decide +kernel
theorem dX7_lastOne_5 : decode cX7_lastOne 5 = .ok (.iconst 0, 1) := by decide +kernel
theorem dX7_lastOne_6 : decode cX7_lastOne 6 = .ok (.istore_n 3, 1) := by decide +kernel
theorem dX7_lastOne_7 : decode cX7_lastOne 7 = .ok (.iload_n 3, 1) := by decide +kernel
theorem dX7_lastOne_8 : decode cX7_lastOne 8 = .ok (.aload_n 0, 1) := by decide +kernel
theorem dX7_lastOne_9 : decode cX7_lastOne 9 = .ok (.getfield 65, 3) := by decide +kernel
theorem dX7_lastOne_12 : decode cX7_lastOne 12 = .ok (.if_icmp .ge 59, 3) := by decide +kernel
theorem dX7_lastOne_15 : decode cX7_lastOne 15 = .ok (.aload_n 0, 1) := by decide +kernel
theorem dX7_lastOne_16 : decode cX7_lastOne 16 = .ok (.iload_n 3, 1) := by decide +kernel
theorem dX7_lastOne_17 : decode cX7_lastOne 17 = .ok (.invokevirtual 173, 3) := by decide +kernel
theorem dX7_lastOne_20 : decode cX7_lastOne 20 = .ok (.ifCond .ne 6, 3) := by decide +kernel
theorem dX7_lastOne_23 : decode cX7_lastOne 23 = .ok (.goto 42, 3) := by decide +kernel
theorem dX7_lastOne_26 : decode cX7_lastOne 26 = .ok (.aload_n 0, 1) := by decide +kernel
theorem dX7_lastOne_27 : decode cX7_lastOne 27 = .ok (.iload_n 3, 1) := by decide +kernel
theorem dX7_lastOne_28 : decode cX7_lastOne 28 = .ok (.invokevirtual 209, 3) := by decide +kernel
theorem dX7_lastOne_31 : decode cX7_lastOne 31 = .ok (.ifCond .ge 9, 3) := by decide +kernel
theorem dX7_lastOne_34 : decode cX7_lastOne 34 = .ok (.sipush 1000, 3) := by decide +kernel
theorem dX7_lastOne_37 : decode cX7_lastOne 37 = .ok (.goto 8, 3) := by decide +kernel
theorem dX7_lastOne_40 : decode cX7_lastOne 40 = .ok (.aload_n 0, 1) := by decide +kernel
theorem dX7_lastOne_41 : decode cX7_lastOne 41 = .ok (.iload_n 3, 1) := by decide +kernel
theorem dX7_lastOne_42 : decode cX7_lastOne 42 = .ok (.invokevirtual 209, 3) := by decide +kernel
theorem dX7_lastOne_45 : decode cX7_lastOne 45 = .ok (.istore 4, 2) := by decide +kernel
theorem dX7_lastOne_47 : decode cX7_lastOne 47 = .ok (.iload_n 1, 1) := by decide +kernel
theorem dX7_lastOne_48 : decode cX7_lastOne 48 = .ok (.ifCond .lt 12, 3) := by decide +kernel
theorem dX7_lastOne_51 : decode cX7_lastOne 51 = .ok (.iload 4, 2) := by decide +kernel
theorem dX7_lastOne_53 : decode cX7_lastOne 53 = .ok (.iload_n 2, 1) := by decide +kernel
theorem dX7_lastOne_54 : decode cX7_lastOne 54 = .ok (.if_icmp .gt 6, 3) := by decide +kernel
theorem dX7_lastOne_57 : decode cX7_lastOne 57 = .ok (.goto 8, 3) := by decide +kernel
theorem dX7_lastOne_60 : decode cX7_lastOne 60 = .ok (.iload_n 3, 1) := by decide +kernel
theorem dX7_lastOne_61 : decode cX7_lastOne 61 = .ok (.istore_n 1, 1) := by decide +kernel
theorem dX7_lastOne_62 : decode cX7_lastOne 62 = .ok (.iload 4, 2) := by decide +kernel
theorem dX7_lastOne_64 : decode cX7_lastOne 64 = .ok (.istore_n 2, 1) := by decide +kernel
theorem dX7_lastOne_65 : decode cX7_lastOne 65 = .ok (.iinc 3 1, 3) := by decide +kernel
theorem dX7_lastOne_68 : decode cX7_lastOne 68 = .ok (.goto (-61), 3) := by decide +kernel
theorem dX7_lastOne_71 : decode cX7_lastOne 71 = .ok (.iload_n 1, 1) := by decide +kernel
theorem dX7_lastOne_72 : decode cX7_lastOne 72 = .ok (.ireturn, 1) := by decide +kernel
set_option maxRecDepth 20000 in
theorem ggX7_right_X7_isIn : GoodIn wsX7_right wsX7_isIn := goodIn_r _ [4] (by decide +kernel) (by decide +kernel)
set_option maxRecDepth 20000 in
theorem gX7_right_X7_isIn : GoodIn wsX7_right (va_wsS RX7 86 yX7_isIn wsX7_isIn) := goodIn_app (goodIn_of _ (by decide +kernel)) ggX7_right_X7_isIn
set_option maxRecDepth 20000 in
theorem ggX7_right_X7_no : GoodIn wsX7_right wsX7_no := goodIn_r _ [8, 9, 103, 104, 105, 106, 107, 108, 109, 110, 111, 112, 113, 114, 115, 116, 117, 118, 119, 120, 121, 122, 123, 124, 125, 126, 127, 128] (by decide +kernel) (by decide +kernel)
set_option maxRecDepth 20000 in
theorem gX7_right_X7_no : GoodIn wsX7_right (wsV RX7 75 RX7 yX7_no wsX7_no) := goodIn_app (goodIn_of _ (by decide +kernel)) ggX7_right_X7_no
set_option maxRecDepth 20000 in
theorem ggX7_right_X7_manyTrue : GoodIn wsX7_right wsX7_manyTrue := goodIn_r _ [13, 14, 15, 16, 17, 3, 18, 19, 20, 21, 22, 23, 24, 25, 26, 27, 28, 29, 30, 31, 32, 33, 34, 35, 36, 37, 38, 39, 40, 41, 42, 43, 44, 45, 46, 47, 48, 49, 103, 104, 105, 106, 107, 108, 109, 110, 111, 112, 113, 114, 115, 116, 117, 118, 119, 120, 121, 122, 123, 124, 125, 126, 127, 128] (by decide +kernel) (by decide +kernel)
set_option maxRecDepth 20000 in
theorem gX7_right_X7_manyTrue : GoodIn wsX7_right (wsV RX7 249 RX7 yX7_manyTrue wsX7_manyTrue) := goodIn_app (goodIn_of _ (by decide +kernel)) ggX7_right_X7_manyTrue
set_option maxRecDepth 20000 in
theorem ggX7_right_X7_manyWrong : GoodIn wsX7_right wsX7_manyWrong := goodIn_r _ [53, 14, 46, 47, 48, 3, 49, 28, 35, 36, 37, 38, 39, 40, 41, 33, 19, 42, 43, 44, 45, 34, 15, 16, 17, 18, 20, 21, 22, 23, 24, 25, 26, 27, 29, 30, 31, 32, 103, 104, 105, 106, 107, 108, 109, 110, 111, 112, 113, 114, 115, 116, 117, 118, 119, 120, 121, 122, 123, 124, 125, 126, 127, 128] (by decide +kernel) (by decide +kernel)
set_option maxRecDepth 20000 in
theorem gX7_right_X7_manyWrong : GoodIn wsX7_right (wsV RX7 252 RX7 yX7_manyWrong wsX7_manyWrong) := goodIn_app (goodIn_of _ (by decide +kernel)) ggX7_right_X7_manyWrong
set_option maxRecDepth 20000 in
theorem ggX7_right_X7_lastOne : GoodIn wsX7_right wsX7_lastOne := goodIn_r _ [57, 28, 58, 59, 60, 3, 61, 14, 35, 36, 37, 38, 39, 40, 41, 33, 19, 42, 43, 44, 45, 34, 62, 63, 64, 65, 66, 67, 68, 69, 70, 71, 72, 73, 74, 75, 76, 77, 78, 79, 80, 81, 82, 83, 84, 85, 86, 87, 88, 89, 90, 91, 92, 93, 94, 95, 96, 97, 98, 99, 100, 101, 102, 103, 104, 105, 106, 107, 108, 109, 110, 111, 112, 113, 114, 115, 116, 117, 118, 119, 120, 121, 122, 123, 124, 125, 126, 127, 128] (by decide +kernel) (by decide +kernel)
set_option maxRecDepth 20000 in
theorem gX7_right_X7_lastOne : GoodIn wsX7_right (wsV RX7 255 RX7 yX7_lastOne wsX7_lastOne) := goodIn_app (goodIn_of _ (by decide +kernel)) ggX7_right_X7_lastOne
theorem dX7_right_0 : decode cX7_right 0 = .ok (.iload_n 1, 1) := by decide +kernel
theorem dX7_right_1 : decode cX7_right 1 = .ok (.iconst 0, 1) := by decide +kernel
theorem dX7_right_2 : decode cX7_right 2 = .ok (.iconst 2, 1) := by decide +kernel
theorem dX7_right_3 : decode cX7_right 3 = .ok (.invokestatic 86, 3) := by decide +kernel
theorem dX7_right_6 : decode cX7_right 6 = .ok (.ifCond .ne 10, 3) := by decide +kernel
theorem dX7_right_9 : decode cX7_right 9 = .ok (.aload_n 0, 1) := by decide +kernel
theorem dX7_right_10 : decode cX7_right 10 = .ok (.bipush (-2), 2) := by decide +kernel
theorem dX7_right_12 : decode cX7_right 12 = .ok (.invokevirtual 75, 3) := by decide +kernel
theorem dX7_right_15 : decode cX7_right 15 = .ok (.ireturn, 1) := by decide +kernel
theorem dX7_right_16 : decode cX7_right 16 = .ok (.iload_n 1, 1) := by decide +kernel
theorem dX7_right_17 : decode cX7_right 17 = .ok (.ifCond .ne 10, 3) := by decide +kernel
theorem dX7_right_20 : decode cX7_right 20 = .ok (.aload_n 0, 1) := by decide +kernel
theorem dX7_right_21 : decode cX7_right 21 = .ok (.invokevirtual 249, 3) := by decide +kernel
theorem dX7_right_24 : decode cX7_right 24 = .ok (.goto 19, 3) := by decide +kernel
theorem dX7_right_27 : decode cX7_right 27 = .ok (.iload_n 1, 1) := by decide +kernel
theorem dX7_right_28 : decode cX7_right 28 = .ok (.iconst 1, 1) := by decide +kernel
theorem dX7_right_29 : decode cX7_right 29 = .ok (.if_icmp .ne 10, 3) := by decide +kernel
theorem dX7_right_32 : decode cX7_right 32 = .ok (.aload_n 0, 1) := by decide +kernel
theorem dX7_right_33 : decode cX7_right 33 = .ok (.invokevirtual 252, 3) := by decide +kernel
theorem dX7_right_36 : decode cX7_right 36 = .ok (.goto 7, 3) := by decide +kernel
theorem dX7_right_39 : decode cX7_right 39 = .ok (.aload_n 0, 1) := by decide +kernel
theorem dX7_right_40 : decode cX7_right 40 = .ok (.invokevirtual 255, 3) := by decide +kernel
theorem dX7_right_43 : decode cX7_right 43 = .ok (.ireturn, 1) := by decide +kernel
set_option maxRecDepth 20000 in
theorem ggX7_areClashing_X7_hears : GoodIn wsX7_areClashing wsX7_hears := goodIn_r _ [6, 7, 8, 9, 10, 11, 12, 13, 14, 5, 15, 16, 21, 22, 23, 24, 25, 26, 27, 28, 29, 30, 31, 32, 33, 34, 35, 36, 37, 38, 39, 40, 41, 42, 43, 44, 45, 46] (by decide +kernel) (by decide +kernel)
set_option maxRecDepth 20000 in
theorem gX7_areClashing_X7_hears : GoodIn wsX7_areClashing (wsV RX7 157 RX7 yX7_hears wsX7_hears) := goodIn_app (goodIn_of _ (by decide +kernel)) ggX7_areClashing_X7_hears
set_option maxRecDepth 20000 in
theorem ggX7_areClashing_X7_saysOf : GoodIn wsX7_areClashing wsX7_saysOf := goodIn_r _ [20, 10, 11, 16, 2, 3, 4, 5, 6, 7, 8, 9, 12, 13, 14, 15, 21, 22, 23, 24, 25, 26, 27, 28, 29, 30, 31, 32, 33, 34, 35, 36, 37, 38, 39, 40, 41, 42, 43, 44, 45, 46] (by decide +kernel) (by decide +kernel)
set_option maxRecDepth 20000 in
theorem gX7_areClashing_X7_saysOf : GoodIn wsX7_areClashing (wsV RX7 160 RX7 yX7_saysOf wsX7_saysOf) := goodIn_app (goodIn_of _ (by decide +kernel)) ggX7_areClashing_X7_saysOf
theorem dX7_areClashing_0 : decode cX7_areClashing 0 = .ok (.iconst 0, 1) := by decide +kernel
theorem dX7_areClashing_1 : decode cX7_areClashing 1 = .ok (.istore_n 3, 1) := by decide +kernel
theorem dX7_areClashing_2 : decode cX7_areClashing 2 = .ok (.iload_n 3, 1) := by decide +kernel
theorem dX7_areClashing_3 : decode cX7_areClashing 3 = .ok (.aload_n 0, 1) := by decide +kernel
theorem dX7_areClashing_4 : decode cX7_areClashing 4 = .ok (.getfield 62, 3) := by decide +kernel
theorem dX7_areClashing_7 : decode cX7_areClashing 7 = .ok (.if_icmp .ge 44, 3) := by decide +kernel
theorem dX7_areClashing_10 : decode cX7_areClashing 10 = .ok (.aload_n 0, 1) := by decide +kernel
theorem dX7_areClashing_11 : decode cX7_areClashing 11 = .ok (.iload_n 1, 1) := by decide +kernel
theorem dX7_areClashing_12 : decode cX7_areClashing 12 = .ok (.iload_n 3, 1) := by decide +kernel
theorem dX7_areClashing_13 : decode cX7_areClashing 13 = .ok (.invokevirtual 157, 3) := by decide +kernel
theorem dX7_areClashing_16 : decode cX7_areClashing 16 = .ok (.ifCond .eq 29, 3) := by decide +kernel
theorem dX7_areClashing_19 : decode cX7_areClashing 19 = .ok (.aload_n 0, 1) := by decide +kernel
theorem dX7_areClashing_20 : decode cX7_areClashing 20 = .ok (.iload_n 2, 1) := by decide +kernel
theorem dX7_areClashing_21 : decode cX7_areClashing 21 = .ok (.iload_n 3, 1) := by decide +kernel
theorem dX7_areClashing_22 : decode cX7_areClashing 22 = .ok (.invokevirtual 157, 3) := by decide +kernel
theorem dX7_areClashing_25 : decode cX7_areClashing 25 = .ok (.ifCond .eq 20, 3) := by decide +kernel
theorem dX7_areClashing_28 : decode cX7_areClashing 28 = .ok (.aload_n 0, 1) := by decide +kernel
theorem dX7_areClashing_29 : decode cX7_areClashing 29 = .ok (.iload_n 1, 1) := by decide +kernel
theorem dX7_areClashing_30 : decode cX7_areClashing 30 = .ok (.iload_n 3, 1) := by decide +kernel
theorem dX7_areClashing_31 : decode cX7_areClashing 31 = .ok (.invokevirtual 160, 3) := by decide +kernel
theorem dX7_areClashing_34 : decode cX7_areClashing 34 = .ok (.aload_n 0, 1) := by decide +kernel
theorem dX7_areClashing_35 : decode cX7_areClashing 35 = .ok (.iload_n 2, 1) := by decide +kernel
theorem dX7_areClashing_36 : decode cX7_areClashing 36 = .ok (.iload_n 3, 1) := by decide +kernel
theorem dX7_areClashing_37 : decode cX7_areClashing 37 = .ok (.invokevirtual 160, 3) := by decide +kernel
theorem dX7_areClashing_40 : decode cX7_areClashing 40 = .ok (.if_icmp .eq 5, 3) := by decide +kernel
theorem dX7_areClashing_43 : decode cX7_areClashing 43 = .ok (.iconst 1, 1) := by decide +kernel
theorem dX7_areClashing_44 : decode cX7_areClashing 44 = .ok (.ireturn, 1) := by decide +kernel
theorem dX7_areClashing_45 : decode cX7_areClashing 45 = .ok (.iinc 3 1, 3) := by decide +kernel
theorem dX7_areClashing_48 : decode cX7_areClashing 48 = .ok (.goto (-46), 3) := by decide +kernel
theorem dX7_areClashing_51 : decode cX7_areClashing 51 = .ok (.iconst 0, 1) := by decide +kernel
theorem dX7_areClashing_52 : decode cX7_areClashing 52 = .ok (.ireturn, 1) := by decide +kernel
set_option maxRecDepth 20000 in
theorem ggX7_clash_X7_isIn : GoodIn wsX7_clash wsX7_isIn := goodIn_r _ [5] (by decide +kernel) (by decide +kernel)
set_option maxRecDepth 20000 in
theorem gX7_clash_X7_isIn : GoodIn wsX7_clash (va_wsS RX7 86 yX7_isIn wsX7_isIn) := goodIn_app (goodIn_of _ (by decide +kernel)) ggX7_clash_X7_isIn
set_option maxRecDepth 20000 in
theorem ggX7_clash_X7_no : GoodIn wsX7_clash wsX7_no := goodIn_r _ [9, 10, 34, 35, 36, 37, 38, 39, 40, 41, 42, 43, 44, 45, 46, 47, 48, 49, 50, 51, 52, 53, 54, 55, 56, 57, 58, 59] (by decide +kernel) (by decide +kernel)
set_option maxRecDepth 20000 in
theorem gX7_clash_X7_no : GoodIn wsX7_clash (wsV RX7 75 RX7 yX7_no wsX7_no) := goodIn_app (goodIn_of _ (by decide +kernel)) ggX7_clash_X7_no
set_option maxRecDepth 20000 in
theorem ggX7_clash_X7_areClashing : GoodIn wsX7_clash wsX7_areClashing := goodIn_r _ [14, 15, 16, 17, 18, 4, 19, 20, 21, 22, 23, 24, 25, 26, 27, 28, 29, 30, 31, 32, 33, 34, 35, 36, 37, 38, 39, 40, 41, 42, 43, 44, 45, 46, 47, 48, 49, 50, 51, 52, 53, 54, 55, 56, 57, 58, 59] (by decide +kernel) (by decide +kernel)
set_option maxRecDepth 20000 in
theorem gX7_clash_X7_areClashing : GoodIn wsX7_clash (wsV RX7 258 RX7 yX7_areClashing wsX7_areClashing) := goodIn_app (goodIn_of _ (by decide +kernel)) ggX7_clash_X7_areClashing
theorem dX7_clash_0 : decode cX7_clash 0 = .ok (.iload_n 1, 1) := by decide +kernel
theorem dX7_clash_1 : decode cX7_clash 1 = .ok (.iconst 0, 1) := by decide +kernel
theorem dX7_clash_2 : decode cX7_clash 2 = .ok (.iconst 1, 1) := by decide +kernel
theorem dX7_clash_3 : decode cX7_clash 3 = .ok (.invokestatic 86, 3) := by decide +kernel
theorem dX7_clash_6 : decode cX7_clash 6 = .ok (.ifCond .ne 10, 3) := by decide +kernel
theorem dX7_clash_9 : decode cX7_clash 9 = .ok (.aload_n 0, 1) := by decide +kernel
theorem dX7_clash_10 : decode cX7_clash 10 = .ok (.bipush (-2), 2) := by decide +kernel
theorem dX7_clash_12 : decode cX7_clash 12 = .ok (.invokevirtual 75, 3) := by decide +kernel
theorem dX7_clash_15 : decode cX7_clash 15 = .ok (.ireturn, 1) := by decide +kernel
theorem dX7_clash_16 : decode cX7_clash 16 = .ok (.iconst 0, 1) := by decide +kernel
theorem dX7_clash_17 : decode cX7_clash 17 = .ok (.istore_n 2, 1) := by decide +kernel
theorem dX7_clash_18 : decode cX7_clash 18 = .ok (.bipush (-9), 2) := by decide +kernel
theorem dX7_clash_20 : decode cX7_clash 20 = .ok (.istore_n 3, 1) := by decide +kernel
theorem dX7_clash_21 : decode cX7_clash 21 = .ok (.aload_n 0, 1) := by decide +kernel
theorem dX7_clash_22 : decode cX7_clash 22 = .ok (.getfield 65, 3) := by decide +kernel
theorem dX7_clash_25 : decode cX7_clash 25 = .ok (.iconst 1, 1) := by decide +kernel
theorem dX7_clash_26 : decode cX7_clash 26 = .ok (.isub, 1) := by decide +kernel
theorem dX7_clash_27 : decode cX7_clash 27 = .ok (.istore 4, 2) := by decide +kernel
theorem dX7_clash_29 : decode cX7_clash 29 = .ok (.iload 4, 2) := by decide +kernel
theorem dX7_clash_31 : decode cX7_clash 31 = .ok (.ifCond .lt 56, 3) := by decide +kernel
theorem dX7_clash_34 : decode cX7_clash 34 = .ok (.aload_n 0, 1) := by decide +kernel
theorem dX7_clash_35 : decode cX7_clash 35 = .ok (.getfield 65, 3) := by decide +kernel
theorem dX7_clash_38 : decode cX7_clash 38 = .ok (.iconst 1, 1) := by decide +kernel
theorem dX7_clash_39 : decode cX7_clash 39 = .ok (.isub, 1) := by decide +kernel
theorem dX7_clash_40 : decode cX7_clash 40 = .ok (.istore 5, 2) := by decide +kernel
theorem dX7_clash_42 : decode cX7_clash 42 = .ok (.iload 5, 2) := by decide +kernel
theorem dX7_clash_44 : decode cX7_clash 44 = .ok (.iload 4, 2) := by decide +kernel
theorem dX7_clash_46 : decode cX7_clash 46 = .ok (.if_icmp .le 35, 3) := by decide +kernel
theorem dX7_clash_49 : decode cX7_clash 49 = .ok (.aload_n 0, 1) := by decide +kernel
theorem dX7_clash_50 : decode cX7_clash 50 = .ok (.iload 4, 2) := by decide +kernel
theorem dX7_clash_52 : decode cX7_clash 52 = .ok (.iload 5, 2) := by decide +kernel
theorem dX7_clash_54 : decode cX7_clash 54 = .ok (.invokevirtual 258, 3) := by decide +kernel
theorem dX7_clash_57 : decode cX7_clash 57 = .ok (.ifCond .ne 6, 3) := by decide +kernel
theorem dX7_clash_60 : decode cX7_clash 60 = .ok (.goto 15, 3) := by decide +kernel
theorem dX7_clash_63 : decode cX7_clash 63 = .ok (.iinc 2 1, 3) := by decide +kernel
theorem dX7_clash_66 : decode cX7_clash 66 = .ok (.bipush 10, 2) := by decide +kernel
theorem dX7_clash_68 : decode cX7_clash 68 = .ok (.iload 4, 2) := by decide +kernel
theorem dX7_clash_70 : decode cX7_clash 70 = .ok (.imul, 1) := by decide +kernel
theorem dX7_clash_71 : decode cX7_clash 71 = .ok (.iload 5, 2) := by decide +kernel
theorem dX7_clash_73 : decode cX7_clash 73 = .ok (.iadd, 1) := by decide +kernel
theorem dX7_clash_74 : decode cX7_clash 74 = .ok (.istore_n 3, 1) := by decide +kernel
theorem dX7_clash_75 : decode cX7_clash 75 = .ok (.iinc 5 (-1), 3) := by decide +kernel
theorem dX7_clash_78 : decode cX7_clash 78 = .ok (.goto (-36), 3) := by decide +kernel
theorem dX7_clash_81 : decode cX7_clash 81 = .ok (.iinc 4 (-1), 3) := by decide +kernel
theorem dX7_clash_84 : decode cX7_clash 84 = .ok (.goto (-55), 3) := by decide +kernel
theorem dX7_clash_87 : decode cX7_clash 87 = .ok (.iload_n 1, 1) := by decide +kernel
theorem dX7_clash_88 : decode cX7_clash 88 = .ok (.ifCond .ne 7, 3) := by decide +kernel
theorem dX7_clash_91 : decode cX7_clash 91 = .ok (.iload_n 2, 1) := by decide +kernel
theorem dX7_clash_92 : decode cX7_clash 92 = .ok (.goto 4, 3) := by decide +kernel
theorem dX7_clash_95 : decode cX7_clash 95 = .ok (.iload_n 3, 1) := by decide +kernel
theorem dX7_clash_96 : decode cX7_clash 96 = .ok (.ireturn, 1) := by decide +kernel
set_option maxRecDepth 20000 in
theorem ggX7_areAgreed_X7_has : GoodIn wsX7_areAgreed wsX7_has := goodIn_r _ [5] (by decide +kernel) (by decide +kernel)
set_option maxRecDepth 20000 in
theorem gX7_areAgreed_X7_has : GoodIn wsX7_areAgreed (va_wsS RX7 231 yX7_has wsX7_has) := goodIn_app (goodIn_of _ (by decide +kernel)) ggX7_areAgreed_X7_has
set_option maxRecDepth 20000 in
theorem ggX7_areAgreed_X7_hearsSome : GoodIn wsX7_areAgreed wsX7_hearsSome := goodIn_r _ [9, 10, 11, 12, 13, 4, 14, 15, 16, 17, 18, 19, 20, 21, 22, 23, 24, 33, 34, 35, 36, 37, 38, 39, 40, 41, 42, 43, 44, 45, 46, 47, 48, 49, 50, 51, 52, 53, 54, 55, 56, 57, 58] (by decide +kernel) (by decide +kernel)
set_option maxRecDepth 20000 in
theorem gX7_areAgreed_X7_hearsSome : GoodIn wsX7_areAgreed (wsV RX7 173 RX7 yX7_hearsSome wsX7_hearsSome) := goodIn_app (goodIn_of _ (by decide +kernel)) ggX7_areAgreed_X7_hearsSome
set_option maxRecDepth 20000 in
theorem ggX7_areAgreed_X7_areClashing : GoodIn wsX7_areAgreed wsX7_areClashing := goodIn_r _ [28, 10, 11, 12, 13, 4, 14, 15, 16, 17, 18, 19, 20, 21, 22, 23, 24, 29, 30, 31, 32, 33, 34, 35, 36, 37, 38, 39, 40, 41, 42, 43, 44, 45, 46, 47, 48, 49, 50, 51, 52, 53, 54, 55, 56, 57, 58] (by decide +kernel) (by decide +kernel)
set_option maxRecDepth 20000 in
theorem gX7_areAgreed_X7_areClashing : GoodIn wsX7_areAgreed (wsV RX7 258 RX7 yX7_areClashing wsX7_areClashing) := goodIn_app (goodIn_of _ (by decide +kernel)) ggX7_areAgreed_X7_areClashing
theorem dX7_areAgreed_0 : decode cX7_areAgreed 0 = .ok (.iconst 0, 1) := by decide +kernel
theorem dX7_areAgreed_1 : decode cX7_areAgreed 1 = .ok (.istore_n 2, 1) := by decide +kernel
theorem dX7_areAgreed_2 : decode cX7_areAgreed 2 = .ok (.iload_n 2, 1) := by decide +kernel
theorem dX7_areAgreed_3 : decode cX7_areAgreed 3 = .ok (.aload_n 0, 1) := by decide +kernel
theorem dX7_areAgreed_4 : decode cX7_areAgreed 4 = .ok (.getfield 65, 3) := by decide +kernel
theorem dX7_areAgreed_7 : decode cX7_areAgreed 7 = .ok (.if_icmp .ge 67, 3) := by decide +kernel
theorem dX7_areAgreed_10 : decode cX7_areAgreed 10 = .ok (.iload_n 1, 1) := by decide +kernel
theorem dX7_areAgreed_11 : decode cX7_areAgreed 11 = .ok (.iload_n 2, 1) := by decide +kernel
theorem dX7_areAgreed_12 : decode cX7_areAgreed 12 = .ok (.invokestatic 231, 3) := by decide +kernel
theorem dX7_areAgreed_15 : decode cX7_areAgreed 15 = .ok (.ifCond .ne 6, 3) := by decide +kernel
theorem dX7_areAgreed_18 : decode cX7_areAgreed 18 = .ok (.goto 50, 3) := by decide +kernel
theorem dX7_areAgreed_21 : decode cX7_areAgreed 21 = .ok (.aload_n 0, 1) := by decide +kernel
theorem dX7_areAgreed_22 : decode cX7_areAgreed 22 = .ok (.iload_n 2, 1) := by decide +kernel
theorem dX7_areAgreed_23 : decode cX7_areAgreed 23 = .ok (.invokevirtual 173, 3) := by decide +kernel
theorem dX7_areAgreed_26 : decode cX7_areAgreed 26 = .ok (.ifCond .ne 5, 3) := by decide +kernel
theorem dX7_areAgreed_29 : decode cX7_areAgreed 29 = .ok (.iconst 0, 1) := by decide +kernel
theorem dX7_areAgreed_30 : decode cX7_areAgreed 30 = .ok (.ireturn, 1) := by decide +kernel
theorem dX7_areAgreed_31 : decode cX7_areAgreed 31 = .ok (.iload_n 2, 1) := by decide +kernel
theorem dX7_areAgreed_32 : decode cX7_areAgreed 32 = .ok (.iconst 1, 1) := by decide +kernel
theorem dX7_areAgreed_33 : decode cX7_areAgreed 33 = .ok (.iadd, 1) := by decide +kernel
theorem dX7_areAgreed_34 : decode cX7_areAgreed 34 = .ok (.istore_n 3, 1) := by decide +kernel
theorem dX7_areAgreed_35 : decode cX7_areAgreed 35 = .ok (.iload_n 3, 1) := by decide +kernel
theorem dX7_areAgreed_36 : decode cX7_areAgreed 36 = .ok (.aload_n 0, 1) := by decide +kernel
theorem dX7_areAgreed_37 : decode cX7_areAgreed 37 = .ok (.getfield 65, 3) := by decide +kernel
theorem dX7_areAgreed_40 : decode cX7_areAgreed 40 = .ok (.if_icmp .ge 28, 3) := by decide +kernel
theorem dX7_areAgreed_43 : decode cX7_areAgreed 43 = .ok (.iload_n 1, 1) := by decide +kernel
theorem dX7_areAgreed_44 : decode cX7_areAgreed 44 = .ok (.iload_n 3, 1) := by decide +kernel
theorem dX7_areAgreed_45 : decode cX7_areAgreed 45 = .ok (.invokestatic 231, 3) := by decide +kernel
theorem dX7_areAgreed_48 : decode cX7_areAgreed 48 = .ok (.ifCond .eq 14, 3) := by decide +kernel
theorem dX7_areAgreed_51 : decode cX7_areAgreed 51 = .ok (.aload_n 0, 1) := by decide +kernel
theorem dX7_areAgreed_52 : decode cX7_areAgreed 52 = .ok (.iload_n 2, 1) := by decide +kernel
theorem dX7_areAgreed_53 : decode cX7_areAgreed 53 = .ok (.iload_n 3, 1) := by decide +kernel
theorem dX7_areAgreed_54 : decode cX7_areAgreed 54 = .ok (.invokevirtual 258, 3) := by decide +kernel
theorem dX7_areAgreed_57 : decode cX7_areAgreed 57 = .ok (.ifCond .eq 5, 3) := by decide +kernel
theorem dX7_areAgreed_60 : decode cX7_areAgreed 60 = .ok (.iconst 0, 1) := by decide +kernel
theorem dX7_areAgreed_61 : decode cX7_areAgreed 61 = .ok (.ireturn, 1) := by decide +kernel
theorem dX7_areAgreed_62 : decode cX7_areAgreed 62 = .ok (.iinc 3 1, 3) := by decide +kernel
theorem dX7_areAgreed_65 : decode cX7_areAgreed 65 = .ok (.goto (-30), 3) := by decide +kernel
theorem dX7_areAgreed_68 : decode cX7_areAgreed 68 = .ok (.iinc 2 1, 3) := by decide +kernel
theorem dX7_areAgreed_71 : decode cX7_areAgreed 71 = .ok (.goto (-69), 3) := by decide +kernel
theorem dX7_areAgreed_74 : decode cX7_areAgreed 74 = .ok (.iconst 1, 1) := by decide +kernel
theorem dX7_areAgreed_75 : decode cX7_areAgreed 75 = .ok (.ireturn, 1) := by decide +kernel
set_option maxRecDepth 20000 in
theorem ggX7_agreed_X7_isIn : GoodIn wsX7_agreed wsX7_isIn := goodIn_r _ [5] (by decide +kernel) (by decide +kernel)
set_option maxRecDepth 20000 in
theorem gX7_agreed_X7_isIn : GoodIn wsX7_agreed (va_wsS RX7 86 yX7_isIn wsX7_isIn) := goodIn_app (goodIn_of _ (by decide +kernel)) ggX7_agreed_X7_isIn
set_option maxRecDepth 20000 in
theorem ggX7_agreed_X7_no : GoodIn wsX7_agreed wsX7_no := goodIn_r _ [9, 10, 48, 49, 50, 51, 52, 53, 54, 55, 56, 57, 58, 59, 60, 61, 62, 63, 64, 65, 66, 67, 68, 69, 70, 71, 72, 73] (by decide +kernel) (by decide +kernel)
set_option maxRecDepth 20000 in
theorem gX7_agreed_X7_no : GoodIn wsX7_agreed (wsV RX7 75 RX7 yX7_no wsX7_no) := goodIn_app (goodIn_of _ (by decide +kernel)) ggX7_agreed_X7_no
set_option maxRecDepth 20000 in
theorem ggX7_agreed_X7_bits : GoodIn wsX7_agreed wsX7_bits := goodIn_r _ [13] (by decide +kernel) (by decide +kernel)
set_option maxRecDepth 20000 in
theorem gX7_agreed_X7_bits : GoodIn wsX7_agreed (va_wsS RX7 240 yX7_bits wsX7_bits) := goodIn_app (goodIn_of _ (by decide +kernel)) ggX7_agreed_X7_bits
set_option maxRecDepth 20000 in
theorem ggX7_agreed_X7_areAgreed : GoodIn wsX7_agreed wsX7_areAgreed := goodIn_r _ [17, 1, 18, 19, 4, 20, 21, 22, 23, 24, 25, 26, 27, 28, 29, 30, 31, 32, 33, 34, 35, 36, 37, 38, 39, 40, 41, 42, 43, 44, 45, 46, 47, 48, 49, 50, 51, 52, 53, 54, 55, 56, 57, 58, 59, 60, 61, 62, 63, 64, 65, 66, 67, 68, 69, 70, 71, 72, 73] (by decide +kernel) (by decide +kernel)
set_option maxRecDepth 20000 in
theorem gX7_agreed_X7_areAgreed : GoodIn wsX7_agreed (wsV RX7 261 RX7 yX7_areAgreed wsX7_areAgreed) := goodIn_app (goodIn_of _ (by decide +kernel)) ggX7_agreed_X7_areAgreed
theorem dX7_agreed_0 : decode cX7_agreed 0 = .ok (.iload_n 1, 1) := by decide +kernel
theorem dX7_agreed_1 : decode cX7_agreed 1 = .ok (.iconst 0, 1) := by decide +kernel
theorem dX7_agreed_2 : decode cX7_agreed 2 = .ok (.iconst 1, 1) := by decide +kernel
theorem dX7_agreed_3 : decode cX7_agreed 3 = .ok (.invokestatic 86, 3) := by decide +kernel
theorem dX7_agreed_6 : decode cX7_agreed 6 = .ok (.ifCond .ne 10, 3) := by decide +kernel
theorem dX7_agreed_9 : decode cX7_agreed 9 = .ok (.aload_n 0, 1) := by decide +kernel
theorem dX7_agreed_10 : decode cX7_agreed 10 = .ok (.bipush (-2), 2) := by decide +kernel
theorem dX7_agreed_12 : decode cX7_agreed 12 = .ok (.invokevirtual 75, 3) := by decide +kernel
theorem dX7_agreed_15 : decode cX7_agreed 15 = .ok (.ireturn, 1) := by decide +kernel
theorem dX7_agreed_16 : decode cX7_agreed 16 = .ok (.iconst 0, 1) := by decide +kernel
theorem dX7_agreed_17 : decode cX7_agreed 17 = .ok (.istore_n 2, 1) := by decide +kernel
theorem dX7_agreed_18 : decode cX7_agreed 18 = .ok (.iconst 1, 1) := by decide +kernel
theorem dX7_agreed_19 : decode cX7_agreed 19 = .ok (.istore_n 3, 1) := by decide +kernel
theorem dX7_agreed_20 : decode cX7_agreed 20 = .ok (.iload_n 3, 1) := by decide +kernel
theorem dX7_agreed_21 : decode cX7_agreed 21 = .ok (.iconst 1, 1) := by decide +kernel
theorem dX7_agreed_22 : decode cX7_agreed 22 = .ok (.aload_n 0, 1) := by decide +kernel
theorem dX7_agreed_23 : decode cX7_agreed 23 = .ok (.getfield 65, 3) := by decide +kernel
theorem dX7_agreed_26 : decode cX7_agreed 26 = .ok (.ishl, 1) := by decide +kernel
theorem dX7_agreed_27 : decode cX7_agreed 27 = .ok (.if_icmp .ge 30, 3) := by decide +kernel
theorem dX7_agreed_30 : decode cX7_agreed 30 = .ok (.iload_n 3, 1) := by decide +kernel
theorem dX7_agreed_31 : decode cX7_agreed 31 = .ok (.invokestatic 240, 3) := by decide +kernel
theorem dX7_agreed_34 : decode cX7_agreed 34 = .ok (.iload_n 2, 1) := by decide +kernel
theorem dX7_agreed_35 : decode cX7_agreed 35 = .ok (.invokestatic 240, 3) := by decide +kernel
theorem dX7_agreed_38 : decode cX7_agreed 38 = .ok (.if_icmp .le 13, 3) := by decide +kernel
theorem dX7_agreed_41 : decode cX7_agreed 41 = .ok (.aload_n 0, 1) := by decide +kernel
theorem dX7_agreed_42 : decode cX7_agreed 42 = .ok (.iload_n 3, 1) := by decide +kernel
theorem dX7_agreed_43 : decode cX7_agreed 43 = .ok (.invokevirtual 261, 3) := by decide +kernel
theorem dX7_agreed_46 : decode cX7_agreed 46 = .ok (.ifCond .eq 5, 3) := by decide +kernel
theorem dX7_agreed_49 : decode cX7_agreed 49 = .ok (.iload_n 3, 1) := by decide +kernel
theorem dX7_agreed_50 : decode cX7_agreed 50 = .ok (.istore_n 2, 1) := by decide +kernel
theorem dX7_agreed_51 : decode cX7_agreed 51 = .ok (.iinc 3 1, 3) := by decide +kernel
theorem dX7_agreed_54 : decode cX7_agreed 54 = .ok (.goto (-34), 3) := by decide +kernel
theorem dX7_agreed_57 : decode cX7_agreed 57 = .ok (.iload_n 1, 1) := by decide +kernel
theorem dX7_agreed_58 : decode cX7_agreed 58 = .ok (.ifCond .ne 10, 3) := by decide +kernel
theorem dX7_agreed_61 : decode cX7_agreed 61 = .ok (.iload_n 2, 1) := by decide +kernel
theorem dX7_agreed_62 : decode cX7_agreed 62 = .ok (.invokestatic 240, 3) := by decide +kernel
theorem dX7_agreed_65 : decode cX7_agreed 65 = .ok (.goto 4, 3) := by decide +kernel
theorem dX7_agreed_68 : decode cX7_agreed 68 = .ok (.iload_n 2, 1) := by decide +kernel
theorem dX7_agreed_69 : decode cX7_agreed 69 = .ok (.ireturn, 1) := by decide +kernel
set_option maxRecDepth 20000 in
theorem ggX7_hours_X7_isIn : GoodIn wsX7_hours wsX7_isIn := goodIn_r _ [6] (by decide +kernel) (by decide +kernel)
set_option maxRecDepth 20000 in
theorem gX7_hours_X7_isIn : GoodIn wsX7_hours (va_wsS RX7 86 yX7_isIn wsX7_isIn) := goodIn_app (goodIn_of _ (by decide +kernel)) ggX7_hours_X7_isIn
set_option maxRecDepth 20000 in
theorem ggX7_hours_X7_no : GoodIn wsX7_hours wsX7_no := goodIn_r _ [10, 11, 34, 35, 36, 37, 38, 39, 40, 41, 42, 43, 44, 45, 46, 47, 48, 49, 50, 51, 52, 53, 54, 55, 56, 57, 58, 59] (by decide +kernel) (by decide +kernel)
set_option maxRecDepth 20000 in
theorem gX7_hours_X7_no : GoodIn wsX7_hours (wsV RX7 75 RX7 yX7_no wsX7_no) := goodIn_app (goodIn_of _ (by decide +kernel)) ggX7_hours_X7_no
set_option maxRecDepth 20000 in
theorem ggX7_hours_X7_hearers : GoodIn wsX7_hours wsX7_hearers := goodIn_r _ [15, 2, 16, 17, 18, 5, 19, 20, 21, 22, 23, 24, 25, 26, 27, 28, 29, 34, 35, 36, 37, 38, 39, 40, 41, 42, 43, 44, 45, 46, 47, 48, 49, 50, 51, 52, 53, 54, 55, 56, 57, 58, 59] (by decide +kernel) (by decide +kernel)
set_option maxRecDepth 20000 in
theorem gX7_hours_X7_hearers : GoodIn wsX7_hours (wsV RX7 167 RX7 yX7_hearers wsX7_hearers) := goodIn_app (goodIn_of _ (by decide +kernel)) ggX7_hours_X7_hearers
set_option maxRecDepth 20000 in
theorem ggX7_hours_X7_hears : GoodIn wsX7_hours wsX7_hears := goodIn_r _ [19, 20, 21, 22, 23, 24, 25, 26, 27, 5, 28, 29, 34, 35, 36, 37, 38, 39, 40, 41, 42, 43, 44, 45, 46, 47, 48, 49, 50, 51, 52, 53, 54, 55, 56, 57, 58, 59] (by decide +kernel) (by decide +kernel)
set_option maxRecDepth 20000 in
theorem gX7_hours_X7_hears : GoodIn wsX7_hours (wsV RX7 157 RX7 yX7_hears wsX7_hears) := goodIn_app (goodIn_of _ (by decide +kernel)) ggX7_hours_X7_hears
set_option maxRecDepth 20000 in
theorem ggX7_hours_X7_saysOf : GoodIn wsX7_hours wsX7_saysOf := goodIn_r _ [33, 23, 24, 29, 16, 17, 18, 5, 19, 20, 21, 22, 25, 26, 27, 28, 34, 35, 36, 37, 38, 39, 40, 41, 42, 43, 44, 45, 46, 47, 48, 49, 50, 51, 52, 53, 54, 55, 56, 57, 58, 59] (by decide +kernel) (by decide +kernel)
set_option maxRecDepth 20000 in
theorem gX7_hours_X7_saysOf : GoodIn wsX7_hours (wsV RX7 160 RX7 yX7_saysOf wsX7_saysOf) := goodIn_app (goodIn_of _ (by decide +kernel)) ggX7_hours_X7_saysOf
theorem dX7_hours_0 : decode cX7_hours 0 = .ok (.iload_n 1, 1) := by decide +kernel
theorem dX7_hours_1 : decode cX7_hours 1 = .ok (.iconst 0, 1) := by decide +kernel
theorem dX7_hours_2 : decode cX7_hours 2 = .ok (.iconst 1, 1) := by decide +kernel
theorem dX7_hours_3 : decode cX7_hours 3 = .ok (.invokestatic 86, 3) := by decide +kernel
theorem dX7_hours_6 : decode cX7_hours 6 = .ok (.ifCond .ne 10, 3) := by decide +kernel
theorem dX7_hours_9 : decode cX7_hours 9 = .ok (.aload_n 0, 1) := by decide +kernel
theorem dX7_hours_10 : decode cX7_hours 10 = .ok (.bipush (-2), 2) := by decide +kernel
theorem dX7_hours_12 : decode cX7_hours 12 = .ok (.invokevirtual 75, 3) := by decide +kernel
theorem dX7_hours_15 : decode cX7_hours 15 = .ok (.ireturn, 1) := by decide +kernel
theorem dX7_hours_16 : decode cX7_hours 16 = .ok (.iconst 0, 1) := by decide +kernel
theorem dX7_hours_17 : decode cX7_hours 17 = .ok (.istore_n 2, 1) := by decide +kernel
theorem dX7_hours_18 : decode cX7_hours 18 = .ok (.iconst 0, 1) := by decide +kernel
theorem dX7_hours_19 : decode cX7_hours 19 = .ok (.istore_n 3, 1) := by decide +kernel
theorem dX7_hours_20 : decode cX7_hours 20 = .ok (.iconst 0, 1) := by decide +kernel
theorem dX7_hours_21 : decode cX7_hours 21 = .ok (.istore 4, 2) := by decide +kernel
theorem dX7_hours_23 : decode cX7_hours 23 = .ok (.iload 4, 2) := by decide +kernel
theorem dX7_hours_25 : decode cX7_hours 25 = .ok (.aload_n 0, 1) := by decide +kernel
theorem dX7_hours_26 : decode cX7_hours 26 = .ok (.getfield 62, 3) := by decide +kernel
theorem dX7_hours_29 : decode cX7_hours 29 = .ok (.if_icmp .ge 75, 3) := by decide +kernel
theorem dX7_hours_32 : decode cX7_hours 32 = .ok (.iload_n 3, 1) := by decide +kernel
theorem dX7_hours_33 : decode cX7_hours 33 = .ok (.aload_n 0, 1) := by decide +kernel
theorem dX7_hours_34 : decode cX7_hours 34 = .ok (.iload 4, 2) := by decide +kernel
theorem dX7_hours_36 : decode cX7_hours 36 = .ok (.invokevirtual 167, 3) := by decide +kernel
theorem dX7_hours_39 : decode cX7_hours 39 = .ok (.ifCond .ne 10, 3) := by decide +kernel
theorem dX7_hours_42 : decode cX7_hours 42 = .ok (.iconst 1, 1) := by decide +kernel
theorem dX7_hours_43 : decode cX7_hours 43 = .ok (.iload 4, 2) := by decide +kernel
theorem dX7_hours_45 : decode cX7_hours 45 = .ok (.ishl, 1) := by decide +kernel
theorem dX7_hours_46 : decode cX7_hours 46 = .ok (.goto 4, 3) := by decide +kernel
theorem dX7_hours_49 : decode cX7_hours 49 = .ok (.iconst 0, 1) := by decide +kernel
theorem dX7_hours_50 : decode cX7_hours 50 = .ok (.ior, 1) := by decide +kernel
theorem dX7_hours_51 : decode cX7_hours 51 = .ok (.istore_n 3, 1) := by decide +kernel
theorem dX7_hours_52 : decode cX7_hours 52 = .ok (.iconst 0, 1) := by decide +kernel
theorem dX7_hours_53 : decode cX7_hours 53 = .ok (.istore 5, 2) := by decide +kernel
theorem dX7_hours_55 : decode cX7_hours 55 = .ok (.iload 5, 2) := by decide +kernel
theorem dX7_hours_57 : decode cX7_hours 57 = .ok (.aload_n 0, 1) := by decide +kernel
theorem dX7_hours_58 : decode cX7_hours 58 = .ok (.getfield 65, 3) := by decide +kernel
theorem dX7_hours_61 : decode cX7_hours 61 = .ok (.if_icmp .ge 37, 3) := by decide +kernel
theorem dX7_hours_64 : decode cX7_hours 64 = .ok (.iload_n 2, 1) := by decide +kernel
theorem dX7_hours_65 : decode cX7_hours 65 = .ok (.aload_n 0, 1) := by decide +kernel
theorem dX7_hours_66 : decode cX7_hours 66 = .ok (.iload 5, 2) := by decide +kernel
theorem dX7_hours_68 : decode cX7_hours 68 = .ok (.iload 4, 2) := by decide +kernel
theorem dX7_hours_70 : decode cX7_hours 70 = .ok (.invokevirtual 157, 3) := by decide +kernel
theorem dX7_hours_73 : decode cX7_hours 73 = .ok (.ifCond .eq 16, 3) := by decide +kernel
theorem dX7_hours_76 : decode cX7_hours 76 = .ok (.iconst 1, 1) := by decide +kernel
theorem dX7_hours_77 : decode cX7_hours 77 = .ok (.aload_n 0, 1) := by decide +kernel
theorem dX7_hours_78 : decode cX7_hours 78 = .ok (.iload 5, 2) := by decide +kernel
theorem dX7_hours_80 : decode cX7_hours 80 = .ok (.iload 4, 2) := by decide +kernel
theorem dX7_hours_82 : decode cX7_hours 82 = .ok (.invokevirtual 160, 3) := by decide +kernel
theorem dX7_hours_85 : decode cX7_hours 85 = .ok (.ishl, 1) := by decide +kernel
theorem dX7_hours_86 : decode cX7_hours 86 = .ok (.goto 4, 3) := by decide +kernel
theorem dX7_hours_89 : decode cX7_hours 89 = .ok (.iconst 0, 1) := by decide +kernel
theorem dX7_hours_90 : decode cX7_hours 90 = .ok (.ior, 1) := by decide +kernel
theorem dX7_hours_91 : decode cX7_hours 91 = .ok (.istore_n 2, 1) := by decide +kernel
theorem dX7_hours_92 : decode cX7_hours 92 = .ok (.iinc 5 1, 3) := by decide +kernel
theorem dX7_hours_95 : decode cX7_hours 95 = .ok (.goto (-40), 3) := by decide +kernel
theorem dX7_hours_98 : decode cX7_hours 98 = .ok (.iinc 4 1, 3) := by decide +kernel
theorem dX7_hours_101 : decode cX7_hours 101 = .ok (.goto (-78), 3) := by decide +kernel
theorem dX7_hours_104 : decode cX7_hours 104 = .ok (.iload_n 1, 1) := by decide +kernel
theorem dX7_hours_105 : decode cX7_hours 105 = .ok (.ifCond .ne 7, 3) := by decide +kernel
theorem dX7_hours_108 : decode cX7_hours 108 = .ok (.iload_n 2, 1) := by decide +kernel
theorem dX7_hours_109 : decode cX7_hours 109 = .ok (.goto 4, 3) := by decide +kernel
theorem dX7_hours_112 : decode cX7_hours 112 = .ok (.iload_n 3, 1) := by decide +kernel
theorem dX7_hours_113 : decode cX7_hours 113 = .ok (.ireturn, 1) := by decide +kernel
set_option maxRecDepth 20000 in
theorem ggX7_bedsFor_X7_bound : GoodIn wsX7_bedsFor wsX7_bound := goodIn_r _ [5] (by decide +kernel) (by decide +kernel)
set_option maxRecDepth 20000 in
theorem gX7_bedsFor_X7_bound : GoodIn wsX7_bedsFor (va_wsS RX7 68 yX7_bound wsX7_bound) := goodIn_app (goodIn_of _ (by decide +kernel)) ggX7_bedsFor_X7_bound
set_option maxRecDepth 20000 in
theorem ggX7_bedsFor_X7_no : GoodIn wsX7_bedsFor wsX7_no := goodIn_r _ [9, 10, 79, 80, 81, 82, 83, 84, 85, 86, 87, 88, 89, 90, 91, 92, 93, 94, 95, 96, 97, 98, 99, 100, 101, 102, 103, 104] (by decide +kernel) (by decide +kernel)
set_option maxRecDepth 20000 in
theorem gX7_bedsFor_X7_no : GoodIn wsX7_bedsFor (wsV RX7 75 RX7 yX7_no wsX7_no) := goodIn_app (goodIn_of _ (by decide +kernel)) ggX7_bedsFor_X7_no
set_option maxRecDepth 20000 in
theorem ggX7_bedsFor_X7_allHeardIn : GoodIn wsX7_bedsFor wsX7_allHeardIn := goodIn_r _ [14, 15, 16, 17, 4, 18, 19, 20, 21, 22, 23, 24, 25, 26, 27, 28, 29, 30, 31, 32, 33, 1, 34, 35, 36, 37, 38, 39, 40, 41, 42, 43, 44, 45, 46, 47, 48, 49, 50, 51, 52, 53, 54, 55, 56, 57, 58, 59, 60, 61, 62, 63, 64, 65, 66, 67, 68, 69, 70, 71, 72, 73, 74, 75, 76, 77, 78, 79, 80, 81, 82, 83, 84, 85, 86, 87, 88, 89, 90, 91, 92, 93, 94, 95, 96, 97, 98, 99, 100, 101, 102, 103, 104] (by decide +kernel) (by decide +kernel)
set_option maxRecDepth 20000 in
theorem gX7_bedsFor_X7_allHeardIn : GoodIn wsX7_bedsFor (wsV RX7 234 RX7 yX7_allHeardIn wsX7_allHeardIn) := goodIn_app (goodIn_of _ (by decide +kernel)) ggX7_bedsFor_X7_allHeardIn
theorem dX7_bedsFor_0 : decode cX7_bedsFor 0 = .ok (.iload_n 1, 1) := by decide +kernel
theorem dX7_bedsFor_1 : decode cX7_bedsFor 1 = .ok (.iconst 0, 1) := by decide +kernel
theorem dX7_bedsFor_2 : decode cX7_bedsFor 2 = .ok (.bipush 40, 2) := by decide +kernel
theorem dX7_bedsFor_4 : decode cX7_bedsFor 4 = .ok (.invokestatic 68, 3) := by decide +kernel
theorem dX7_bedsFor_7 : decode cX7_bedsFor 7 = .ok (.istore_n 2, 1) := by decide +kernel
theorem dX7_bedsFor_8 : decode cX7_bedsFor 8 = .ok (.iload_n 2, 1) := by decide +kernel
theorem dX7_bedsFor_9 : decode cX7_bedsFor 9 = .ok (.ifCond .eq 9, 3) := by decide +kernel
theorem dX7_bedsFor_12 : decode cX7_bedsFor 12 = .ok (.aload_n 0, 1) := by decide +kernel
theorem dX7_bedsFor_13 : decode cX7_bedsFor 13 = .ok (.iload_n 2, 1) := by decide +kernel
theorem dX7_bedsFor_14 : decode cX7_bedsFor 14 = .ok (.invokevirtual 75, 3) := by decide +kernel
theorem dX7_bedsFor_17 : decode cX7_bedsFor 17 = .ok (.ireturn, 1) := by decide +kernel
theorem dX7_bedsFor_18 : decode cX7_bedsFor 18 = .ok (.aload_n 0, 1) := by decide +kernel
theorem dX7_bedsFor_19 : decode cX7_bedsFor 19 = .ok (.getfield 56, 3) := by decide +kernel
theorem dX7_bedsFor_22 : decode cX7_bedsFor 22 = .ok (.istore_n 3, 1) := by decide +kernel
theorem dX7_bedsFor_23 : decode cX7_bedsFor 23 = .ok (.bipush (-9), 2) := by decide +kernel
theorem dX7_bedsFor_25 : decode cX7_bedsFor 25 = .ok (.istore 4, 2) := by decide +kernel
theorem dX7_bedsFor_27 : decode cX7_bedsFor 27 = .ok (.iconst 1, 1) := by decide +kernel
theorem dX7_bedsFor_28 : decode cX7_bedsFor 28 = .ok (.istore 5, 2) := by decide +kernel
theorem dX7_bedsFor_30 : decode cX7_bedsFor 30 = .ok (.iload 5, 2) := by decide +kernel
theorem dX7_bedsFor_32 : decode cX7_bedsFor 32 = .ok (.bipush 9, 2) := by decide +kernel
theorem dX7_bedsFor_34 : decode cX7_bedsFor 34 = .ok (.if_icmp .ge 37, 3) := by decide +kernel
theorem dX7_bedsFor_37 : decode cX7_bedsFor 37 = .ok (.iload 4, 2) := by decide +kernel
theorem dX7_bedsFor_39 : decode cX7_bedsFor 39 = .ok (.ifCond .ge 32, 3) := by decide +kernel
theorem dX7_bedsFor_42 : decode cX7_bedsFor 42 = .ok (.aload_n 0, 1) := by decide +kernel
theorem dX7_bedsFor_43 : decode cX7_bedsFor 43 = .ok (.iload 5, 2) := by decide +kernel
theorem dX7_bedsFor_45 : decode cX7_bedsFor 45 = .ok (.putfield 56, 3) := by decide +kernel
theorem dX7_bedsFor_48 : decode cX7_bedsFor 48 = .ok (.aload_n 0, 1) := by decide +kernel
theorem dX7_bedsFor_49 : decode cX7_bedsFor 49 = .ok (.iload_n 1, 1) := by decide +kernel
theorem dX7_bedsFor_50 : decode cX7_bedsFor 50 = .ok (.invokevirtual 234, 3) := by decide +kernel
theorem dX7_bedsFor_53 : decode cX7_bedsFor 53 = .ok (.ifCond .eq 8, 3) := by decide +kernel
theorem dX7_bedsFor_56 : decode cX7_bedsFor 56 = .ok (.iload 5, 2) := by decide +kernel
theorem dX7_bedsFor_58 : decode cX7_bedsFor 58 = .ok (.goto 5, 3) := by decide +kernel
theorem dX7_bedsFor_61 : decode cX7_bedsFor 61 = .ok (.bipush (-9), 2) := by decide +kernel
theorem dX7_bedsFor_63 : decode cX7_bedsFor 63 = .ok (.istore 4, 2) := by decide +kernel
theorem dX7_bedsFor_65 : decode cX7_bedsFor 65 = .ok (.iinc 5 1, 3) := by decide +kernel
theorem dX7_bedsFor_68 : decode cX7_bedsFor 68 = .ok (.goto (-38), 3) := by decide +kernel
theorem dX7_bedsFor_71 : decode cX7_bedsFor 71 = .ok (.aload_n 0, 1) := by decide +kernel
theorem dX7_bedsFor_72 : decode cX7_bedsFor 72 = .ok (.iload_n 3, 1) := by decide +kernel
theorem dX7_bedsFor_73 : decode cX7_bedsFor 73 = .ok (.putfield 56, 3) := by decide +kernel
theorem dX7_bedsFor_76 : decode cX7_bedsFor 76 = .ok (.iload 4, 2) := by decide +kernel
theorem dX7_bedsFor_78 : decode cX7_bedsFor 78 = .ok (.ireturn, 1) := by decide +kernel
set_option maxRecDepth 20000 in
theorem ggX7_next_X7_isBell : GoodIn wsX7_next wsX7_isBell := goodIn_r _ [7, 8, 14, 15, 16, 17, 18, 19, 20, 21, 22, 23, 24, 25, 26, 27, 28, 29, 30, 31, 32, 33, 34, 35, 36, 37, 38, 39] (by decide +kernel) (by decide +kernel)
set_option maxRecDepth 20000 in
theorem gX7_next_X7_isBell : GoodIn wsX7_next (wsV RX7 187 RX7 yX7_isBell wsX7_isBell) := goodIn_app (goodIn_of _ (by decide +kernel)) ggX7_next_X7_isBell
set_option maxRecDepth 20000 in
theorem ggX7_next_X7_no : GoodIn wsX7_next wsX7_no := goodIn_r _ [12, 13, 14, 15, 16, 17, 18, 19, 20, 21, 22, 23, 24, 25, 26, 27, 28, 29, 30, 31, 32, 33, 34, 35, 36, 37, 38, 39] (by decide +kernel) (by decide +kernel)
set_option maxRecDepth 20000 in
theorem gX7_next_X7_no : GoodIn wsX7_next (wsV RX7 75 RX7 yX7_no wsX7_no) := goodIn_app (goodIn_of _ (by decide +kernel)) ggX7_next_X7_no
theorem dX7_next_0 : decode cX7_next 0 = .ok (.aload_n 0, 1) := by decide +kernel
theorem dX7_next_1 : decode cX7_next 1 = .ok (.iload_n 1, 1) := by decide +kernel
theorem dX7_next_2 : decode cX7_next 2 = .ok (.invokevirtual 187, 3) := by decide +kernel
theorem dX7_next_5 : decode cX7_next 5 = .ok (.ifCond .eq 24, 3) := by decide +kernel
theorem dX7_next_8 : decode cX7_next 8 = .ok (.aload_n 0, 1) := by decide +kernel
theorem dX7_next_9 : decode cX7_next 9 = .ok (.getfield 16, 3) := by decide +kernel
theorem dX7_next_12 : decode cX7_next 12 = .ok (.iload_n 1, 1) := by decide +kernel
theorem dX7_next_13 : decode cX7_next 13 = .ok (.iaload, 1) := by decide +kernel
theorem dX7_next_14 : decode cX7_next 14 = .ok (.aload_n 0, 1) := by decide +kernel
theorem dX7_next_15 : decode cX7_next 15 = .ok (.getfield 107, 3) := by decide +kernel
theorem dX7_next_18 : decode cX7_next 18 = .ok (.aload_n 0, 1) := by decide +kernel
theorem dX7_next_19 : decode cX7_next 19 = .ok (.getfield 16, 3) := by decide +kernel
theorem dX7_next_22 : decode cX7_next 22 = .ok (.iload_n 1, 1) := by decide +kernel
theorem dX7_next_23 : decode cX7_next 23 = .ok (.iaload, 1) := by decide +kernel
theorem dX7_next_24 : decode cX7_next 24 = .ok (.irem, 1) := by decide +kernel
theorem dX7_next_25 : decode cX7_next 25 = .ok (.isub, 1) := by decide +kernel
theorem dX7_next_26 : decode cX7_next 26 = .ok (.goto 8, 3) := by decide +kernel
theorem dX7_next_29 : decode cX7_next 29 = .ok (.aload_n 0, 1) := by decide +kernel
theorem dX7_next_30 : decode cX7_next 30 = .ok (.iconst (-1), 1) := by decide +kernel
theorem dX7_next_31 : decode cX7_next 31 = .ok (.invokevirtual 75, 3) := by decide +kernel
theorem dX7_next_34 : decode cX7_next 34 = .ok (.ireturn, 1) := by decide +kernel
theorem dX7_together_0 : decode cX7_together 0 = .ok (.iconst 1, 1) := by decide +kernel
theorem dX7_together_1 : decode cX7_together 1 = .ok (.istore_n 1, 1) := by decide +kernel
theorem dX7_together_2 : decode cX7_together 2 = .ok (.iload_n 1, 1) := by decide +kernel
theorem dX7_together_3 : decode cX7_together 3 = .ok (.bipush 99, 2) := by decide +kernel
theorem dX7_together_5 : decode cX7_together 5 = .ok (.if_icmp .gt 68, 3) := by decide +kernel
theorem dX7_together_8 : decode cX7_together 8 = .ok (.aload_n 0, 1) := by decide +kernel
theorem dX7_together_9 : decode cX7_together 9 = .ok (.getfield 62, 3) := by decide +kernel
theorem dX7_together_12 : decode cX7_together 12 = .ok (.ifCond .le 61, 3) := by decide +kernel
theorem dX7_together_15 : decode cX7_together 15 = .ok (.iconst 0, 1) := by decide +kernel
theorem dX7_together_16 : decode cX7_together 16 = .ok (.istore_n 2, 1) := by decide +kernel
theorem dX7_together_17 : decode cX7_together 17 = .ok (.iconst 0, 1) := by decide +kernel
theorem dX7_together_18 : decode cX7_together 18 = .ok (.istore_n 3, 1) := by decide +kernel
theorem dX7_together_19 : decode cX7_together 19 = .ok (.iload_n 3, 1) := by decide +kernel
theorem dX7_together_20 : decode cX7_together 20 = .ok (.aload_n 0, 1) := by decide +kernel
theorem dX7_together_21 : decode cX7_together 21 = .ok (.getfield 62, 3) := by decide +kernel
theorem dX7_together_24 : decode cX7_together 24 = .ok (.if_icmp .ge 33, 3) := by decide +kernel
theorem dX7_together_27 : decode cX7_together 27 = .ok (.iload_n 2, 1) := by decide +kernel
theorem dX7_together_28 : decode cX7_together 28 = .ok (.aload_n 0, 1) := by decide +kernel
theorem dX7_together_29 : decode cX7_together 29 = .ok (.getfield 107, 3) := by decide +kernel
theorem dX7_together_32 : decode cX7_together 32 = .ok (.iload_n 1, 1) := by decide +kernel
theorem dX7_together_33 : decode cX7_together 33 = .ok (.iadd, 1) := by decide +kernel
theorem dX7_together_34 : decode cX7_together 34 = .ok (.aload_n 0, 1) := by decide +kernel
theorem dX7_together_35 : decode cX7_together 35 = .ok (.getfield 16, 3) := by decide +kernel
theorem dX7_together_38 : decode cX7_together 38 = .ok (.iload_n 3, 1) := by decide +kernel
theorem dX7_together_39 : decode cX7_together 39 = .ok (.iaload, 1) := by decide +kernel
theorem dX7_together_40 : decode cX7_together 40 = .ok (.irem, 1) := by decide +kernel
theorem dX7_together_41 : decode cX7_together 41 = .ok (.ifCond .ne 7, 3) := by decide +kernel
theorem dX7_together_44 : decode cX7_together 44 = .ok (.iconst 1, 1) := by decide +kernel
theorem dX7_together_45 : decode cX7_together 45 = .ok (.goto 4, 3) := by decide +kernel
theorem dX7_together_48 : decode cX7_together 48 = .ok (.iconst 0, 1) := by decide +kernel
theorem dX7_together_49 : decode cX7_together 49 = .ok (.iadd, 1) := by decide +kernel
theorem dX7_together_50 : decode cX7_together 50 = .ok (.istore_n 2, 1) := by decide +kernel
theorem dX7_together_51 : decode cX7_together 51 = .ok (.iinc 3 1, 3) := by decide +kernel
theorem dX7_together_54 : decode cX7_together 54 = .ok (.goto (-35), 3) := by decide +kernel
theorem dX7_together_57 : decode cX7_together 57 = .ok (.iload_n 2, 1) := by decide +kernel
theorem dX7_together_58 : decode cX7_together 58 = .ok (.aload_n 0, 1) := by decide +kernel
theorem dX7_together_59 : decode cX7_together 59 = .ok (.getfield 62, 3) := by decide +kernel
theorem dX7_together_62 : decode cX7_together 62 = .ok (.if_icmp .ne 5, 3) := by decide +kernel
theorem dX7_together_65 : decode cX7_together 65 = .ok (.iload_n 1, 1) := by decide +kernel
theorem dX7_together_66 : decode cX7_together 66 = .ok (.ireturn, 1) := by decide +kernel
theorem dX7_together_67 : decode cX7_together 67 = .ok (.iinc 1 1, 3) := by decide +kernel
theorem dX7_together_70 : decode cX7_together 70 = .ok (.goto (-68), 3) := by decide +kernel
theorem dX7_together_73 : decode cX7_together 73 = .ok (.bipush (-9), 2) := by decide +kernel
theorem dX7_together_75 : decode cX7_together 75 = .ok (.ireturn, 1) := by decide +kernel
set_option maxRecDepth 20000 in
theorem ggX7_hearsIn_X7_thinks : GoodIn wsX7_hearsIn wsX7_thinks := goodIn_r _ [5, 6, 7, 8, 4, 9, 10, 11, 12, 13, 14, 15, 16, 17, 18, 19, 20, 21, 22, 23, 24, 25, 26, 27, 28, 29, 30, 55, 56, 57, 58, 59, 60, 61, 62, 63, 64, 65, 66, 67, 68, 69, 70, 71, 72, 73, 74, 75, 76, 77, 78, 79, 80] (by decide +kernel) (by decide +kernel)
set_option maxRecDepth 20000 in
theorem gX7_hearsIn_X7_thinks : GoodIn wsX7_hearsIn (wsV RX7 200 RX7 yX7_thinks wsX7_thinks) := goodIn_app (goodIn_of _ (by decide +kernel)) ggX7_hearsIn_X7_thinks
set_option maxRecDepth 20000 in
theorem ggX7_hearsIn_X7_goesDay : GoodIn wsX7_hearsIn wsX7_goesDay := goodIn_r _ [34, 20, 19, 17, 35, 36, 37, 4, 38, 16, 21, 39, 40, 41, 55, 56, 57, 58, 59, 60, 61, 62, 63, 64, 65, 66, 67, 68, 69, 70, 71, 72, 73, 74, 75, 76, 77, 78, 79, 80] (by decide +kernel) (by decide +kernel)
set_option maxRecDepth 20000 in
theorem gX7_hearsIn_X7_goesDay : GoodIn wsX7_hearsIn (wsV RX7 183 RX7 yX7_goesDay wsX7_goesDay) := goodIn_app (goodIn_of _ (by decide +kernel)) ggX7_hearsIn_X7_goesDay
set_option maxRecDepth 20000 in
theorem ggX7_hearsIn_X7_hears : GoodIn wsX7_hearsIn wsX7_hears := goodIn_r _ [45, 46, 17, 16, 14, 12, 47, 48, 49, 4, 50, 15, 55, 56, 57, 58, 59, 60, 61, 62, 63, 64, 65, 66, 67, 68, 69, 70, 71, 72, 73, 74, 75, 76, 77, 78, 79, 80] (by decide +kernel) (by decide +kernel)
set_option maxRecDepth 20000 in
theorem gX7_hearsIn_X7_hears : GoodIn wsX7_hearsIn (wsV RX7 157 RX7 yX7_hears wsX7_hears) := goodIn_app (goodIn_of _ (by decide +kernel)) ggX7_hearsIn_X7_hears
set_option maxRecDepth 20000 in
theorem ggX7_hearsIn_X7_forgets : GoodIn wsX7_hearsIn wsX7_forgets := goodIn_r _ [54, 6, 7, 8, 4, 9, 10, 11, 12, 13, 14, 15, 16, 17, 18, 19, 20, 21, 22, 23, 24, 25, 26, 27, 28, 29, 30, 55, 56, 57, 58, 59, 60, 61, 62, 63, 64, 65, 66, 67, 68, 69, 70, 71, 72, 73, 74, 75, 76, 77, 78, 79, 80] (by decide +kernel) (by decide +kernel)
set_option maxRecDepth 20000 in
theorem gX7_hearsIn_X7_forgets : GoodIn wsX7_hearsIn (wsV RX7 203 RX7 yX7_forgets wsX7_forgets) := goodIn_app (goodIn_of _ (by decide +kernel)) ggX7_hearsIn_X7_forgets
theorem dX7_hearsIn_0 : decode cX7_hearsIn 0 = .ok (.aload_n 0, 1) := by decide +kernel
theorem dX7_hearsIn_1 : decode cX7_hearsIn 1 = .ok (.invokevirtual 200, 3) := by decide +kernel
theorem dX7_hearsIn_4 : decode cX7_hearsIn 4 = .ok (.iconst 0, 1) := by decide +kernel
theorem dX7_hearsIn_5 : decode cX7_hearsIn 5 = .ok (.istore_n 3, 1) := by decide +kernel
theorem dX7_hearsIn_6 : decode cX7_hearsIn 6 = .ok (.iconst 0, 1) := by decide +kernel
theorem dX7_hearsIn_7 : decode cX7_hearsIn 7 = .ok (.istore 4, 2) := by decide +kernel
theorem dX7_hearsIn_9 : decode cX7_hearsIn 9 = .ok (.iload 4, 2) := by decide +kernel
theorem dX7_hearsIn_11 : decode cX7_hearsIn 11 = .ok (.bipush 20, 2) := by decide +kernel
theorem dX7_hearsIn_13 : decode cX7_hearsIn 13 = .ok (.if_icmp .ge 31, 3) := by decide +kernel
theorem dX7_hearsIn_16 : decode cX7_hearsIn 16 = .ok (.aload_n 0, 1) := by decide +kernel
theorem dX7_hearsIn_17 : decode cX7_hearsIn 17 = .ok (.iconst 0, 1) := by decide +kernel
theorem dX7_hearsIn_18 : decode cX7_hearsIn 18 = .ok (.invokevirtual 183, 3) := by decide +kernel
theorem dX7_hearsIn_21 : decode cX7_hearsIn 21 = .ok (.iload_n 3, 1) := by decide +kernel
theorem dX7_hearsIn_22 : decode cX7_hearsIn 22 = .ok (.aload_n 0, 1) := by decide +kernel
theorem dX7_hearsIn_23 : decode cX7_hearsIn 23 = .ok (.iload_n 1, 1) := by decide +kernel
theorem dX7_hearsIn_24 : decode cX7_hearsIn 24 = .ok (.iload_n 2, 1) := by decide +kernel
theorem dX7_hearsIn_25 : decode cX7_hearsIn 25 = .ok (.invokevirtual 157, 3) := by decide +kernel
theorem dX7_hearsIn_28 : decode cX7_hearsIn 28 = .ok (.ifCond .eq 7, 3) := by decide +kernel
theorem dX7_hearsIn_31 : decode cX7_hearsIn 31 = .ok (.iconst 1, 1) := by decide +kernel
theorem dX7_hearsIn_32 : decode cX7_hearsIn 32 = .ok (.goto 4, 3) := by decide +kernel
theorem dX7_hearsIn_35 : decode cX7_hearsIn 35 = .ok (.iconst 0, 1) := by decide +kernel
theorem dX7_hearsIn_36 : decode cX7_hearsIn 36 = .ok (.iadd, 1) := by decide +kernel
theorem dX7_hearsIn_37 : decode cX7_hearsIn 37 = .ok (.istore_n 3, 1) := by decide +kernel
theorem dX7_hearsIn_38 : decode cX7_hearsIn 38 = .ok (.iinc 4 1, 3) := by decide +kernel
theorem dX7_hearsIn_41 : decode cX7_hearsIn 41 = .ok (.goto (-32), 3) := by decide +kernel
theorem dX7_hearsIn_44 : decode cX7_hearsIn 44 = .ok (.aload_n 0, 1) := by decide +kernel
theorem dX7_hearsIn_45 : decode cX7_hearsIn 45 = .ok (.invokevirtual 203, 3) := by decide +kernel
theorem dX7_hearsIn_48 : decode cX7_hearsIn 48 = .ok (.iload_n 3, 1) := by decide +kernel
theorem dX7_hearsIn_49 : decode cX7_hearsIn 49 = .ok (.ireturn, 1) := by decide +kernel
set_option maxRecDepth 20000 in
theorem ggX7_cost_X7_isOne : GoodIn wsX7_cost wsX7_isOne := goodIn_r _ [6, 7, 76, 77, 78, 79, 80, 81, 82, 83, 84, 85, 86, 87, 88, 89, 90, 91, 92, 93, 94, 95, 96, 97, 98, 99, 100, 101] (by decide +kernel) (by decide +kernel)
set_option maxRecDepth 20000 in
theorem gX7_cost_X7_isOne : GoodIn wsX7_cost (wsV RX7 120 RX7 yX7_isOne wsX7_isOne) := goodIn_app (goodIn_of _ (by decide +kernel)) ggX7_cost_X7_isOne
set_option maxRecDepth 20000 in
theorem ggX7_cost_X7_isBell : GoodIn wsX7_cost wsX7_isBell := goodIn_r _ [11, 12, 76, 77, 78, 79, 80, 81, 82, 83, 84, 85, 86, 87, 88, 89, 90, 91, 92, 93, 94, 95, 96, 97, 98, 99, 100, 101] (by decide +kernel) (by decide +kernel)
set_option maxRecDepth 20000 in
theorem gX7_cost_X7_isBell : GoodIn wsX7_cost (wsV RX7 187 RX7 yX7_isBell wsX7_isBell) := goodIn_app (goodIn_of _ (by decide +kernel)) ggX7_cost_X7_isBell
set_option maxRecDepth 20000 in
theorem ggX7_cost_X7_bound : GoodIn wsX7_cost wsX7_bound := goodIn_r _ [15] (by decide +kernel) (by decide +kernel)
set_option maxRecDepth 20000 in
theorem gX7_cost_X7_bound : GoodIn wsX7_cost (va_wsS RX7 68 yX7_bound wsX7_bound) := goodIn_app (goodIn_of _ (by decide +kernel)) ggX7_cost_X7_bound
set_option maxRecDepth 20000 in
theorem ggX7_cost_X7_lower : GoodIn wsX7_cost wsX7_lower := goodIn_r _ [19, 20, 21, 76, 77, 78, 79, 80, 81, 82, 83, 84, 85, 86, 87, 88, 89, 90, 91, 92, 93, 94, 95, 96, 97, 98, 99, 100, 101] (by decide +kernel) (by decide +kernel)
set_option maxRecDepth 20000 in
theorem gX7_cost_X7_lower : GoodIn wsX7_cost (wsV RX7 264 RX7 yX7_lower wsX7_lower) := goodIn_app (goodIn_of _ (by decide +kernel)) ggX7_cost_X7_lower
set_option maxRecDepth 20000 in
theorem ggX7_cost_X7_hearsIn : GoodIn wsX7_cost wsX7_hearsIn := goodIn_r _ [25, 26, 27, 28, 5, 29, 30, 31, 32, 33, 34, 35, 36, 37, 38, 39, 40, 1, 12, 7, 41, 42, 43, 44, 45, 46, 47, 48, 49, 50, 51, 52, 53, 54, 55, 56, 57, 58, 59, 60, 61, 62, 63, 64, 65, 66, 67, 68, 69, 70, 71, 72, 73, 74, 75, 76, 77, 78, 79, 80, 81, 82, 83, 84, 85, 86, 87, 88, 89, 90, 91, 92, 93, 94, 95, 96, 97, 98, 99, 100, 101] (by decide +kernel) (by decide +kernel)
set_option maxRecDepth 20000 in
theorem gX7_cost_X7_hearsIn : GoodIn wsX7_cost (wsV RX7 267 RX7 yX7_hearsIn wsX7_hearsIn) := goodIn_app (goodIn_of _ (by decide +kernel)) ggX7_cost_X7_hearsIn
theorem dX7_cost_0 : decode cX7_cost 0 = .ok (.aload_n 0, 1) := by decide +kernel
theorem dX7_cost_1 : decode cX7_cost 1 = .ok (.iload_n 1, 1) := by decide +kernel
theorem dX7_cost_2 : decode cX7_cost 2 = .ok (.invokevirtual 120, 3) := by decide +kernel
theorem dX7_cost_5 : decode cX7_cost 5 = .ok (.ifCond .eq 11, 3) := by decide +kernel
theorem dX7_cost_8 : decode cX7_cost 8 = .ok (.aload_n 0, 1) := by decide +kernel
theorem dX7_cost_9 : decode cX7_cost 9 = .ok (.iload_n 3, 1) := by decide +kernel
theorem dX7_cost_10 : decode cX7_cost 10 = .ok (.invokevirtual 187, 3) := by decide +kernel
theorem dX7_cost_13 : decode cX7_cost 13 = .ok (.ifCond .ne 7, 3) := by decide +kernel
theorem dX7_cost_16 : decode cX7_cost 16 = .ok (.iconst (-1), 1) := by decide +kernel
theorem dX7_cost_17 : decode cX7_cost 17 = .ok (.goto 10, 3) := by decide +kernel
theorem dX7_cost_20 : decode cX7_cost 20 = .ok (.iload_n 2, 1) := by decide +kernel
theorem dX7_cost_21 : decode cX7_cost 21 = .ok (.iconst 1, 1) := by decide +kernel
theorem dX7_cost_22 : decode cX7_cost 22 = .ok (.bipush 9, 2) := by decide +kernel
theorem dX7_cost_24 : decode cX7_cost 24 = .ok (.invokestatic 68, 3) := by decide +kernel
theorem dX7_cost_27 : decode cX7_cost 27 = .ok (.istore 4, 2) := by decide +kernel
theorem dX7_cost_29 : decode cX7_cost 29 = .ok (.iload 4, 2) := by decide +kernel
theorem dX7_cost_31 : decode cX7_cost 31 = .ok (.ifCond .eq 10, 3) := by decide +kernel
theorem dX7_cost_34 : decode cX7_cost 34 = .ok (.aload_n 0, 1) := by decide +kernel
theorem dX7_cost_35 : decode cX7_cost 35 = .ok (.iload 4, 2) := by decide +kernel
theorem dX7_cost_37 : decode cX7_cost 37 = .ok (.invokevirtual 264, 3) := by decide +kernel
theorem dX7_cost_40 : decode cX7_cost 40 = .ok (.ireturn, 1) := by decide +kernel
theorem dX7_cost_41 : decode cX7_cost 41 = .ok (.aload_n 0, 1) := by decide +kernel
theorem dX7_cost_42 : decode cX7_cost 42 = .ok (.iload_n 1, 1) := by decide +kernel
theorem dX7_cost_43 : decode cX7_cost 43 = .ok (.iload_n 3, 1) := by decide +kernel
theorem dX7_cost_44 : decode cX7_cost 44 = .ok (.invokevirtual 267, 3) := by decide +kernel
theorem dX7_cost_47 : decode cX7_cost 47 = .ok (.istore 5, 2) := by decide +kernel
theorem dX7_cost_49 : decode cX7_cost 49 = .ok (.aload_n 0, 1) := by decide +kernel
theorem dX7_cost_50 : decode cX7_cost 50 = .ok (.getfield 28, 3) := by decide +kernel
theorem dX7_cost_53 : decode cX7_cost 53 = .ok (.iload_n 1, 1) := by decide +kernel
theorem dX7_cost_54 : decode cX7_cost 54 = .ok (.iaload, 1) := by decide +kernel
theorem dX7_cost_55 : decode cX7_cost 55 = .ok (.istore 6, 2) := by decide +kernel
theorem dX7_cost_57 : decode cX7_cost 57 = .ok (.aload_n 0, 1) := by decide +kernel
theorem dX7_cost_58 : decode cX7_cost 58 = .ok (.getfield 28, 3) := by decide +kernel
theorem dX7_cost_61 : decode cX7_cost 61 = .ok (.iload_n 1, 1) := by decide +kernel
theorem dX7_cost_62 : decode cX7_cost 62 = .ok (.iload_n 2, 1) := by decide +kernel
theorem dX7_cost_63 : decode cX7_cost 63 = .ok (.iastore, 1) := by decide +kernel
theorem dX7_cost_64 : decode cX7_cost 64 = .ok (.aload_n 0, 1) := by decide +kernel
theorem dX7_cost_65 : decode cX7_cost 65 = .ok (.iload_n 1, 1) := by decide +kernel
