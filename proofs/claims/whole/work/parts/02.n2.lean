theorem dX4_hearersOfSome_12 : decode cX4_hearersOfSome 12 = .ok (.aload_n 0, 1) := by decide +kernel
theorem dX4_hearersOfSome_13 : decode cX4_hearersOfSome 13 = .ok (.iload_n 2, 1) := by decide +kernel
theorem dX4_hearersOfSome_14 : decode cX4_hearersOfSome 14 = .ok (.invokevirtual 76, 3) := by decide +kernel
theorem dX4_hearersOfSome_17 : decode cX4_hearersOfSome 17 = .ok (.ifCond .eq 9, 3) := by decide +kernel
theorem dX4_hearersOfSome_20 : decode cX4_hearersOfSome 20 = .ok (.iload_n 1, 1) := by decide +kernel
theorem dX4_hearersOfSome_21 : decode cX4_hearersOfSome 21 = .ok (.iconst 1, 1) := by decide +kernel
theorem dX4_hearersOfSome_22 : decode cX4_hearersOfSome 22 = .ok (.iload_n 2, 1) := by decide +kernel
theorem dX4_hearersOfSome_23 : decode cX4_hearersOfSome 23 = .ok (.ishl, 1) := by decide +kernel
theorem dX4_hearersOfSome_24 : decode cX4_hearersOfSome 24 = .ok (.ior, 1) := by decide +kernel
theorem dX4_hearersOfSome_25 : decode cX4_hearersOfSome 25 = .ok (.istore_n 1, 1) := by decide +kernel
theorem dX4_hearersOfSome_26 : decode cX4_hearersOfSome 26 = .ok (.iinc 2 1, 3) := by decide +kernel
theorem dX4_hearersOfSome_29 : decode cX4_hearersOfSome 29 = .ok (.goto (-25), 3) := by decide +kernel
theorem dX4_hearersOfSome_32 : decode cX4_hearersOfSome 32 = .ok (.iload_n 1, 1) := by decide +kernel
theorem dX4_hearersOfSome_33 : decode cX4_hearersOfSome 33 = .ok (.ireturn, 1) := by decide +kernel
set_option maxRecDepth 20000 in
theorem ggX4_hearersOf_X4_hearsIt : GoodIn wsX4_hearersOf wsX4_hearsIt := goodIn_r _ [6, 7, 8, 9, 10, 11, 12, 13, 5, 14, 15, 16, 17, 18, 19, 20, 21, 22, 23, 24, 25] (by decide +kernel) (by decide +kernel)
set_option maxRecDepth 20000 in
theorem gX4_hearersOf_X4_hearsIt : GoodIn wsX4_hearersOf (wsV RX4 72 RX4 yX4_hearsIt wsX4_hearsIt) := goodIn_app (goodIn_of _ (by decide +kernel)) ggX4_hearersOf_X4_hearsIt
theorem dX4_hearersOf_0 : decode cX4_hearersOf 0 = .ok (.iconst 0, 1) := by decide +kernel
theorem dX4_hearersOf_1 : decode cX4_hearersOf 1 = .ok (.istore_n 2, 1) := by decide +kernel
theorem dX4_hearersOf_2 : decode cX4_hearersOf 2 = .ok (.iconst 0, 1) := by decide +kernel
theorem dX4_hearersOf_3 : decode cX4_hearersOf 3 = .ok (.istore_n 3, 1) := by decide +kernel
theorem dX4_hearersOf_4 : decode cX4_hearersOf 4 = .ok (.iload_n 3, 1) := by decide +kernel
theorem dX4_hearersOf_5 : decode cX4_hearersOf 5 = .ok (.aload_n 0, 1) := by decide +kernel
theorem dX4_hearersOf_6 : decode cX4_hearersOf 6 = .ok (.getfield 43, 3) := by decide +kernel
theorem dX4_hearersOf_9 : decode cX4_hearersOf 9 = .ok (.if_icmp .ge 24, 3) := by decide +kernel
theorem dX4_hearersOf_12 : decode cX4_hearersOf 12 = .ok (.aload_n 0, 1) := by decide +kernel
theorem dX4_hearersOf_13 : decode cX4_hearersOf 13 = .ok (.iload_n 3, 1) := by decide +kernel
theorem dX4_hearersOf_14 : decode cX4_hearersOf 14 = .ok (.iload_n 1, 1) := by decide +kernel
theorem dX4_hearersOf_15 : decode cX4_hearersOf 15 = .ok (.invokevirtual 72, 3) := by decide +kernel
theorem dX4_hearersOf_18 : decode cX4_hearersOf 18 = .ok (.ifCond .eq 9, 3) := by decide +kernel
theorem dX4_hearersOf_21 : decode cX4_hearersOf 21 = .ok (.iload_n 2, 1) := by decide +kernel
theorem dX4_hearersOf_22 : decode cX4_hearersOf 22 = .ok (.iconst 1, 1) := by decide +kernel
theorem dX4_hearersOf_23 : decode cX4_hearersOf 23 = .ok (.iload_n 3, 1) := by decide +kernel
theorem dX4_hearersOf_24 : decode cX4_hearersOf 24 = .ok (.ishl, 1) := by decide +kernel
theorem dX4_hearersOf_25 : decode cX4_hearersOf 25 = .ok (.ior, 1) := by decide +kernel
theorem dX4_hearersOf_26 : decode cX4_hearersOf 26 = .ok (.istore_n 2, 1) := by decide +kernel
theorem dX4_hearersOf_27 : decode cX4_hearersOf 27 = .ok (.iinc 3 1, 3) := by decide +kernel
theorem dX4_hearersOf_30 : decode cX4_hearersOf 30 = .ok (.goto (-26), 3) := by decide +kernel
theorem dX4_hearersOf_33 : decode cX4_hearersOf 33 = .ok (.iload_n 2, 1) := by decide +kernel
theorem dX4_hearersOf_34 : decode cX4_hearersOf 34 = .ok (.ireturn, 1) := by decide +kernel
set_option maxRecDepth 20000 in
theorem ggX4_silentBells_X4_hearersOf : GoodIn wsX4_silentBells wsX4_hearersOf := goodIn_r _ [6, 7, 8, 9, 10, 5, 11, 12, 13, 14, 15, 16, 17, 18, 19, 20, 21, 22, 23, 24, 25, 26, 27, 28, 29, 30] (by decide +kernel) (by decide +kernel)
set_option maxRecDepth 20000 in
theorem gX4_silentBells_X4_hearersOf : GoodIn wsX4_silentBells (wsV RX4 80 RX4 yX4_hearersOf wsX4_hearersOf) := goodIn_app (goodIn_of _ (by decide +kernel)) ggX4_silentBells_X4_hearersOf
theorem dX4_silentBells_0 : decode cX4_silentBells 0 = .ok (.iconst 0, 1) := by decide +kernel
theorem dX4_silentBells_1 : decode cX4_silentBells 1 = .ok (.istore_n 1, 1) := by decide +kernel
theorem dX4_silentBells_2 : decode cX4_silentBells 2 = .ok (.iconst 0, 1) := by decide +kernel
theorem dX4_silentBells_3 : decode cX4_silentBells 3 = .ok (.istore_n 2, 1) := by decide +kernel
theorem dX4_silentBells_4 : decode cX4_silentBells 4 = .ok (.iload_n 2, 1) := by decide +kernel
theorem dX4_silentBells_5 : decode cX4_silentBells 5 = .ok (.aload_n 0, 1) := by decide +kernel
theorem dX4_silentBells_6 : decode cX4_silentBells 6 = .ok (.getfield 34, 3) := by decide +kernel
theorem dX4_silentBells_9 : decode cX4_silentBells 9 = .ok (.if_icmp .ge 23, 3) := by decide +kernel
theorem dX4_silentBells_12 : decode cX4_silentBells 12 = .ok (.aload_n 0, 1) := by decide +kernel
theorem dX4_silentBells_13 : decode cX4_silentBells 13 = .ok (.iload_n 2, 1) := by decide +kernel
theorem dX4_silentBells_14 : decode cX4_silentBells 14 = .ok (.invokevirtual 80, 3) := by decide +kernel
theorem dX4_silentBells_17 : decode cX4_silentBells 17 = .ok (.ifCond .ne 9, 3) := by decide +kernel
theorem dX4_silentBells_20 : decode cX4_silentBells 20 = .ok (.iload_n 1, 1) := by decide +kernel
theorem dX4_silentBells_21 : decode cX4_silentBells 21 = .ok (.iconst 1, 1) := by decide +kernel
theorem dX4_silentBells_22 : decode cX4_silentBells 22 = .ok (.iload_n 2, 1) := by decide +kernel
theorem dX4_silentBells_23 : decode cX4_silentBells 23 = .ok (.ishl, 1) := by decide +kernel
theorem dX4_silentBells_24 : decode cX4_silentBells 24 = .ok (.ior, 1) := by decide +kernel
theorem dX4_silentBells_25 : decode cX4_silentBells 25 = .ok (.istore_n 1, 1) := by decide +kernel
theorem dX4_silentBells_26 : decode cX4_silentBells 26 = .ok (.iinc 2 1, 3) := by decide +kernel
theorem dX4_silentBells_29 : decode cX4_silentBells 29 = .ok (.goto (-25), 3) := by decide +kernel
theorem dX4_silentBells_32 : decode cX4_silentBells 32 = .ok (.iload_n 1, 1) := by decide +kernel
theorem dX4_silentBells_33 : decode cX4_silentBells 33 = .ok (.ireturn, 1) := by decide +kernel
set_option maxRecDepth 20000 in
theorem ggX4_saidOf_X4_hoursLater : GoodIn wsX4_saidOf wsX4_hoursLater := goodIn_r _ [7, 8, 9, 10, 11, 12, 13, 14, 15, 16, 17, 18, 19] (by decide +kernel) (by decide +kernel)
set_option maxRecDepth 20000 in
theorem gX4_saidOf_X4_hoursLater : GoodIn wsX4_saidOf (wsV RX4 69 RX4 yX4_hoursLater wsX4_hoursLater) := goodIn_app (goodIn_of _ (by decide +kernel)) ggX4_saidOf_X4_hoursLater
theorem dX4_saidOf_0 : decode cX4_saidOf 0 = .ok (.lconst 0, 1) := by decide +kernel
theorem dX4_saidOf_1 : decode cX4_saidOf 1 = .ok (.lstore_n 3, 1) := by decide +kernel
theorem dX4_saidOf_2 : decode cX4_saidOf 2 = .ok (.iconst 0, 1) := by decide +kernel
theorem dX4_saidOf_3 : decode cX4_saidOf 3 = .ok (.istore 5, 2) := by decide +kernel
theorem dX4_saidOf_5 : decode cX4_saidOf 5 = .ok (.iload 5, 2) := by decide +kernel
theorem dX4_saidOf_7 : decode cX4_saidOf 7 = .ok (.aload_n 0, 1) := by decide +kernel
theorem dX4_saidOf_8 : decode cX4_saidOf 8 = .ok (.getfield 43, 3) := by decide +kernel
theorem dX4_saidOf_11 : decode cX4_saidOf 11 = .ok (.if_icmp .ge 31, 3) := by decide +kernel
theorem dX4_saidOf_14 : decode cX4_saidOf 14 = .ok (.iload_n 2, 1) := by decide +kernel
theorem dX4_saidOf_15 : decode cX4_saidOf 15 = .ok (.iload 5, 2) := by decide +kernel
theorem dX4_saidOf_17 : decode cX4_saidOf 17 = .ok (.ishr, 1) := by decide +kernel
theorem dX4_saidOf_18 : decode cX4_saidOf 18 = .ok (.iconst 1, 1) := by decide +kernel
theorem dX4_saidOf_19 : decode cX4_saidOf 19 = .ok (.iand, 1) := by decide +kernel
theorem dX4_saidOf_20 : decode cX4_saidOf 20 = .ok (.ifCond .eq 16, 3) := by decide +kernel
theorem dX4_saidOf_23 : decode cX4_saidOf 23 = .ok (.lload_n 3, 1) := by decide +kernel
theorem dX4_saidOf_24 : decode cX4_saidOf 24 = .ok (.lconst 1, 1) := by decide +kernel
theorem dX4_saidOf_25 : decode cX4_saidOf 25 = .ok (.iconst 4, 1) := by decide +kernel
theorem dX4_saidOf_26 : decode cX4_saidOf 26 = .ok (.aload_n 0, 1) := by decide +kernel
theorem dX4_saidOf_27 : decode cX4_saidOf 27 = .ok (.iload 5, 2) := by decide +kernel
theorem dX4_saidOf_29 : decode cX4_saidOf 29 = .ok (.invokevirtual 69, 3) := by decide +kernel
theorem dX4_saidOf_32 : decode cX4_saidOf 32 = .ok (.imul, 1) := by decide +kernel
theorem dX4_saidOf_33 : decode cX4_saidOf 33 = .ok (.lshl, 1) := by decide +kernel
theorem dX4_saidOf_34 : decode cX4_saidOf 34 = .ok (.ladd, 1) := by decide +kernel
theorem dX4_saidOf_35 : decode cX4_saidOf 35 = .ok (.lstore_n 3, 1) := by decide +kernel
theorem dX4_saidOf_36 : decode cX4_saidOf 36 = .ok (.iinc 5 1, 3) := by decide +kernel
theorem dX4_saidOf_39 : decode cX4_saidOf 39 = .ok (.goto (-34), 3) := by decide +kernel
theorem dX4_saidOf_42 : decode cX4_saidOf 42 = .ok (.bipush (-9), 2) := by decide +kernel
theorem dX4_saidOf_44 : decode cX4_saidOf 44 = .ok (.istore 5, 2) := by decide +kernel
theorem dX4_saidOf_46 : decode cX4_saidOf 46 = .ok (.iconst 0, 1) := by decide +kernel
theorem dX4_saidOf_47 : decode cX4_saidOf 47 = .ok (.istore 6, 2) := by decide +kernel
theorem dX4_saidOf_49 : decode cX4_saidOf 49 = .ok (.iconst 0, 1) := by decide +kernel
theorem dX4_saidOf_50 : decode cX4_saidOf 50 = .ok (.istore 7, 2) := by decide +kernel
theorem dX4_saidOf_52 : decode cX4_saidOf 52 = .ok (.iload 7, 2) := by decide +kernel
theorem dX4_saidOf_54 : decode cX4_saidOf 54 = .ok (.bipush 9, 2) := by decide +kernel
theorem dX4_saidOf_56 : decode cX4_saidOf 56 = .ok (.if_icmp .gt 64, 3) := by decide +kernel
theorem dX4_saidOf_59 : decode cX4_saidOf 59 = .ok (.lload_n 3, 1) := by decide +kernel
theorem dX4_saidOf_60 : decode cX4_saidOf 60 = .ok (.iconst 4, 1) := by decide +kernel
theorem dX4_saidOf_61 : decode cX4_saidOf 61 = .ok (.iload 7, 2) := by decide +kernel
theorem dX4_saidOf_63 : decode cX4_saidOf 63 = .ok (.imul, 1) := by decide +kernel
theorem dX4_saidOf_64 : decode cX4_saidOf 64 = .ok (.lshr, 1) := by decide +kernel
theorem dX4_saidOf_65 : decode cX4_saidOf 65 = .ok (.l2i, 1) := by decide +kernel
theorem dX4_saidOf_66 : decode cX4_saidOf 66 = .ok (.bipush 15, 2) := by decide +kernel
theorem dX4_saidOf_68 : decode cX4_saidOf 68 = .ok (.iand, 1) := by decide +kernel
theorem dX4_saidOf_69 : decode cX4_saidOf 69 = .ok (.istore 8, 2) := by decide +kernel
theorem dX4_saidOf_71 : decode cX4_saidOf 71 = .ok (.aload_n 0, 1) := by decide +kernel
theorem dX4_saidOf_72 : decode cX4_saidOf 72 = .ok (.getfield 9, 3) := by decide +kernel
theorem dX4_saidOf_75 : decode cX4_saidOf 75 = .ok (.iload_n 1, 1) := by decide +kernel
theorem dX4_saidOf_76 : decode cX4_saidOf 76 = .ok (.iaload, 1) := by decide +kernel
theorem dX4_saidOf_77 : decode cX4_saidOf 77 = .ok (.iload 7, 2) := by decide +kernel
theorem dX4_saidOf_79 : decode cX4_saidOf 79 = .ok (.iadd, 1) := by decide +kernel
theorem dX4_saidOf_80 : decode cX4_saidOf 80 = .ok (.bipush 24, 2) := by decide +kernel
theorem dX4_saidOf_82 : decode cX4_saidOf 82 = .ok (.irem, 1) := by decide +kernel
theorem dX4_saidOf_83 : decode cX4_saidOf 83 = .ok (.istore 9, 2) := by decide +kernel
theorem dX4_saidOf_85 : decode cX4_saidOf 85 = .ok (.iload 8, 2) := by decide +kernel
theorem dX4_saidOf_87 : decode cX4_saidOf 87 = .ok (.iload 6, 2) := by decide +kernel
theorem dX4_saidOf_89 : decode cX4_saidOf 89 = .ok (.if_icmp .gt 17, 3) := by decide +kernel
theorem dX4_saidOf_92 : decode cX4_saidOf 92 = .ok (.iload 8, 2) := by decide +kernel
theorem dX4_saidOf_94 : decode cX4_saidOf 94 = .ok (.iload 6, 2) := by decide +kernel
theorem dX4_saidOf_96 : decode cX4_saidOf 96 = .ok (.if_icmp .ne 18, 3) := by decide +kernel
theorem dX4_saidOf_99 : decode cX4_saidOf 99 = .ok (.iload 9, 2) := by decide +kernel
theorem dX4_saidOf_101 : decode cX4_saidOf 101 = .ok (.iload 5, 2) := by decide +kernel
theorem dX4_saidOf_103 : decode cX4_saidOf 103 = .ok (.if_icmp .ge 11, 3) := by decide +kernel
theorem dX4_saidOf_106 : decode cX4_saidOf 106 = .ok (.iload 8, 2) := by decide +kernel
theorem dX4_saidOf_108 : decode cX4_saidOf 108 = .ok (.istore 6, 2) := by decide +kernel
theorem dX4_saidOf_110 : decode cX4_saidOf 110 = .ok (.iload 9, 2) := by decide +kernel
theorem dX4_saidOf_112 : decode cX4_saidOf 112 = .ok (.istore 5, 2) := by decide +kernel
theorem dX4_saidOf_114 : decode cX4_saidOf 114 = .ok (.iinc 7 1, 3) := by decide +kernel
theorem dX4_saidOf_117 : decode cX4_saidOf 117 = .ok (.goto (-65), 3) := by decide +kernel
theorem dX4_saidOf_120 : decode cX4_saidOf 120 = .ok (.iload 5, 2) := by decide +kernel
theorem dX4_saidOf_122 : decode cX4_saidOf 122 = .ok (.ireturn, 1) := by decide +kernel
theorem dX4_isRinging_0 : decode cX4_isRinging 0 = .ok (.aload_n 0, 1) := by decide +kernel
theorem dX4_isRinging_1 : decode cX4_isRinging 1 = .ok (.getfield 15, 3) := by decide +kernel
theorem dX4_isRinging_4 : decode cX4_isRinging 4 = .ok (.iload_n 1, 1) := by decide +kernel
theorem dX4_isRinging_5 : decode cX4_isRinging 5 = .ok (.iaload, 1) := by decide +kernel
theorem dX4_isRinging_6 : decode cX4_isRinging 6 = .ok (.ifCond .le 21, 3) := by decide +kernel
theorem dX4_isRinging_9 : decode cX4_isRinging 9 = .ok (.aload_n 0, 1) := by decide +kernel
theorem dX4_isRinging_10 : decode cX4_isRinging 10 = .ok (.getfield 46, 3) := by decide +kernel
theorem dX4_isRinging_13 : decode cX4_isRinging 13 = .ok (.aload_n 0, 1) := by decide +kernel
theorem dX4_isRinging_14 : decode cX4_isRinging 14 = .ok (.getfield 15, 3) := by decide +kernel
theorem dX4_isRinging_17 : decode cX4_isRinging 17 = .ok (.iload_n 1, 1) := by decide +kernel
theorem dX4_isRinging_18 : decode cX4_isRinging 18 = .ok (.iaload, 1) := by decide +kernel
theorem dX4_isRinging_19 : decode cX4_isRinging 19 = .ok (.irem, 1) := by decide +kernel
theorem dX4_isRinging_20 : decode cX4_isRinging 20 = .ok (.ifCond .ne 7, 3) := by decide +kernel
theorem dX4_isRinging_23 : decode cX4_isRinging 23 = .ok (.iconst 1, 1) := by decide +kernel
theorem dX4_isRinging_24 : decode cX4_isRinging 24 = .ok (.goto 4, 3) := by decide +kernel
theorem dX4_isRinging_27 : decode cX4_isRinging 27 = .ok (.iconst 0, 1) := by decide +kernel
theorem dX4_isRinging_28 : decode cX4_isRinging 28 = .ok (.ireturn, 1) := by decide +kernel
set_option maxRecDepth 20000 in
theorem ggX4_passCountingRight_X4_pass : GoodIn wsX4_passCountingRight wsX4_pass := goodIn_r _ [6, 7, 8, 9, 5, 10, 11, 12, 13, 14, 15, 16, 17, 18, 19, 20, 21, 22, 23, 24, 25, 26, 54, 55, 56, 57, 58, 59, 60, 61, 62, 63] (by decide +kernel) (by decide +kernel)
set_option maxRecDepth 20000 in
theorem gX4_passCountingRight_X4_pass : GoodIn wsX4_passCountingRight (wsV RX4 83 RX4 yX4_pass wsX4_pass) := goodIn_app (goodIn_of _ (by decide +kernel)) ggX4_passCountingRight_X4_pass
set_option maxRecDepth 20000 in
theorem ggX4_passCountingRight_X4_isRinging : GoodIn wsX4_passCountingRight wsX4_isRinging := goodIn_r _ [30, 31, 17, 54, 55, 56, 57, 58, 59, 60, 61, 62, 63] (by decide +kernel) (by decide +kernel)
set_option maxRecDepth 20000 in
theorem gX4_passCountingRight_X4_isRinging : GoodIn wsX4_passCountingRight (wsV RX4 86 RX4 yX4_isRinging wsX4_isRinging) := goodIn_app (goodIn_of _ (by decide +kernel)) ggX4_passCountingRight_X4_isRinging
set_option maxRecDepth 20000 in
theorem ggX4_passCountingRight_X4_hearersOf : GoodIn wsX4_passCountingRight wsX4_hearersOf := goodIn_r _ [35, 11, 36, 37, 38, 5, 39, 12, 19, 40, 1, 41, 42, 43, 44, 45, 54, 55, 56, 57, 58, 59, 60, 61, 62, 63] (by decide +kernel) (by decide +kernel)
set_option maxRecDepth 20000 in
theorem gX4_passCountingRight_X4_hearersOf : GoodIn wsX4_passCountingRight (wsV RX4 80 RX4 yX4_hearersOf wsX4_hearersOf) := goodIn_app (goodIn_of _ (by decide +kernel)) ggX4_passCountingRight_X4_hearersOf
set_option maxRecDepth 20000 in
theorem ggX4_passCountingRight_X4_saidOf : GoodIn wsX4_passCountingRight wsX4_saidOf := goodIn_r _ [49, 11, 1, 50, 51, 52, 5, 53, 40, 45, 54, 55, 56, 57, 58, 59, 60, 61, 62, 63] (by decide +kernel) (by decide +kernel)
set_option maxRecDepth 20000 in
theorem gX4_passCountingRight_X4_saidOf : GoodIn wsX4_passCountingRight (wsV RX4 89 RX4 yX4_saidOf wsX4_saidOf) := goodIn_app (goodIn_of _ (by decide +kernel)) ggX4_passCountingRight_X4_saidOf
theorem dX4_passCountingRight_0 : decode cX4_passCountingRight 0 = .ok (.iconst 0, 1) := by decide +kernel
theorem dX4_passCountingRight_1 : decode cX4_passCountingRight 1 = .ok (.istore 4, 2) := by decide +kernel
theorem dX4_passCountingRight_3 : decode cX4_passCountingRight 3 = .ok (.iconst 1, 1) := by decide +kernel
theorem dX4_passCountingRight_4 : decode cX4_passCountingRight 4 = .ok (.istore 5, 2) := by decide +kernel
theorem dX4_passCountingRight_6 : decode cX4_passCountingRight 6 = .ok (.iload 5, 2) := by decide +kernel
theorem dX4_passCountingRight_8 : decode cX4_passCountingRight 8 = .ok (.iload_n 3, 1) := by decide +kernel
theorem dX4_passCountingRight_9 : decode cX4_passCountingRight 9 = .ok (.if_icmp .gt 63, 3) := by decide +kernel
theorem dX4_passCountingRight_12 : decode cX4_passCountingRight 12 = .ok (.aload_n 0, 1) := by decide +kernel
theorem dX4_passCountingRight_13 : decode cX4_passCountingRight 13 = .ok (.iconst 1, 1) := by decide +kernel
theorem dX4_passCountingRight_14 : decode cX4_passCountingRight 14 = .ok (.invokevirtual 83, 3) := by decide +kernel
theorem dX4_passCountingRight_17 : decode cX4_passCountingRight 17 = .ok (.iload_n 1, 1) := by decide +kernel
theorem dX4_passCountingRight_18 : decode cX4_passCountingRight 18 = .ok (.istore 6, 2) := by decide +kernel
theorem dX4_passCountingRight_20 : decode cX4_passCountingRight 20 = .ok (.iload 6, 2) := by decide +kernel
theorem dX4_passCountingRight_22 : decode cX4_passCountingRight 22 = .ok (.iload_n 2, 1) := by decide +kernel
theorem dX4_passCountingRight_23 : decode cX4_passCountingRight 23 = .ok (.if_icmp .ge 43, 3) := by decide +kernel
theorem dX4_passCountingRight_26 : decode cX4_passCountingRight 26 = .ok (.aload_n 0, 1) := by decide +kernel
theorem dX4_passCountingRight_27 : decode cX4_passCountingRight 27 = .ok (.iload 6, 2) := by decide +kernel
theorem dX4_passCountingRight_29 : decode cX4_passCountingRight 29 = .ok (.invokevirtual 86, 3) := by decide +kernel
theorem dX4_passCountingRight_32 : decode cX4_passCountingRight 32 = .ok (.ifCond .eq 28, 3) := by decide +kernel
theorem dX4_passCountingRight_35 : decode cX4_passCountingRight 35 = .ok (.aload_n 0, 1) := by decide +kernel
theorem dX4_passCountingRight_36 : decode cX4_passCountingRight 36 = .ok (.iload 6, 2) := by decide +kernel
theorem dX4_passCountingRight_38 : decode cX4_passCountingRight 38 = .ok (.aload_n 0, 1) := by decide +kernel
theorem dX4_passCountingRight_39 : decode cX4_passCountingRight 39 = .ok (.iload 6, 2) := by decide +kernel
theorem dX4_passCountingRight_41 : decode cX4_passCountingRight 41 = .ok (.invokevirtual 80, 3) := by decide +kernel
theorem dX4_passCountingRight_44 : decode cX4_passCountingRight 44 = .ok (.invokevirtual 89, 3) := by decide +kernel
theorem dX4_passCountingRight_47 : decode cX4_passCountingRight 47 = .ok (.aload_n 0, 1) := by decide +kernel
theorem dX4_passCountingRight_48 : decode cX4_passCountingRight 48 = .ok (.getfield 9, 3) := by decide +kernel
theorem dX4_passCountingRight_51 : decode cX4_passCountingRight 51 = .ok (.iload 6, 2) := by decide +kernel
theorem dX4_passCountingRight_53 : decode cX4_passCountingRight 53 = .ok (.iaload, 1) := by decide +kernel
theorem dX4_passCountingRight_54 : decode cX4_passCountingRight 54 = .ok (.if_icmp .ne 6, 3) := by decide +kernel
theorem dX4_passCountingRight_57 : decode cX4_passCountingRight 57 = .ok (.iinc 4 1, 3) := by decide +kernel
theorem dX4_passCountingRight_60 : decode cX4_passCountingRight 60 = .ok (.iinc 6 1, 3) := by decide +kernel
theorem dX4_passCountingRight_63 : decode cX4_passCountingRight 63 = .ok (.goto (-43), 3) := by decide +kernel
theorem dX4_passCountingRight_66 : decode cX4_passCountingRight 66 = .ok (.iinc 5 1, 3) := by decide +kernel
theorem dX4_passCountingRight_69 : decode cX4_passCountingRight 69 = .ok (.goto (-63), 3) := by decide +kernel
theorem dX4_passCountingRight_72 : decode cX4_passCountingRight 72 = .ok (.iload 4, 2) := by decide +kernel
theorem dX4_passCountingRight_74 : decode cX4_passCountingRight 74 = .ok (.ireturn, 1) := by decide +kernel
theorem dX4_daysTillRinging_0 : decode cX4_daysTillRinging 0 = .ok (.aload_n 0, 1) := by decide +kernel
theorem dX4_daysTillRinging_1 : decode cX4_daysTillRinging 1 = .ok (.getfield 15, 3) := by decide +kernel
theorem dX4_daysTillRinging_4 : decode cX4_daysTillRinging 4 = .ok (.iload_n 1, 1) := by decide +kernel
theorem dX4_daysTillRinging_5 : decode cX4_daysTillRinging 5 = .ok (.iaload, 1) := by decide +kernel
theorem dX4_daysTillRinging_6 : decode cX4_daysTillRinging 6 = .ok (.ifCond .le 24, 3) := by decide +kernel
theorem dX4_daysTillRinging_9 : decode cX4_daysTillRinging 9 = .ok (.aload_n 0, 1) := by decide +kernel
theorem dX4_daysTillRinging_10 : decode cX4_daysTillRinging 10 = .ok (.getfield 15, 3) := by decide +kernel
theorem dX4_daysTillRinging_13 : decode cX4_daysTillRinging 13 = .ok (.iload_n 1, 1) := by decide +kernel
theorem dX4_daysTillRinging_14 : decode cX4_daysTillRinging 14 = .ok (.iaload, 1) := by decide +kernel
theorem dX4_daysTillRinging_15 : decode cX4_daysTillRinging 15 = .ok (.aload_n 0, 1) := by decide +kernel
theorem dX4_daysTillRinging_16 : decode cX4_daysTillRinging 16 = .ok (.getfield 46, 3) := by decide +kernel
theorem dX4_daysTillRinging_19 : decode cX4_daysTillRinging 19 = .ok (.aload_n 0, 1) := by decide +kernel
theorem dX4_daysTillRinging_20 : decode cX4_daysTillRinging 20 = .ok (.getfield 15, 3) := by decide +kernel
theorem dX4_daysTillRinging_23 : decode cX4_daysTillRinging 23 = .ok (.iload_n 1, 1) := by decide +kernel
theorem dX4_daysTillRinging_24 : decode cX4_daysTillRinging 24 = .ok (.iaload, 1) := by decide +kernel
theorem dX4_daysTillRinging_25 : decode cX4_daysTillRinging 25 = .ok (.irem, 1) := by decide +kernel
theorem dX4_daysTillRinging_26 : decode cX4_daysTillRinging 26 = .ok (.isub, 1) := by decide +kernel
theorem dX4_daysTillRinging_27 : decode cX4_daysTillRinging 27 = .ok (.goto 5, 3) := by decide +kernel
theorem dX4_daysTillRinging_30 : decode cX4_daysTillRinging 30 = .ok (.bipush (-9), 2) := by decide +kernel
theorem dX4_daysTillRinging_32 : decode cX4_daysTillRinging 32 = .ok (.ireturn, 1) := by decide +kernel
set_option maxRecDepth 20000 in
theorem ggX4_daysTillAllRing_X4_allRingOn : GoodIn wsX4_daysTillAllRing wsX4_allRingOn := goodIn_r _ [7, 1, 8, 9, 10, 11, 12, 13, 14, 15, 16, 17, 18] (by decide +kernel) (by decide +kernel)
set_option maxRecDepth 20000 in
theorem gX4_daysTillAllRing_X4_allRingOn : GoodIn wsX4_daysTillAllRing (wsV RX4 92 RX4 yX4_allRingOn wsX4_allRingOn) := goodIn_app (goodIn_of _ (by decide +kernel)) ggX4_daysTillAllRing_X4_allRingOn
theorem dX4_daysTillAllRing_0 : decode cX4_daysTillAllRing 0 = .ok (.aload_n 0, 1) := by decide +kernel
theorem dX4_daysTillAllRing_1 : decode cX4_daysTillAllRing 1 = .ok (.getfield 34, 3) := by decide +kernel
theorem dX4_daysTillAllRing_4 : decode cX4_daysTillAllRing 4 = .ok (.ifCond .ne 6, 3) := by decide +kernel
theorem dX4_daysTillAllRing_7 : decode cX4_daysTillAllRing 7 = .ok (.bipush (-9), 2) := by decide +kernel
theorem dX4_daysTillAllRing_9 : decode cX4_daysTillAllRing 9 = .ok (.ireturn, 1) := by decide +kernel
theorem dX4_daysTillAllRing_10 : decode cX4_daysTillAllRing 10 = .ok (.iconst 1, 1) := by decide +kernel
theorem dX4_daysTillAllRing_11 : decode cX4_daysTillAllRing 11 = .ok (.istore_n 1, 1) := by decide +kernel
theorem dX4_daysTillAllRing_12 : decode cX4_daysTillAllRing 12 = .ok (.iload_n 1, 1) := by decide +kernel
theorem dX4_daysTillAllRing_13 : decode cX4_daysTillAllRing 13 = .ok (.bipush 99, 2) := by decide +kernel
theorem dX4_daysTillAllRing_15 : decode cX4_daysTillAllRing 15 = .ok (.if_icmp .gt 24, 3) := by decide +kernel
theorem dX4_daysTillAllRing_18 : decode cX4_daysTillAllRing 18 = .ok (.aload_n 0, 1) := by decide +kernel
theorem dX4_daysTillAllRing_19 : decode cX4_daysTillAllRing 19 = .ok (.aload_n 0, 1) := by decide +kernel
theorem dX4_daysTillAllRing_20 : decode cX4_daysTillAllRing 20 = .ok (.getfield 46, 3) := by decide +kernel
theorem dX4_daysTillAllRing_23 : decode cX4_daysTillAllRing 23 = .ok (.iload_n 1, 1) := by decide +kernel
theorem dX4_daysTillAllRing_24 : decode cX4_daysTillAllRing 24 = .ok (.iadd, 1) := by decide +kernel
theorem dX4_daysTillAllRing_25 : decode cX4_daysTillAllRing 25 = .ok (.invokevirtual 92, 3) := by decide +kernel
theorem dX4_daysTillAllRing_28 : decode cX4_daysTillAllRing 28 = .ok (.ifCond .eq 5, 3) := by decide +kernel
theorem dX4_daysTillAllRing_31 : decode cX4_daysTillAllRing 31 = .ok (.iload_n 1, 1) := by decide +kernel
theorem dX4_daysTillAllRing_32 : decode cX4_daysTillAllRing 32 = .ok (.ireturn, 1) := by decide +kernel
theorem dX4_daysTillAllRing_33 : decode cX4_daysTillAllRing 33 = .ok (.iinc 1 1, 3) := by decide +kernel
theorem dX4_daysTillAllRing_36 : decode cX4_daysTillAllRing 36 = .ok (.goto (-24), 3) := by decide +kernel
theorem dX4_daysTillAllRing_39 : decode cX4_daysTillAllRing 39 = .ok (.bipush (-9), 2) := by decide +kernel
theorem dX4_daysTillAllRing_41 : decode cX4_daysTillAllRing 41 = .ok (.ireturn, 1) := by decide +kernel
theorem dX4_allRingOn_0 : decode cX4_allRingOn 0 = .ok (.iconst 0, 1) := by decide +kernel
theorem dX4_allRingOn_1 : decode cX4_allRingOn 1 = .ok (.istore_n 2, 1) := by decide +kernel
theorem dX4_allRingOn_2 : decode cX4_allRingOn 2 = .ok (.iload_n 2, 1) := by decide +kernel
theorem dX4_allRingOn_3 : decode cX4_allRingOn 3 = .ok (.aload_n 0, 1) := by decide +kernel
theorem dX4_allRingOn_4 : decode cX4_allRingOn 4 = .ok (.getfield 34, 3) := by decide +kernel
theorem dX4_allRingOn_7 : decode cX4_allRingOn 7 = .ok (.if_icmp .ge 32, 3) := by decide +kernel
theorem dX4_allRingOn_10 : decode cX4_allRingOn 10 = .ok (.aload_n 0, 1) := by decide +kernel
theorem dX4_allRingOn_11 : decode cX4_allRingOn 11 = .ok (.getfield 15, 3) := by decide +kernel
theorem dX4_allRingOn_14 : decode cX4_allRingOn 14 = .ok (.iload_n 2, 1) := by decide +kernel
theorem dX4_allRingOn_15 : decode cX4_allRingOn 15 = .ok (.iaload, 1) := by decide +kernel
theorem dX4_allRingOn_16 : decode cX4_allRingOn 16 = .ok (.iconst 1, 1) := by decide +kernel
theorem dX4_allRingOn_17 : decode cX4_allRingOn 17 = .ok (.if_icmp .lt 14, 3) := by decide +kernel
theorem dX4_allRingOn_20 : decode cX4_allRingOn 20 = .ok (.iload_n 1, 1) := by decide +kernel
theorem dX4_allRingOn_21 : decode cX4_allRingOn 21 = .ok (.aload_n 0, 1) := by decide +kernel
theorem dX4_allRingOn_22 : decode cX4_allRingOn 22 = .ok (.getfield 15, 3) := by decide +kernel
theorem dX4_allRingOn_25 : decode cX4_allRingOn 25 = .ok (.iload_n 2, 1) := by decide +kernel
theorem dX4_allRingOn_26 : decode cX4_allRingOn 26 = .ok (.iaload, 1) := by decide +kernel
theorem dX4_allRingOn_27 : decode cX4_allRingOn 27 = .ok (.irem, 1) := by decide +kernel
theorem dX4_allRingOn_28 : decode cX4_allRingOn 28 = .ok (.ifCond .eq 5, 3) := by decide +kernel
theorem dX4_allRingOn_31 : decode cX4_allRingOn 31 = .ok (.iconst 0, 1) := by decide +kernel
theorem dX4_allRingOn_32 : decode cX4_allRingOn 32 = .ok (.ireturn, 1) := by decide +kernel
theorem dX4_allRingOn_33 : decode cX4_allRingOn 33 = .ok (.iinc 2 1, 3) := by decide +kernel
theorem dX4_allRingOn_36 : decode cX4_allRingOn 36 = .ok (.goto (-34), 3) := by decide +kernel
theorem dX4_allRingOn_39 : decode cX4_allRingOn 39 = .ok (.iconst 1, 1) := by decide +kernel
theorem dX4_allRingOn_40 : decode cX4_allRingOn 40 = .ok (.ireturn, 1) := by decide +kernel
theorem dX4_allSlept_0 : decode cX4_allSlept 0 = .ok (.iconst 0, 1) := by decide +kernel
theorem dX4_allSlept_1 : decode cX4_allSlept 1 = .ok (.istore_n 1, 1) := by decide +kernel
theorem dX4_allSlept_2 : decode cX4_allSlept 2 = .ok (.iconst 0, 1) := by decide +kernel
theorem dX4_allSlept_3 : decode cX4_allSlept 3 = .ok (.istore_n 2, 1) := by decide +kernel
theorem dX4_allSlept_4 : decode cX4_allSlept 4 = .ok (.iload_n 2, 1) := by decide +kernel
theorem dX4_allSlept_5 : decode cX4_allSlept 5 = .ok (.aload_n 0, 1) := by decide +kernel
theorem dX4_allSlept_6 : decode cX4_allSlept 6 = .ok (.getfield 43, 3) := by decide +kernel
theorem dX4_allSlept_9 : decode cX4_allSlept 9 = .ok (.if_icmp .ge 18, 3) := by decide +kernel
theorem dX4_allSlept_12 : decode cX4_allSlept 12 = .ok (.iload_n 1, 1) := by decide +kernel
theorem dX4_allSlept_13 : decode cX4_allSlept 13 = .ok (.aload_n 0, 1) := by decide +kernel
theorem dX4_allSlept_14 : decode cX4_allSlept 14 = .ok (.getfield 24, 3) := by decide +kernel
theorem dX4_allSlept_17 : decode cX4_allSlept 17 = .ok (.iload_n 2, 1) := by decide +kernel
theorem dX4_allSlept_18 : decode cX4_allSlept 18 = .ok (.iaload, 1) := by decide +kernel
theorem dX4_allSlept_19 : decode cX4_allSlept 19 = .ok (.iadd, 1) := by decide +kernel
theorem dX4_allSlept_20 : decode cX4_allSlept 20 = .ok (.istore_n 1, 1) := by decide +kernel
theorem dX4_allSlept_21 : decode cX4_allSlept 21 = .ok (.iinc 2 1, 3) := by decide +kernel
theorem dX4_allSlept_24 : decode cX4_allSlept 24 = .ok (.goto (-20), 3) := by decide +kernel
theorem dX4_allSlept_27 : decode cX4_allSlept 27 = .ok (.iload_n 1, 1) := by decide +kernel
theorem dX4_allSlept_28 : decode cX4_allSlept 28 = .ok (.ireturn, 1) := by decide +kernel
theorem dX5_init_0 : decode cX5_init 0 = .ok (.aload_n 0, 1) := by decide +kernel
theorem dX5_init_1 : decode cX5_init 1 = .ok (.invokespecial 3, 3) := by decide +kernel
theorem dX5_init_4 : decode cX5_init 4 = .ok (.aload_n 0, 1) := by decide +kernel
theorem dX5_init_5 : decode cX5_init 5 = .ok (.bipush 8, 2) := by decide +kernel
theorem dX5_init_7 : decode cX5_init 7 = .ok (.newarray .int, 2) := by decide +kernel
theorem dX5_init_9 : decode cX5_init 9 = .ok (.putfield 9, 3) := by decide +kernel
theorem dX5_init_12 : decode cX5_init 12 = .ok (.return_, 1) := by decide +kernel
set_option maxRecDepth 20000 in
theorem ggX5_rightBells_X4_hearersOf : GoodIn wsX5_rightBells wsX4_hearersOf := goodIn_r _ [7, 8, 9, 10, 11, 6, 12, 13, 14, 15, 16, 17, 18, 19, 20, 21, 30, 31, 32, 33, 34, 35, 36, 37, 38, 39] (by decide +kernel) (by decide +kernel)
set_option maxRecDepth 20000 in
theorem gX5_rightBells_X4_hearersOf : GoodIn wsX5_rightBells (wsV RX5 21 RX4 yX4_hearersOf wsX4_hearersOf) := goodIn_app (goodIn_of _ (by decide +kernel)) ggX5_rightBells_X4_hearersOf
set_option maxRecDepth 20000 in
theorem ggX5_rightBells_X4_saidOf : GoodIn wsX5_rightBells wsX4_saidOf := goodIn_r _ [25, 8, 16, 26, 27, 28, 6, 29, 15, 21, 30, 31, 32, 33, 34, 35, 36, 37, 38, 39] (by decide +kernel) (by decide +kernel)
set_option maxRecDepth 20000 in
theorem gX5_rightBells_X4_saidOf : GoodIn wsX5_rightBells (wsV RX5 25 RX4 yX4_saidOf wsX4_saidOf) := goodIn_app (goodIn_of _ (by decide +kernel)) ggX5_rightBells_X4_saidOf
theorem dX5_rightBells_0 : decode cX5_rightBells 0 = .ok (.iload_n 2, 1) := by decide +kernel
theorem dX5_rightBells_1 : decode cX5_rightBells 1 = .ok (.ifCond .lt 11, 3) := by decide +kernel
theorem dX5_rightBells_4 : decode cX5_rightBells 4 = .ok (.iconst 1, 1) := by decide +kernel
theorem dX5_rightBells_5 : decode cX5_rightBells 5 = .ok (.iload_n 2, 1) := by decide +kernel
theorem dX5_rightBells_6 : decode cX5_rightBells 6 = .ok (.ishl, 1) := by decide +kernel
theorem dX5_rightBells_7 : decode cX5_rightBells 7 = .ok (.iconst (-1), 1) := by decide +kernel
theorem dX5_rightBells_8 : decode cX5_rightBells 8 = .ok (.ixor, 1) := by decide +kernel
theorem dX5_rightBells_9 : decode cX5_rightBells 9 = .ok (.goto 4, 3) := by decide +kernel
theorem dX5_rightBells_12 : decode cX5_rightBells 12 = .ok (.iconst (-1), 1) := by decide +kernel
theorem dX5_rightBells_13 : decode cX5_rightBells 13 = .ok (.istore_n 3, 1) := by decide +kernel
theorem dX5_rightBells_14 : decode cX5_rightBells 14 = .ok (.iconst 0, 1) := by decide +kernel
theorem dX5_rightBells_15 : decode cX5_rightBells 15 = .ok (.istore 4, 2) := by decide +kernel
theorem dX5_rightBells_17 : decode cX5_rightBells 17 = .ok (.iconst 0, 1) := by decide +kernel
theorem dX5_rightBells_18 : decode cX5_rightBells 18 = .ok (.istore 5, 2) := by decide +kernel
theorem dX5_rightBells_20 : decode cX5_rightBells 20 = .ok (.iload 5, 2) := by decide +kernel
theorem dX5_rightBells_22 : decode cX5_rightBells 22 = .ok (.aload_n 1, 1) := by decide +kernel
theorem dX5_rightBells_23 : decode cX5_rightBells 23 = .ok (.getfield 15, 3) := by decide +kernel
theorem dX5_rightBells_26 : decode cX5_rightBells 26 = .ok (.if_icmp .ge 36, 3) := by decide +kernel
theorem dX5_rightBells_29 : decode cX5_rightBells 29 = .ok (.aload_n 1, 1) := by decide +kernel
theorem dX5_rightBells_30 : decode cX5_rightBells 30 = .ok (.iload 5, 2) := by decide +kernel
theorem dX5_rightBells_32 : decode cX5_rightBells 32 = .ok (.aload_n 1, 1) := by decide +kernel
theorem dX5_rightBells_33 : decode cX5_rightBells 33 = .ok (.iload 5, 2) := by decide +kernel
theorem dX5_rightBells_35 : decode cX5_rightBells 35 = .ok (.invokevirtual 21, 3) := by decide +kernel
theorem dX5_rightBells_38 : decode cX5_rightBells 38 = .ok (.iload_n 3, 1) := by decide +kernel
theorem dX5_rightBells_39 : decode cX5_rightBells 39 = .ok (.iand, 1) := by decide +kernel
theorem dX5_rightBells_40 : decode cX5_rightBells 40 = .ok (.invokevirtual 25, 3) := by decide +kernel
theorem dX5_rightBells_43 : decode cX5_rightBells 43 = .ok (.aload_n 1, 1) := by decide +kernel
theorem dX5_rightBells_44 : decode cX5_rightBells 44 = .ok (.getfield 29, 3) := by decide +kernel
theorem dX5_rightBells_47 : decode cX5_rightBells 47 = .ok (.iload 5, 2) := by decide +kernel
theorem dX5_rightBells_49 : decode cX5_rightBells 49 = .ok (.iaload, 1) := by decide +kernel
theorem dX5_rightBells_50 : decode cX5_rightBells 50 = .ok (.if_icmp .ne 6, 3) := by decide +kernel
theorem dX5_rightBells_53 : decode cX5_rightBells 53 = .ok (.iinc 4 1, 3) := by decide +kernel
theorem dX5_rightBells_56 : decode cX5_rightBells 56 = .ok (.iinc 5 1, 3) := by decide +kernel
theorem dX5_rightBells_59 : decode cX5_rightBells 59 = .ok (.goto (-39), 3) := by decide +kernel
theorem dX5_rightBells_62 : decode cX5_rightBells 62 = .ok (.iload 4, 2) := by decide +kernel
theorem dX5_rightBells_64 : decode cX5_rightBells 64 = .ok (.ireturn, 1) := by decide +kernel
set_option maxRecDepth 20000 in
theorem ggX5_wrongBells_X4_silentBells : GoodIn wsX5_wrongBells wsX4_silentBells := goodIn_r _ [6, 7, 8, 9, 10, 5, 11, 12, 13, 14, 15, 16, 17, 18, 19, 20, 21, 22, 23, 24, 25, 48, 49, 50, 51, 52, 53, 54, 55, 56, 57] (by decide +kernel) (by decide +kernel)
set_option maxRecDepth 20000 in
theorem gX5_wrongBells_X4_silentBells : GoodIn wsX5_wrongBells (wsV RX5 32 RX4 yX4_silentBells wsX4_silentBells) := goodIn_app (goodIn_of _ (by decide +kernel)) ggX5_wrongBells_X4_silentBells
set_option maxRecDepth 20000 in
theorem ggX5_wrongBells_J6_bitCount_0f7a4 : GoodIn wsX5_wrongBells wsJ6_bitCount_0f7a4 := goodIn_r _ [29, 30, 31, 32] (by decide +kernel) (by decide +kernel)
set_option maxRecDepth 20000 in
theorem gX5_wrongBells_J6_bitCount_0f7a4 : GoodIn wsX5_wrongBells (va_wsS RX5 36 yJ6_bitCount_0f7a4 wsJ6_bitCount_0f7a4) := goodIn_app (goodIn_of _ (by decide +kernel)) ggX5_wrongBells_J6_bitCount_0f7a4
set_option maxRecDepth 20000 in
theorem ggX5_wrongBells_X5_rightBells : GoodIn wsX5_wrongBells wsX5_rightBells := goodIn_r _ [37, 1, 38, 39, 9, 10, 5, 11, 12, 13, 14, 15, 16, 17, 18, 19, 20, 21, 22, 23, 24, 25, 40, 41, 42, 43, 44, 45, 46, 47, 48, 49, 50, 51, 52, 53, 54, 55, 56, 57] (by decide +kernel) (by decide +kernel)
set_option maxRecDepth 20000 in
theorem gX5_wrongBells_X5_rightBells : GoodIn wsX5_wrongBells (wsV RX5 41 RX5 yX5_rightBells wsX5_rightBells) := goodIn_app (goodIn_of _ (by decide +kernel)) ggX5_wrongBells_X5_rightBells
theorem dX5_wrongBells_0 : decode cX5_wrongBells 0 = .ok (.aload_n 1, 1) := by decide +kernel
theorem dX5_wrongBells_1 : decode cX5_wrongBells 1 = .ok (.getfield 15, 3) := by decide +kernel
theorem dX5_wrongBells_4 : decode cX5_wrongBells 4 = .ok (.aload_n 1, 1) := by decide +kernel
theorem dX5_wrongBells_5 : decode cX5_wrongBells 5 = .ok (.invokevirtual 32, 3) := by decide +kernel
theorem dX5_wrongBells_8 : decode cX5_wrongBells 8 = .ok (.invokestatic 36, 3) := by decide +kernel
theorem dX5_wrongBells_11 : decode cX5_wrongBells 11 = .ok (.isub, 1) := by decide +kernel
theorem dX5_wrongBells_12 : decode cX5_wrongBells 12 = .ok (.aload_n 0, 1) := by decide +kernel
theorem dX5_wrongBells_13 : decode cX5_wrongBells 13 = .ok (.aload_n 1, 1) := by decide +kernel
theorem dX5_wrongBells_14 : decode cX5_wrongBells 14 = .ok (.bipush (-9), 2) := by decide +kernel
theorem dX5_wrongBells_16 : decode cX5_wrongBells 16 = .ok (.invokevirtual 41, 3) := by decide +kernel
theorem dX5_wrongBells_19 : decode cX5_wrongBells 19 = .ok (.isub, 1) := by decide +kernel
theorem dX5_wrongBells_20 : decode cX5_wrongBells 20 = .ok (.ireturn, 1) := by decide +kernel
set_option maxRecDepth 20000 in
theorem ggX5_whomToLeaveOut_X5_rightBells : GoodIn wsX5_whomToLeaveOut wsX5_rightBells := goodIn_r _ [6, 7, 8, 9, 10, 11, 12, 13, 14, 15, 16, 17, 18, 19, 20, 21, 22, 23, 24, 25, 26, 27, 28, 29, 30, 31, 32, 33, 34, 35, 36, 37, 38, 39, 40, 41, 42, 43, 44, 45] (by decide +kernel) (by decide +kernel)
set_option maxRecDepth 20000 in
theorem gX5_whomToLeaveOut_X5_rightBells : GoodIn wsX5_whomToLeaveOut (wsV RX5 41 RX5 yX5_rightBells wsX5_rightBells) := goodIn_app (goodIn_of _ (by decide +kernel)) ggX5_whomToLeaveOut_X5_rightBells
theorem dX5_whomToLeaveOut_0 : decode cX5_whomToLeaveOut 0 = .ok (.bipush (-9), 2) := by decide +kernel
theorem dX5_whomToLeaveOut_2 : decode cX5_whomToLeaveOut 2 = .ok (.istore_n 2, 1) := by decide +kernel
theorem dX5_whomToLeaveOut_3 : decode cX5_whomToLeaveOut 3 = .ok (.aload_n 0, 1) := by decide +kernel
theorem dX5_whomToLeaveOut_4 : decode cX5_whomToLeaveOut 4 = .ok (.aload_n 1, 1) := by decide +kernel
theorem dX5_whomToLeaveOut_5 : decode cX5_whomToLeaveOut 5 = .ok (.bipush (-9), 2) := by decide +kernel
theorem dX5_whomToLeaveOut_7 : decode cX5_whomToLeaveOut 7 = .ok (.invokevirtual 41, 3) := by decide +kernel
theorem dX5_whomToLeaveOut_10 : decode cX5_whomToLeaveOut 10 = .ok (.istore_n 3, 1) := by decide +kernel
theorem dX5_whomToLeaveOut_11 : decode cX5_whomToLeaveOut 11 = .ok (.iconst 0, 1) := by decide +kernel
theorem dX5_whomToLeaveOut_12 : decode cX5_whomToLeaveOut 12 = .ok (.istore 4, 2) := by decide +kernel
theorem dX5_whomToLeaveOut_14 : decode cX5_whomToLeaveOut 14 = .ok (.iload 4, 2) := by decide +kernel
theorem dX5_whomToLeaveOut_16 : decode cX5_whomToLeaveOut 16 = .ok (.aload_n 1, 1) := by decide +kernel
theorem dX5_whomToLeaveOut_17 : decode cX5_whomToLeaveOut 17 = .ok (.getfield 45, 3) := by decide +kernel
theorem dX5_whomToLeaveOut_20 : decode cX5_whomToLeaveOut 20 = .ok (.if_icmp .ge 30, 3) := by decide +kernel
theorem dX5_whomToLeaveOut_23 : decode cX5_whomToLeaveOut 23 = .ok (.aload_n 0, 1) := by decide +kernel
theorem dX5_whomToLeaveOut_24 : decode cX5_whomToLeaveOut 24 = .ok (.aload_n 1, 1) := by decide +kernel
theorem dX5_whomToLeaveOut_25 : decode cX5_whomToLeaveOut 25 = .ok (.iload 4, 2) := by decide +kernel
theorem dX5_whomToLeaveOut_27 : decode cX5_whomToLeaveOut 27 = .ok (.invokevirtual 41, 3) := by decide +kernel
theorem dX5_whomToLeaveOut_30 : decode cX5_whomToLeaveOut 30 = .ok (.istore 5, 2) := by decide +kernel
theorem dX5_whomToLeaveOut_32 : decode cX5_whomToLeaveOut 32 = .ok (.iload 5, 2) := by decide +kernel
theorem dX5_whomToLeaveOut_34 : decode cX5_whomToLeaveOut 34 = .ok (.iload_n 3, 1) := by decide +kernel
theorem dX5_whomToLeaveOut_35 : decode cX5_whomToLeaveOut 35 = .ok (.if_icmp .le 9, 3) := by decide +kernel
theorem dX5_whomToLeaveOut_38 : decode cX5_whomToLeaveOut 38 = .ok (.iload 5, 2) := by decide +kernel
theorem dX5_whomToLeaveOut_40 : decode cX5_whomToLeaveOut 40 = .ok (.istore_n 3, 1) := by decide +kernel
theorem dX5_whomToLeaveOut_41 : decode cX5_whomToLeaveOut 41 = .ok (.iload 4, 2) := by decide +kernel
theorem dX5_whomToLeaveOut_43 : decode cX5_whomToLeaveOut 43 = .ok (.istore_n 2, 1) := by decide +kernel
theorem dX5_whomToLeaveOut_44 : decode cX5_whomToLeaveOut 44 = .ok (.iinc 4 1, 3) := by decide +kernel
theorem dX5_whomToLeaveOut_47 : decode cX5_whomToLeaveOut 47 = .ok (.goto (-33), 3) := by decide +kernel
theorem dX5_whomToLeaveOut_50 : decode cX5_whomToLeaveOut 50 = .ok (.iload_n 2, 1) := by decide +kernel
theorem dX5_whomToLeaveOut_51 : decode cX5_whomToLeaveOut 51 = .ok (.ireturn, 1) := by decide +kernel
set_option maxRecDepth 20000 in
theorem ggX5_doClash_X4_hoursLater : GoodIn wsX5_doClash wsX4_hoursLater := goodIn_r _ [6, 7, 8, 20, 21, 22, 23, 24, 25, 26, 27, 28, 29] (by decide +kernel) (by decide +kernel)
set_option maxRecDepth 20000 in
theorem gX5_doClash_X4_hoursLater : GoodIn wsX5_doClash (wsV RX5 48 RX4 yX4_hoursLater wsX4_hoursLater) := goodIn_app (goodIn_of _ (by decide +kernel)) ggX5_doClash_X4_hoursLater
set_option maxRecDepth 20000 in
theorem ggX5_doClash_X4_hearsIt : GoodIn wsX5_doClash wsX4_hearsIt := goodIn_r _ [12, 13, 14, 7, 15, 16, 17, 18, 5, 19, 8, 20, 21, 22, 23, 24, 25, 26, 27, 28, 29] (by decide +kernel) (by decide +kernel)
set_option maxRecDepth 20000 in
theorem gX5_doClash_X4_hearsIt : GoodIn wsX5_doClash (wsV RX5 51 RX4 yX4_hearsIt wsX4_hearsIt) := goodIn_app (goodIn_of _ (by decide +kernel)) ggX5_doClash_X4_hearsIt
theorem dX5_doClash_0 : decode cX5_doClash 0 = .ok (.aload_n 0, 1) := by decide +kernel
theorem dX5_doClash_1 : decode cX5_doClash 1 = .ok (.iload_n 1, 1) := by decide +kernel
theorem dX5_doClash_2 : decode cX5_doClash 2 = .ok (.invokevirtual 48, 3) := by decide +kernel
theorem dX5_doClash_5 : decode cX5_doClash 5 = .ok (.aload_n 0, 1) := by decide +kernel
theorem dX5_doClash_6 : decode cX5_doClash 6 = .ok (.iload_n 2, 1) := by decide +kernel
theorem dX5_doClash_7 : decode cX5_doClash 7 = .ok (.invokevirtual 48, 3) := by decide +kernel
theorem dX5_doClash_10 : decode cX5_doClash 10 = .ok (.if_icmp .ne 5, 3) := by decide +kernel
theorem dX5_doClash_13 : decode cX5_doClash 13 = .ok (.iconst 0, 1) := by decide +kernel
theorem dX5_doClash_14 : decode cX5_doClash 14 = .ok (.ireturn, 1) := by decide +kernel
theorem dX5_doClash_15 : decode cX5_doClash 15 = .ok (.iconst 0, 1) := by decide +kernel
theorem dX5_doClash_16 : decode cX5_doClash 16 = .ok (.istore_n 3, 1) := by decide +kernel
theorem dX5_doClash_17 : decode cX5_doClash 17 = .ok (.iload_n 3, 1) := by decide +kernel
theorem dX5_doClash_18 : decode cX5_doClash 18 = .ok (.aload_n 0, 1) := by decide +kernel
theorem dX5_doClash_19 : decode cX5_doClash 19 = .ok (.getfield 15, 3) := by decide +kernel
theorem dX5_doClash_22 : decode cX5_doClash 22 = .ok (.if_icmp .ge 29, 3) := by decide +kernel
theorem dX5_doClash_25 : decode cX5_doClash 25 = .ok (.aload_n 0, 1) := by decide +kernel
theorem dX5_doClash_26 : decode cX5_doClash 26 = .ok (.iload_n 1, 1) := by decide +kernel
theorem dX5_doClash_27 : decode cX5_doClash 27 = .ok (.iload_n 3, 1) := by decide +kernel
theorem dX5_doClash_28 : decode cX5_doClash 28 = .ok (.invokevirtual 51, 3) := by decide +kernel
theorem dX5_doClash_31 : decode cX5_doClash 31 = .ok (.ifCond .eq 14, 3) := by decide +kernel
theorem dX5_doClash_34 : decode cX5_doClash 34 = .ok (.aload_n 0, 1) := by decide +kernel
theorem dX5_doClash_35 : decode cX5_doClash 35 = .ok (.iload_n 2, 1) := by decide +kernel
theorem dX5_doClash_36 : decode cX5_doClash 36 = .ok (.iload_n 3, 1) := by decide +kernel
theorem dX5_doClash_37 : decode cX5_doClash 37 = .ok (.invokevirtual 51, 3) := by decide +kernel
theorem dX5_doClash_40 : decode cX5_doClash 40 = .ok (.ifCond .eq 5, 3) := by decide +kernel
theorem dX5_doClash_43 : decode cX5_doClash 43 = .ok (.iconst 1, 1) := by decide +kernel
theorem dX5_doClash_44 : decode cX5_doClash 44 = .ok (.ireturn, 1) := by decide +kernel
theorem dX5_doClash_45 : decode cX5_doClash 45 = .ok (.iinc 3 1, 3) := by decide +kernel
theorem dX5_doClash_48 : decode cX5_doClash 48 = .ok (.goto (-31), 3) := by decide +kernel
theorem dX5_doClash_51 : decode cX5_doClash 51 = .ok (.iconst 0, 1) := by decide +kernel
theorem dX5_doClash_52 : decode cX5_doClash 52 = .ok (.ireturn, 1) := by decide +kernel
set_option maxRecDepth 20000 in
theorem ggX5_clashes_X5_doClash : GoodIn wsX5_clashes wsX5_doClash := goodIn_r _ [5, 6, 7, 8, 9, 10, 11, 12, 13, 14, 15, 16, 17, 18, 19, 20, 21, 22, 23, 24, 25, 26, 27, 28, 29, 30, 31, 32, 33, 34] (by decide +kernel) (by decide +kernel)
set_option maxRecDepth 20000 in
theorem gX5_clashes_X5_doClash : GoodIn wsX5_clashes (va_wsS RX5 55 yX5_doClash wsX5_doClash) := goodIn_app (goodIn_of _ (by decide +kernel)) ggX5_clashes_X5_doClash
theorem dX5_clashes_0 : decode cX5_clashes 0 = .ok (.iconst 0, 1) := by decide +kernel
theorem dX5_clashes_1 : decode cX5_clashes 1 = .ok (.istore_n 2, 1) := by decide +kernel
theorem dX5_clashes_2 : decode cX5_clashes 2 = .ok (.iconst 0, 1) := by decide +kernel
theorem dX5_clashes_3 : decode cX5_clashes 3 = .ok (.istore_n 3, 1) := by decide +kernel
theorem dX5_clashes_4 : decode cX5_clashes 4 = .ok (.iload_n 3, 1) := by decide +kernel
theorem dX5_clashes_5 : decode cX5_clashes 5 = .ok (.aload_n 1, 1) := by decide +kernel
theorem dX5_clashes_6 : decode cX5_clashes 6 = .ok (.getfield 45, 3) := by decide +kernel
theorem dX5_clashes_9 : decode cX5_clashes 9 = .ok (.if_icmp .ge 42, 3) := by decide +kernel
theorem dX5_clashes_12 : decode cX5_clashes 12 = .ok (.iload_n 3, 1) := by decide +kernel
theorem dX5_clashes_13 : decode cX5_clashes 13 = .ok (.iconst 1, 1) := by decide +kernel
theorem dX5_clashes_14 : decode cX5_clashes 14 = .ok (.iadd, 1) := by decide +kernel
theorem dX5_clashes_15 : decode cX5_clashes 15 = .ok (.istore 4, 2) := by decide +kernel
theorem dX5_clashes_17 : decode cX5_clashes 17 = .ok (.iload 4, 2) := by decide +kernel
theorem dX5_clashes_19 : decode cX5_clashes 19 = .ok (.aload_n 1, 1) := by decide +kernel
theorem dX5_clashes_20 : decode cX5_clashes 20 = .ok (.getfield 45, 3) := by decide +kernel
theorem dX5_clashes_23 : decode cX5_clashes 23 = .ok (.if_icmp .ge 22, 3) := by decide +kernel
theorem dX5_clashes_26 : decode cX5_clashes 26 = .ok (.aload_n 1, 1) := by decide +kernel
theorem dX5_clashes_27 : decode cX5_clashes 27 = .ok (.iload_n 3, 1) := by decide +kernel
theorem dX5_clashes_28 : decode cX5_clashes 28 = .ok (.iload 4, 2) := by decide +kernel
theorem dX5_clashes_30 : decode cX5_clashes 30 = .ok (.invokestatic 55, 3) := by decide +kernel
theorem dX5_clashes_33 : decode cX5_clashes 33 = .ok (.ifCond .eq 6, 3) := by decide +kernel
theorem dX5_clashes_36 : decode cX5_clashes 36 = .ok (.iinc 2 1, 3) := by decide +kernel
theorem dX5_clashes_39 : decode cX5_clashes 39 = .ok (.iinc 4 1, 3) := by decide +kernel
theorem dX5_clashes_42 : decode cX5_clashes 42 = .ok (.goto (-25), 3) := by decide +kernel
theorem dX5_clashes_45 : decode cX5_clashes 45 = .ok (.iinc 3 1, 3) := by decide +kernel
theorem dX5_clashes_48 : decode cX5_clashes 48 = .ok (.goto (-44), 3) := by decide +kernel
theorem dX5_clashes_51 : decode cX5_clashes 51 = .ok (.iload_n 2, 1) := by decide +kernel
theorem dX5_clashes_52 : decode cX5_clashes 52 = .ok (.ireturn, 1) := by decide +kernel
set_option maxRecDepth 20000 in
theorem ggX5_firstClash_X5_doClash : GoodIn wsX5_firstClash wsX5_doClash := goodIn_r _ [5, 6, 7, 8, 9, 10, 11, 12, 13, 14, 15, 16, 17, 18, 19, 20, 21, 22, 23, 24, 25, 26, 27, 28, 29, 30, 31, 32, 33, 34] (by decide +kernel) (by decide +kernel)
set_option maxRecDepth 20000 in
theorem gX5_firstClash_X5_doClash : GoodIn wsX5_firstClash (va_wsS RX5 55 yX5_doClash wsX5_doClash) := goodIn_app (goodIn_of _ (by decide +kernel)) ggX5_firstClash_X5_doClash
theorem dX5_firstClash_0 : decode cX5_firstClash 0 = .ok (.iconst 0, 1) := by decide +kernel
theorem dX5_firstClash_1 : decode cX5_firstClash 1 = .ok (.istore_n 2, 1) := by decide +kernel
theorem dX5_firstClash_2 : decode cX5_firstClash 2 = .ok (.iload_n 2, 1) := by decide +kernel
theorem dX5_firstClash_3 : decode cX5_firstClash 3 = .ok (.aload_n 1, 1) := by decide +kernel
theorem dX5_firstClash_4 : decode cX5_firstClash 4 = .ok (.getfield 45, 3) := by decide +kernel
theorem dX5_firstClash_7 : decode cX5_firstClash 7 = .ok (.if_icmp .ge 43, 3) := by decide +kernel
theorem dX5_firstClash_10 : decode cX5_firstClash 10 = .ok (.iload_n 2, 1) := by decide +kernel
theorem dX5_firstClash_11 : decode cX5_firstClash 11 = .ok (.iconst 1, 1) := by decide +kernel
theorem dX5_firstClash_12 : decode cX5_firstClash 12 = .ok (.iadd, 1) := by decide +kernel
theorem dX5_firstClash_13 : decode cX5_firstClash 13 = .ok (.istore_n 3, 1) := by decide +kernel
theorem dX5_firstClash_14 : decode cX5_firstClash 14 = .ok (.iload_n 3, 1) := by decide +kernel
theorem dX5_firstClash_15 : decode cX5_firstClash 15 = .ok (.aload_n 1, 1) := by decide +kernel
theorem dX5_firstClash_16 : decode cX5_firstClash 16 = .ok (.getfield 45, 3) := by decide +kernel
theorem dX5_firstClash_19 : decode cX5_firstClash 19 = .ok (.if_icmp .ge 25, 3) := by decide +kernel
theorem dX5_firstClash_22 : decode cX5_firstClash 22 = .ok (.aload_n 1, 1) := by decide +kernel
theorem dX5_firstClash_23 : decode cX5_firstClash 23 = .ok (.iload_n 2, 1) := by decide +kernel
theorem dX5_firstClash_24 : decode cX5_firstClash 24 = .ok (.iload_n 3, 1) := by decide +kernel
theorem dX5_firstClash_25 : decode cX5_firstClash 25 = .ok (.invokestatic 55, 3) := by decide +kernel
theorem dX5_firstClash_28 : decode cX5_firstClash 28 = .ok (.ifCond .eq 10, 3) := by decide +kernel
theorem dX5_firstClash_31 : decode cX5_firstClash 31 = .ok (.bipush 10, 2) := by decide +kernel
theorem dX5_firstClash_33 : decode cX5_firstClash 33 = .ok (.iload_n 2, 1) := by decide +kernel
theorem dX5_firstClash_34 : decode cX5_firstClash 34 = .ok (.imul, 1) := by decide +kernel
theorem dX5_firstClash_35 : decode cX5_firstClash 35 = .ok (.iload_n 3, 1) := by decide +kernel
theorem dX5_firstClash_36 : decode cX5_firstClash 36 = .ok (.iadd, 1) := by decide +kernel
theorem dX5_firstClash_37 : decode cX5_firstClash 37 = .ok (.ireturn, 1) := by decide +kernel
theorem dX5_firstClash_38 : decode cX5_firstClash 38 = .ok (.iinc 3 1, 3) := by decide +kernel
theorem dX5_firstClash_41 : decode cX5_firstClash 41 = .ok (.goto (-27), 3) := by decide +kernel
theorem dX5_firstClash_44 : decode cX5_firstClash 44 = .ok (.iinc 2 1, 3) := by decide +kernel
theorem dX5_firstClash_47 : decode cX5_firstClash 47 = .ok (.goto (-45), 3) := by decide +kernel
theorem dX5_firstClash_50 : decode cX5_firstClash 50 = .ok (.bipush (-9), 2) := by decide +kernel
theorem dX5_firstClash_52 : decode cX5_firstClash 52 = .ok (.ireturn, 1) := by decide +kernel
set_option maxRecDepth 20000 in
theorem ggX5_mostAgreed_X5_findFoes : GoodIn wsX5_mostAgreed wsX5_findFoes := goodIn_r _ [6, 1, 7, 8, 9, 5, 10, 11, 12, 13, 14, 15, 16, 17, 18, 19, 20, 21, 22, 23, 24, 25, 26, 27, 28, 29, 52, 53, 54, 55, 56, 57, 58, 59, 60, 61, 62] (by decide +kernel) (by decide +kernel)
set_option maxRecDepth 20000 in
theorem gX5_mostAgreed_X5_findFoes : GoodIn wsX5_mostAgreed (wsV RX5 59 RX5 yX5_findFoes wsX5_findFoes) := goodIn_app (goodIn_of _ (by decide +kernel)) ggX5_mostAgreed_X5_findFoes
set_option maxRecDepth 20000 in
theorem ggX5_mostAgreed_X4_hearersOfSome : GoodIn wsX5_mostAgreed wsX4_hearersOfSome := goodIn_r _ [33, 34, 35, 36, 37, 15, 38, 39, 40, 20, 21, 22, 23, 24, 17, 25, 26, 27, 28, 29, 18, 52, 53, 54, 55, 56, 57, 58, 59, 60, 61] (by decide +kernel) (by decide +kernel)
set_option maxRecDepth 20000 in
theorem gX5_mostAgreed_X4_hearersOfSome : GoodIn wsX5_mostAgreed (wsV RX5 63 RX4 yX4_hearersOfSome wsX4_hearersOfSome) := goodIn_app (goodIn_of _ (by decide +kernel)) ggX5_mostAgreed_X4_hearersOfSome
set_option maxRecDepth 20000 in
theorem ggX5_mostAgreed_J6_bitCount_0f7a4 : GoodIn wsX5_mostAgreed wsJ6_bitCount_0f7a4 := goodIn_r _ [44, 45, 46, 47] (by decide +kernel) (by decide +kernel)
set_option maxRecDepth 20000 in
theorem gX5_mostAgreed_J6_bitCount_0f7a4 : GoodIn wsX5_mostAgreed (va_wsS RX5 36 yJ6_bitCount_0f7a4 wsJ6_bitCount_0f7a4) := goodIn_app (goodIn_of _ (by decide +kernel)) ggX5_mostAgreed_J6_bitCount_0f7a4
set_option maxRecDepth 20000 in
theorem ggX5_mostAgreed_X5_isPeaceful : GoodIn wsX5_mostAgreed wsX5_isPeaceful := goodIn_r _ [51, 7, 62] (by decide +kernel) (by decide +kernel)
set_option maxRecDepth 20000 in
theorem gX5_mostAgreed_X5_isPeaceful : GoodIn wsX5_mostAgreed (wsV RX5 66 RX5 yX5_isPeaceful wsX5_isPeaceful) := goodIn_app (goodIn_of _ (by decide +kernel)) ggX5_mostAgreed_X5_isPeaceful
theorem dX5_mostAgreed_0 : decode cX5_mostAgreed 0 = .ok (.aload_n 0, 1) := by decide +kernel
theorem dX5_mostAgreed_1 : decode cX5_mostAgreed 1 = .ok (.aload_n 1, 1) := by decide +kernel
theorem dX5_mostAgreed_2 : decode cX5_mostAgreed 2 = .ok (.invokevirtual 59, 3) := by decide +kernel
theorem dX5_mostAgreed_5 : decode cX5_mostAgreed 5 = .ok (.aload_n 1, 1) := by decide +kernel
theorem dX5_mostAgreed_6 : decode cX5_mostAgreed 6 = .ok (.invokevirtual 63, 3) := by decide +kernel
theorem dX5_mostAgreed_9 : decode cX5_mostAgreed 9 = .ok (.istore_n 2, 1) := by decide +kernel
theorem dX5_mostAgreed_10 : decode cX5_mostAgreed 10 = .ok (.iconst 0, 1) := by decide +kernel
theorem dX5_mostAgreed_11 : decode cX5_mostAgreed 11 = .ok (.istore_n 3, 1) := by decide +kernel
theorem dX5_mostAgreed_12 : decode cX5_mostAgreed 12 = .ok (.iconst 1, 1) := by decide +kernel
theorem dX5_mostAgreed_13 : decode cX5_mostAgreed 13 = .ok (.istore 4, 2) := by decide +kernel
theorem dX5_mostAgreed_15 : decode cX5_mostAgreed 15 = .ok (.iload 4, 2) := by decide +kernel
theorem dX5_mostAgreed_17 : decode cX5_mostAgreed 17 = .ok (.iconst 1, 1) := by decide +kernel
theorem dX5_mostAgreed_18 : decode cX5_mostAgreed 18 = .ok (.aload_n 1, 1) := by decide +kernel
theorem dX5_mostAgreed_19 : decode cX5_mostAgreed 19 = .ok (.getfield 45, 3) := by decide +kernel
theorem dX5_mostAgreed_22 : decode cX5_mostAgreed 22 = .ok (.ishl, 1) := by decide +kernel
theorem dX5_mostAgreed_23 : decode cX5_mostAgreed 23 = .ok (.if_icmp .ge 42, 3) := by decide +kernel
theorem dX5_mostAgreed_26 : decode cX5_mostAgreed 26 = .ok (.iload 4, 2) := by decide +kernel
theorem dX5_mostAgreed_28 : decode cX5_mostAgreed 28 = .ok (.iload_n 2, 1) := by decide +kernel
theorem dX5_mostAgreed_29 : decode cX5_mostAgreed 29 = .ok (.iconst (-1), 1) := by decide +kernel
theorem dX5_mostAgreed_30 : decode cX5_mostAgreed 30 = .ok (.ixor, 1) := by decide +kernel
theorem dX5_mostAgreed_31 : decode cX5_mostAgreed 31 = .ok (.iand, 1) := by decide +kernel
theorem dX5_mostAgreed_32 : decode cX5_mostAgreed 32 = .ok (.ifCond .ne 27, 3) := by decide +kernel
theorem dX5_mostAgreed_35 : decode cX5_mostAgreed 35 = .ok (.iload 4, 2) := by decide +kernel
theorem dX5_mostAgreed_37 : decode cX5_mostAgreed 37 = .ok (.invokestatic 36, 3) := by decide +kernel
theorem dX5_mostAgreed_40 : decode cX5_mostAgreed 40 = .ok (.iload_n 3, 1) := by decide +kernel
theorem dX5_mostAgreed_41 : decode cX5_mostAgreed 41 = .ok (.invokestatic 36, 3) := by decide +kernel
theorem dX5_mostAgreed_44 : decode cX5_mostAgreed 44 = .ok (.if_icmp .le 15, 3) := by decide +kernel
theorem dX5_mostAgreed_47 : decode cX5_mostAgreed 47 = .ok (.aload_n 0, 1) := by decide +kernel
theorem dX5_mostAgreed_48 : decode cX5_mostAgreed 48 = .ok (.iload 4, 2) := by decide +kernel
theorem dX5_mostAgreed_50 : decode cX5_mostAgreed 50 = .ok (.invokevirtual 66, 3) := by decide +kernel
theorem dX5_mostAgreed_53 : decode cX5_mostAgreed 53 = .ok (.ifCond .eq 6, 3) := by decide +kernel
theorem dX5_mostAgreed_56 : decode cX5_mostAgreed 56 = .ok (.iload 4, 2) := by decide +kernel
theorem dX5_mostAgreed_58 : decode cX5_mostAgreed 58 = .ok (.istore_n 3, 1) := by decide +kernel
theorem dX5_mostAgreed_59 : decode cX5_mostAgreed 59 = .ok (.iinc 4 1, 3) := by decide +kernel
theorem dX5_mostAgreed_62 : decode cX5_mostAgreed 62 = .ok (.goto (-47), 3) := by decide +kernel
theorem dX5_mostAgreed_65 : decode cX5_mostAgreed 65 = .ok (.iload_n 3, 1) := by decide +kernel
theorem dX5_mostAgreed_66 : decode cX5_mostAgreed 66 = .ok (.ireturn, 1) := by decide +kernel
set_option maxRecDepth 20000 in
theorem ggX5_findFoes_X5_doClash : GoodIn wsX5_findFoes wsX5_doClash := goodIn_r _ [6, 7, 8, 9, 10, 11, 12, 13, 14, 15, 16, 17, 18, 19, 20, 21, 22, 23, 24, 25, 26, 27, 28, 29, 30, 31, 32, 33, 34, 35] (by decide +kernel) (by decide +kernel)
set_option maxRecDepth 20000 in
theorem gX5_findFoes_X5_doClash : GoodIn wsX5_findFoes (va_wsS RX5 55 yX5_doClash wsX5_doClash) := goodIn_app (goodIn_of _ (by decide +kernel)) ggX5_findFoes_X5_doClash
theorem dX5_findFoes_0 : decode cX5_findFoes 0 = .ok (.iconst 0, 1) := by decide +kernel
theorem dX5_findFoes_1 : decode cX5_findFoes 1 = .ok (.istore_n 2, 1) := by decide +kernel
theorem dX5_findFoes_2 : decode cX5_findFoes 2 = .ok (.iload_n 2, 1) := by decide +kernel
theorem dX5_findFoes_3 : decode cX5_findFoes 3 = .ok (.aload_n 1, 1) := by decide +kernel
theorem dX5_findFoes_4 : decode cX5_findFoes 4 = .ok (.getfield 45, 3) := by decide +kernel
theorem dX5_findFoes_7 : decode cX5_findFoes 7 = .ok (.if_icmp .ge 53, 3) := by decide +kernel
theorem dX5_findFoes_10 : decode cX5_findFoes 10 = .ok (.aload_n 0, 1) := by decide +kernel
theorem dX5_findFoes_11 : decode cX5_findFoes 11 = .ok (.getfield 9, 3) := by decide +kernel
theorem dX5_findFoes_14 : decode cX5_findFoes 14 = .ok (.iload_n 2, 1) := by decide +kernel
theorem dX5_findFoes_15 : decode cX5_findFoes 15 = .ok (.iconst 0, 1) := by decide +kernel
theorem dX5_findFoes_16 : decode cX5_findFoes 16 = .ok (.iastore, 1) := by decide +kernel
theorem dX5_findFoes_17 : decode cX5_findFoes 17 = .ok (.iconst 0, 1) := by decide +kernel
theorem dX5_findFoes_18 : decode cX5_findFoes 18 = .ok (.istore_n 3, 1) := by decide +kernel
theorem dX5_findFoes_19 : decode cX5_findFoes 19 = .ok (.iload_n 3, 1) := by decide +kernel
theorem dX5_findFoes_20 : decode cX5_findFoes 20 = .ok (.aload_n 1, 1) := by decide +kernel
theorem dX5_findFoes_21 : decode cX5_findFoes 21 = .ok (.getfield 45, 3) := by decide +kernel
theorem dX5_findFoes_24 : decode cX5_findFoes 24 = .ok (.if_icmp .ge 30, 3) := by decide +kernel
theorem dX5_findFoes_27 : decode cX5_findFoes 27 = .ok (.aload_n 1, 1) := by decide +kernel
theorem dX5_findFoes_28 : decode cX5_findFoes 28 = .ok (.iload_n 2, 1) := by decide +kernel
theorem dX5_findFoes_29 : decode cX5_findFoes 29 = .ok (.iload_n 3, 1) := by decide +kernel
theorem dX5_findFoes_30 : decode cX5_findFoes 30 = .ok (.invokestatic 55, 3) := by decide +kernel
theorem dX5_findFoes_33 : decode cX5_findFoes 33 = .ok (.ifCond .eq 15, 3) := by decide +kernel
theorem dX5_findFoes_36 : decode cX5_findFoes 36 = .ok (.aload_n 0, 1) := by decide +kernel
theorem dX5_findFoes_37 : decode cX5_findFoes 37 = .ok (.getfield 9, 3) := by decide +kernel
theorem dX5_findFoes_40 : decode cX5_findFoes 40 = .ok (.iload_n 2, 1) := by decide +kernel
theorem dX5_findFoes_41 : decode cX5_findFoes 41 = .ok (.dup2, 1) := by decide +kernel
theorem dX5_findFoes_42 : decode cX5_findFoes 42 = .ok (.iaload, 1) := by decide +kernel
theorem dX5_findFoes_43 : decode cX5_findFoes 43 = .ok (.iconst 1, 1) := by decide +kernel
theorem dX5_findFoes_44 : decode cX5_findFoes 44 = .ok (.iload_n 3, 1) := by decide +kernel
theorem dX5_findFoes_45 : decode cX5_findFoes 45 = .ok (.ishl, 1) := by decide +kernel
theorem dX5_findFoes_46 : decode cX5_findFoes 46 = .ok (.ior, 1) := by decide +kernel
theorem dX5_findFoes_47 : decode cX5_findFoes 47 = .ok (.iastore, 1) := by decide +kernel
theorem dX5_findFoes_48 : decode cX5_findFoes 48 = .ok (.iinc 3 1, 3) := by decide +kernel
theorem dX5_findFoes_51 : decode cX5_findFoes 51 = .ok (.goto (-32), 3) := by decide +kernel
theorem dX5_findFoes_54 : decode cX5_findFoes 54 = .ok (.iinc 2 1, 3) := by decide +kernel
theorem dX5_findFoes_57 : decode cX5_findFoes 57 = .ok (.goto (-55), 3) := by decide +kernel
theorem dX5_findFoes_60 : decode cX5_findFoes 60 = .ok (.return_, 1) := by decide +kernel
theorem dX5_isPeaceful_0 : decode cX5_isPeaceful 0 = .ok (.iconst 0, 1) := by decide +kernel
theorem dX5_isPeaceful_1 : decode cX5_isPeaceful 1 = .ok (.istore_n 2, 1) := by decide +kernel
theorem dX5_isPeaceful_2 : decode cX5_isPeaceful 2 = .ok (.iload_n 2, 1) := by decide +kernel
theorem dX5_isPeaceful_3 : decode cX5_isPeaceful 3 = .ok (.bipush 8, 2) := by decide +kernel
theorem dX5_isPeaceful_5 : decode cX5_isPeaceful 5 = .ok (.if_icmp .ge 30, 3) := by decide +kernel
theorem dX5_isPeaceful_8 : decode cX5_isPeaceful 8 = .ok (.iload_n 1, 1) := by decide +kernel
theorem dX5_isPeaceful_9 : decode cX5_isPeaceful 9 = .ok (.iload_n 2, 1) := by decide +kernel
theorem dX5_isPeaceful_10 : decode cX5_isPeaceful 10 = .ok (.ishr, 1) := by decide +kernel
theorem dX5_isPeaceful_11 : decode cX5_isPeaceful 11 = .ok (.iconst 1, 1) := by decide +kernel
theorem dX5_isPeaceful_12 : decode cX5_isPeaceful 12 = .ok (.iand, 1) := by decide +kernel
theorem dX5_isPeaceful_13 : decode cX5_isPeaceful 13 = .ok (.ifCond .eq 16, 3) := by decide +kernel
theorem dX5_isPeaceful_16 : decode cX5_isPeaceful 16 = .ok (.aload_n 0, 1) := by decide +kernel
theorem dX5_isPeaceful_17 : decode cX5_isPeaceful 17 = .ok (.getfield 9, 3) := by decide +kernel
theorem dX5_isPeaceful_20 : decode cX5_isPeaceful 20 = .ok (.iload_n 2, 1) := by decide +kernel
theorem dX5_isPeaceful_21 : decode cX5_isPeaceful 21 = .ok (.iaload, 1) := by decide +kernel
theorem dX5_isPeaceful_22 : decode cX5_isPeaceful 22 = .ok (.iload_n 1, 1) := by decide +kernel
theorem dX5_isPeaceful_23 : decode cX5_isPeaceful 23 = .ok (.iand, 1) := by decide +kernel
theorem dX5_isPeaceful_24 : decode cX5_isPeaceful 24 = .ok (.ifCond .eq 5, 3) := by decide +kernel
theorem dX5_isPeaceful_27 : decode cX5_isPeaceful 27 = .ok (.iconst 0, 1) := by decide +kernel
theorem dX5_isPeaceful_28 : decode cX5_isPeaceful 28 = .ok (.ireturn, 1) := by decide +kernel
theorem dX5_isPeaceful_29 : decode cX5_isPeaceful 29 = .ok (.iinc 2 1, 3) := by decide +kernel
theorem dX5_isPeaceful_32 : decode cX5_isPeaceful 32 = .ok (.goto (-30), 3) := by decide +kernel
theorem dX5_isPeaceful_35 : decode cX5_isPeaceful 35 = .ok (.iconst 1, 1) := by decide +kernel
theorem dX5_isPeaceful_36 : decode cX5_isPeaceful 36 = .ok (.ireturn, 1) := by decide +kernel
set_option maxRecDepth 20000 in
theorem ggX5_hoursSaid_X4_hearsIt : GoodIn wsX5_hoursSaid wsX4_hearsIt := goodIn_r _ [7, 8, 9, 10, 11, 12, 13, 14, 6, 15, 16, 25, 26, 27, 28, 29, 30, 31, 32, 33, 34] (by decide +kernel) (by decide +kernel)
set_option maxRecDepth 20000 in
theorem gX5_hoursSaid_X4_hearsIt : GoodIn wsX5_hoursSaid (wsV RX5 51 RX4 yX4_hearsIt wsX4_hearsIt) := goodIn_app (goodIn_of _ (by decide +kernel)) ggX5_hoursSaid_X4_hearsIt
set_option maxRecDepth 20000 in
theorem ggX5_hoursSaid_X4_hourBy : GoodIn wsX5_hoursSaid wsX4_hourBy := goodIn_r _ [20, 11, 21, 22, 23, 6, 24, 10, 16, 25, 26, 27, 28, 29, 30, 31, 32, 33, 34] (by decide +kernel) (by decide +kernel)
set_option maxRecDepth 20000 in
theorem gX5_hoursSaid_X4_hourBy : GoodIn wsX5_hoursSaid (wsV RX5 70 RX4 yX4_hourBy wsX4_hourBy) := goodIn_app (goodIn_of _ (by decide +kernel)) ggX5_hoursSaid_X4_hourBy
theorem dX5_hoursSaid_0 : decode cX5_hoursSaid 0 = .ok (.iconst 0, 1) := by decide +kernel
theorem dX5_hoursSaid_1 : decode cX5_hoursSaid 1 = .ok (.istore_n 2, 1) := by decide +kernel
theorem dX5_hoursSaid_2 : decode cX5_hoursSaid 2 = .ok (.iconst 0, 1) := by decide +kernel
theorem dX5_hoursSaid_3 : decode cX5_hoursSaid 3 = .ok (.istore_n 3, 1) := by decide +kernel
theorem dX5_hoursSaid_4 : decode cX5_hoursSaid 4 = .ok (.iload_n 3, 1) := by decide +kernel
theorem dX5_hoursSaid_5 : decode cX5_hoursSaid 5 = .ok (.aload_n 1, 1) := by decide +kernel
theorem dX5_hoursSaid_6 : decode cX5_hoursSaid 6 = .ok (.getfield 15, 3) := by decide +kernel
theorem dX5_hoursSaid_9 : decode cX5_hoursSaid 9 = .ok (.if_icmp .ge 49, 3) := by decide +kernel
theorem dX5_hoursSaid_12 : decode cX5_hoursSaid 12 = .ok (.iconst 0, 1) := by decide +kernel
theorem dX5_hoursSaid_13 : decode cX5_hoursSaid 13 = .ok (.istore 4, 2) := by decide +kernel
theorem dX5_hoursSaid_15 : decode cX5_hoursSaid 15 = .ok (.iload 4, 2) := by decide +kernel
theorem dX5_hoursSaid_17 : decode cX5_hoursSaid 17 = .ok (.aload_n 1, 1) := by decide +kernel
theorem dX5_hoursSaid_18 : decode cX5_hoursSaid 18 = .ok (.getfield 45, 3) := by decide +kernel
theorem dX5_hoursSaid_21 : decode cX5_hoursSaid 21 = .ok (.if_icmp .ge 31, 3) := by decide +kernel
theorem dX5_hoursSaid_24 : decode cX5_hoursSaid 24 = .ok (.aload_n 1, 1) := by decide +kernel
theorem dX5_hoursSaid_25 : decode cX5_hoursSaid 25 = .ok (.iload 4, 2) := by decide +kernel
theorem dX5_hoursSaid_27 : decode cX5_hoursSaid 27 = .ok (.iload_n 3, 1) := by decide +kernel
theorem dX5_hoursSaid_28 : decode cX5_hoursSaid 28 = .ok (.invokevirtual 51, 3) := by decide +kernel
theorem dX5_hoursSaid_31 : decode cX5_hoursSaid 31 = .ok (.ifCond .eq 15, 3) := by decide +kernel
theorem dX5_hoursSaid_34 : decode cX5_hoursSaid 34 = .ok (.iload_n 2, 1) := by decide +kernel
theorem dX5_hoursSaid_35 : decode cX5_hoursSaid 35 = .ok (.iconst 1, 1) := by decide +kernel
theorem dX5_hoursSaid_36 : decode cX5_hoursSaid 36 = .ok (.aload_n 1, 1) := by decide +kernel
theorem dX5_hoursSaid_37 : decode cX5_hoursSaid 37 = .ok (.iload 4, 2) := by decide +kernel
theorem dX5_hoursSaid_39 : decode cX5_hoursSaid 39 = .ok (.iload_n 3, 1) := by decide +kernel
theorem dX5_hoursSaid_40 : decode cX5_hoursSaid 40 = .ok (.invokevirtual 70, 3) := by decide +kernel
theorem dX5_hoursSaid_43 : decode cX5_hoursSaid 43 = .ok (.ishl, 1) := by decide +kernel
theorem dX5_hoursSaid_44 : decode cX5_hoursSaid 44 = .ok (.ior, 1) := by decide +kernel
theorem dX5_hoursSaid_45 : decode cX5_hoursSaid 45 = .ok (.istore_n 2, 1) := by decide +kernel
theorem dX5_hoursSaid_46 : decode cX5_hoursSaid 46 = .ok (.iinc 4 1, 3) := by decide +kernel
theorem dX5_hoursSaid_49 : decode cX5_hoursSaid 49 = .ok (.goto (-34), 3) := by decide +kernel
theorem dX5_hoursSaid_52 : decode cX5_hoursSaid 52 = .ok (.iinc 3 1, 3) := by decide +kernel
theorem dX5_hoursSaid_55 : decode cX5_hoursSaid 55 = .ok (.goto (-51), 3) := by decide +kernel
theorem dX5_hoursSaid_58 : decode cX5_hoursSaid 58 = .ok (.iload_n 2, 1) := by decide +kernel
theorem dX5_hoursSaid_59 : decode cX5_hoursSaid 59 = .ok (.ireturn, 1) := by decide +kernel
set_option maxRecDepth 20000 in
theorem ggX6_init_X4_init : GoodIn wsX6_init wsX4_init := goodIn_r _ [33, 34, 2, 3, 29, 35, 36, 37, 38, 39, 40, 41, 75, 76, 77, 78, 79, 80, 81, 82, 83, 84] (by decide +kernel) (by decide +kernel)
set_option maxRecDepth 20000 in
theorem gX6_init_X4_init : GoodIn wsX6_init (wsX4_init) := ggX6_init_X4_init
set_option maxRecDepth 20000 in
theorem ggX6_init_X0_init : GoodIn wsX6_init wsX0_init := goodIn_r _ [44, 45, 2, 3, 29, 46, 47, 5, 6, 48, 49, 32, 33, 34, 35, 36, 37, 38, 39, 40, 41, 94, 95, 96, 75, 76, 77, 78, 79, 80, 81, 82, 83, 84] (by decide +kernel) (by decide +kernel)
set_option maxRecDepth 20000 in
theorem gX6_init_X0_init : GoodIn wsX6_init (wsX0_init) := ggX6_init_X0_init
set_option maxRecDepth 20000 in
theorem ggX6_init_X2_init : GoodIn wsX6_init wsX2_init := goodIn_r _ [52, 53, 2, 3, 29, 54, 97, 98] (by decide +kernel) (by decide +kernel)
set_option maxRecDepth 20000 in
theorem gX6_init_X2_init : GoodIn wsX6_init (wsX2_init) := ggX6_init_X2_init
set_option maxRecDepth 20000 in
theorem ggX6_init_X5_init : GoodIn wsX6_init wsX5_init := goodIn_r _ [57, 58, 2, 3, 29, 59, 99] (by decide +kernel) (by decide +kernel)
set_option maxRecDepth 20000 in
theorem gX6_init_X5_init : GoodIn wsX6_init (wsX5_init) := ggX6_init_X5_init
set_option maxRecDepth 20000 in
theorem ggX6_init_X1_init : GoodIn wsX6_init wsX1_init := goodIn_r _ [62, 63, 2, 3, 64, 5, 6, 65, 66, 32, 33, 34, 29, 35, 36, 37, 38, 39, 40, 41, 75, 76, 77, 78, 79, 80, 81, 82, 83, 84, 100] (by decide +kernel) (by decide +kernel)
set_option maxRecDepth 20000 in
theorem gX6_init_X1_init : GoodIn wsX6_init (wsX1_init) := ggX6_init_X1_init
set_option maxRecDepth 20000 in
theorem ggX6_init_X3_init : GoodIn wsX6_init wsX3_init := goodIn_r _ [69, 70, 2, 3, 71, 5, 6, 72, 29, 73, 74, 32, 33, 34, 35, 36, 37, 38, 39, 40, 41, 75, 76, 77, 78, 79, 80, 81, 82, 83, 84, 101, 102] (by decide +kernel) (by decide +kernel)
set_option maxRecDepth 20000 in
theorem gX6_init_X3_init : GoodIn wsX6_init (wsX3_init) := ggX6_init_X3_init
theorem dX6_init_0 : decode cX6_init 0 = .ok (.aload_n 0, 1) := by decide +kernel
theorem dX6_init_1 : decode cX6_init 1 = .ok (.invokespecial 1, 3) := by decide +kernel
theorem dX6_init_4 : decode cX6_init 4 = .ok (.aload_n 0, 1) := by decide +kernel
theorem dX6_init_5 : decode cX6_init 5 = .ok (.new 7, 3) := by decide +kernel
theorem dX6_init_8 : decode cX6_init 8 = .ok (.dup, 1) := by decide +kernel
theorem dX6_init_9 : decode cX6_init 9 = .ok (.invokespecial 9, 3) := by decide +kernel
theorem dX6_init_12 : decode cX6_init 12 = .ok (.putfield 10, 3) := by decide +kernel
theorem dX6_init_15 : decode cX6_init 15 = .ok (.aload_n 0, 1) := by decide +kernel
theorem dX6_init_16 : decode cX6_init 16 = .ok (.new 7, 3) := by decide +kernel
theorem dX6_init_19 : decode cX6_init 19 = .ok (.dup, 1) := by decide +kernel
theorem dX6_init_20 : decode cX6_init 20 = .ok (.invokespecial 9, 3) := by decide +kernel
theorem dX6_init_23 : decode cX6_init 23 = .ok (.putfield 16, 3) := by decide +kernel
theorem dX6_init_26 : decode cX6_init 26 = .ok (.aload_n 0, 1) := by decide +kernel
theorem dX6_init_27 : decode cX6_init 27 = .ok (.new 19, 3) := by decide +kernel
theorem dX6_init_30 : decode cX6_init 30 = .ok (.dup, 1) := by decide +kernel
theorem dX6_init_31 : decode cX6_init 31 = .ok (.invokespecial 21, 3) := by decide +kernel
theorem dX6_init_34 : decode cX6_init 34 = .ok (.putfield 22, 3) := by decide +kernel
theorem dX6_init_37 : decode cX6_init 37 = .ok (.aload_n 0, 1) := by decide +kernel
theorem dX6_init_38 : decode cX6_init 38 = .ok (.new 26, 3) := by decide +kernel
theorem dX6_init_41 : decode cX6_init 41 = .ok (.dup, 1) := by decide +kernel
theorem dX6_init_42 : decode cX6_init 42 = .ok (.invokespecial 28, 3) := by decide +kernel
theorem dX6_init_45 : decode cX6_init 45 = .ok (.putfield 29, 3) := by decide +kernel
theorem dX6_init_48 : decode cX6_init 48 = .ok (.aload_n 0, 1) := by decide +kernel
theorem dX6_init_49 : decode cX6_init 49 = .ok (.new 33, 3) := by decide +kernel
theorem dX6_init_52 : decode cX6_init 52 = .ok (.dup, 1) := by decide +kernel
theorem dX6_init_53 : decode cX6_init 53 = .ok (.invokespecial 35, 3) := by decide +kernel
theorem dX6_init_56 : decode cX6_init 56 = .ok (.putfield 36, 3) := by decide +kernel
theorem dX6_init_59 : decode cX6_init 59 = .ok (.aload_n 0, 1) := by decide +kernel
theorem dX6_init_60 : decode cX6_init 60 = .ok (.new 40, 3) := by decide +kernel
theorem dX6_init_63 : decode cX6_init 63 = .ok (.dup, 1) := by decide +kernel
theorem dX6_init_64 : decode cX6_init 64 = .ok (.invokespecial 42, 3) := by decide +kernel
theorem dX6_init_67 : decode cX6_init 67 = .ok (.putfield 43, 3) := by decide +kernel
theorem dX6_init_70 : decode cX6_init 70 = .ok (.aload_n 0, 1) := by decide +kernel
theorem dX6_init_71 : decode cX6_init 71 = .ok (.new 47, 3) := by decide +kernel
theorem dX6_init_74 : decode cX6_init 74 = .ok (.dup, 1) := by decide +kernel
theorem dX6_init_75 : decode cX6_init 75 = .ok (.invokespecial 49, 3) := by decide +kernel
theorem dX6_init_78 : decode cX6_init 78 = .ok (.putfield 50, 3) := by decide +kernel
theorem dX6_init_81 : decode cX6_init 81 = .ok (.aload_n 0, 1) := by decide +kernel
theorem dX6_init_82 : decode cX6_init 82 = .ok (.bipush 7, 2) := by decide +kernel
theorem dX6_init_84 : decode cX6_init 84 = .ok (.newarray .int, 2) := by decide +kernel
theorem dX6_init_86 : decode cX6_init 86 = .ok (.putfield 54, 3) := by decide +kernel
theorem dX6_init_89 : decode cX6_init 89 = .ok (.return_, 1) := by decide +kernel
set_option maxRecDepth 20000 in
theorem ggX6_letter_X6_range : GoodIn wsX6_letter wsX6_range := goodIn_r _ [6] (by decide +kernel) (by decide +kernel)
set_option maxRecDepth 20000 in
theorem gX6_letter_X6_range : GoodIn wsX6_letter (va_wsS RX6 58 yX6_range wsX6_range) := goodIn_app (goodIn_of _ (by decide +kernel)) ggX6_letter_X6_range
set_option maxRecDepth 20000 in
theorem ggX6_letter_X6_first : GoodIn wsX6_letter wsX6_first := goodIn_r _ [9] (by decide +kernel) (by decide +kernel)
set_option maxRecDepth 20000 in
theorem gX6_letter_X6_first : GoodIn wsX6_letter (va_wsS RX6 66 yX6_first wsX6_first) := goodIn_app (goodIn_of _ (by decide +kernel)) ggX6_letter_X6_first
set_option maxRecDepth 20000 in
theorem ggX6_letter_X6_refused : GoodIn wsX6_letter wsX6_refused := goodIn_r _ [13, 14, 22, 23, 24, 25, 26, 27, 28, 29, 30] (by decide +kernel) (by decide +kernel)
set_option maxRecDepth 20000 in
theorem gX6_letter_X6_refused : GoodIn wsX6_letter (wsV RX6 70 RX6 yX6_refused wsX6_refused) := goodIn_app (goodIn_of _ (by decide +kernel)) ggX6_letter_X6_refused
set_option maxRecDepth 20000 in
theorem ggX6_letter_X0_add : GoodIn wsX6_letter wsX0_add := goodIn_r _ [19, 20, 21, 31, 32, 33] (by decide +kernel) (by decide +kernel)
set_option maxRecDepth 20000 in
theorem gX6_letter_X0_add : GoodIn wsX6_letter (wsV RX6 74 RX0 yX0_add wsX0_add) := goodIn_app (goodIn_of _ (by decide +kernel)) ggX6_letter_X0_add
theorem dX6_letter_0 : decode cX6_letter 0 = .ok (.iload_n 1, 1) := by decide +kernel
theorem dX6_letter_1 : decode cX6_letter 1 = .ok (.iconst 0, 1) := by decide +kernel
theorem dX6_letter_2 : decode cX6_letter 2 = .ok (.sipush 255, 3) := by decide +kernel
theorem dX6_letter_5 : decode cX6_letter 5 = .ok (.invokestatic 58, 3) := by decide +kernel
theorem dX6_letter_8 : decode cX6_letter 8 = .ok (.aload_n 0, 1) := by decide +kernel
theorem dX6_letter_9 : decode cX6_letter 9 = .ok (.getfield 22, 3) := by decide +kernel
theorem dX6_letter_12 : decode cX6_letter 12 = .ok (.getfield 62, 3) := by decide +kernel
theorem dX6_letter_15 : decode cX6_letter 15 = .ok (.bipush 96, 2) := by decide +kernel
theorem dX6_letter_17 : decode cX6_letter 17 = .ok (.if_icmp .ge 7, 3) := by decide +kernel
theorem dX6_letter_20 : decode cX6_letter 20 = .ok (.iconst 0, 1) := by decide +kernel
theorem dX6_letter_21 : decode cX6_letter 21 = .ok (.goto 5, 3) := by decide +kernel
theorem dX6_letter_24 : decode cX6_letter 24 = .ok (.bipush (-6), 2) := by decide +kernel
theorem dX6_letter_26 : decode cX6_letter 26 = .ok (.invokestatic 66, 3) := by decide +kernel
theorem dX6_letter_29 : decode cX6_letter 29 = .ok (.istore_n 2, 1) := by decide +kernel
theorem dX6_letter_30 : decode cX6_letter 30 = .ok (.iload_n 2, 1) := by decide +kernel
theorem dX6_letter_31 : decode cX6_letter 31 = .ok (.ifCond .eq 9, 3) := by decide +kernel
theorem dX6_letter_34 : decode cX6_letter 34 = .ok (.aload_n 0, 1) := by decide +kernel
theorem dX6_letter_35 : decode cX6_letter 35 = .ok (.iload_n 2, 1) := by decide +kernel
theorem dX6_letter_36 : decode cX6_letter 36 = .ok (.invokevirtual 70, 3) := by decide +kernel
theorem dX6_letter_39 : decode cX6_letter 39 = .ok (.ireturn, 1) := by decide +kernel
theorem dX6_letter_40 : decode cX6_letter 40 = .ok (.aload_n 0, 1) := by decide +kernel
theorem dX6_letter_41 : decode cX6_letter 41 = .ok (.getfield 22, 3) := by decide +kernel
theorem dX6_letter_44 : decode cX6_letter 44 = .ok (.iload_n 1, 1) := by decide +kernel
theorem dX6_letter_45 : decode cX6_letter 45 = .ok (.invokevirtual 74, 3) := by decide +kernel
theorem dX6_letter_48 : decode cX6_letter 48 = .ok (.aload_n 0, 1) := by decide +kernel
theorem dX6_letter_49 : decode cX6_letter 49 = .ok (.getfield 22, 3) := by decide +kernel
theorem dX6_letter_52 : decode cX6_letter 52 = .ok (.getfield 62, 3) := by decide +kernel
theorem dX6_letter_55 : decode cX6_letter 55 = .ok (.ireturn, 1) := by decide +kernel
set_option maxRecDepth 20000 in
theorem ggX6_town_X0_tell : GoodIn wsX6_town wsX0_tell := goodIn_r _ [7, 8, 9, 10, 11, 12, 13, 6, 14, 15, 16, 17, 18, 19, 20, 21, 22, 23, 24, 25, 26, 27, 28, 29, 30, 31, 32, 33, 34, 35, 36, 37, 38, 39, 40, 41, 42, 43, 44, 45, 46, 47, 48, 49, 50, 51, 52, 53, 54, 55, 56, 57, 58, 59, 60, 61, 62, 63, 64, 65, 66, 67, 68, 69, 70, 71, 72, 73, 74, 75, 76, 77, 78, 79, 80, 81, 82, 83, 84, 85, 86, 87, 88, 89, 90, 91, 92, 93, 94, 95, 96, 97, 98, 99, 100, 101, 102, 103, 104, 105, 106, 107, 108, 109, 110, 111, 112, 113, 114, 115, 116, 117, 118, 119, 120, 121, 122, 123, 124, 125, 126, 127, 128, 129, 130, 131, 132, 133, 134, 135, 136, 137, 138, 139, 140, 141, 142, 143, 144, 145, 146, 147, 148, 149, 150, 151, 152, 153, 154, 155, 156, 157, 158, 159, 160, 161, 162, 163, 164, 165, 166, 167, 168, 169, 170, 171, 172, 173, 174, 175, 176, 177, 178, 179, 180, 181, 182, 183, 197, 198, 199, 200, 201, 202, 203, 204, 205, 206, 207, 208, 209] (by decide +kernel) (by decide +kernel)
set_option maxRecDepth 20000 in
theorem gX6_town_X0_tell : GoodIn wsX6_town (wsV RX6 78 RX0 yX0_tell wsX0_tell) := goodIn_app (goodIn_of _ (by decide +kernel)) ggX6_town_X0_tell
set_option maxRecDepth 20000 in
theorem ggX6_town_X0_forget : GoodIn wsX6_town wsX0_forget := goodIn_r _ [187, 9, 197, 198, 199] (by decide +kernel) (by decide +kernel)
set_option maxRecDepth 20000 in
theorem gX6_town_X0_forget : GoodIn wsX6_town (wsV RX6 82 RX0 yX0_forget wsX0_forget) := goodIn_app (goodIn_of _ (by decide +kernel)) ggX6_town_X0_forget
theorem dX6_town_0 : decode cX6_town 0 = .ok (.aload_n 0, 1) := by decide +kernel
theorem dX6_town_1 : decode cX6_town 1 = .ok (.getfield 22, 3) := by decide +kernel
theorem dX6_town_4 : decode cX6_town 4 = .ok (.aload_n 0, 1) := by decide +kernel
theorem dX6_town_5 : decode cX6_town 5 = .ok (.getfield 10, 3) := by decide +kernel
theorem dX6_town_8 : decode cX6_town 8 = .ok (.invokevirtual 78, 3) := by decide +kernel
theorem dX6_town_11 : decode cX6_town 11 = .ok (.istore_n 1, 1) := by decide +kernel
theorem dX6_town_12 : decode cX6_town 12 = .ok (.aload_n 0, 1) := by decide +kernel
theorem dX6_town_13 : decode cX6_town 13 = .ok (.getfield 22, 3) := by decide +kernel
theorem dX6_town_16 : decode cX6_town 16 = .ok (.invokevirtual 82, 3) := by decide +kernel
theorem dX6_town_19 : decode cX6_town 19 = .ok (.iload_n 1, 1) := by decide +kernel
theorem dX6_town_20 : decode cX6_town 20 = .ok (.ireturn, 1) := by decide +kernel
set_option maxRecDepth 20000 in
theorem ggX6_bell_X6_noBell : GoodIn wsX6_bell wsX6_noBell := goodIn_r _ [8, 1, 9, 48, 49, 50, 51, 52, 53, 54, 55, 56, 57, 58, 59, 60, 61, 62, 63, 64, 65, 66] (by decide +kernel) (by decide +kernel)
set_option maxRecDepth 20000 in
theorem gX6_bell_X6_noBell : GoodIn wsX6_bell (wsV RX6 85 RX6 yX6_noBell wsX6_noBell) := goodIn_app (goodIn_of _ (by decide +kernel)) ggX6_bell_X6_noBell
set_option maxRecDepth 20000 in
theorem ggX6_bell_X6_choice : GoodIn wsX6_bell wsX6_choice := goodIn_r _ [12] (by decide +kernel) (by decide +kernel)
set_option maxRecDepth 20000 in
theorem gX6_bell_X6_choice : GoodIn wsX6_bell (va_wsS RX6 88 yX6_choice wsX6_choice) := goodIn_app (goodIn_of _ (by decide +kernel)) ggX6_bell_X6_choice
set_option maxRecDepth 20000 in
theorem ggX6_bell_X6_first : GoodIn wsX6_bell wsX6_first := goodIn_r _ [15] (by decide +kernel) (by decide +kernel)
set_option maxRecDepth 20000 in
theorem gX6_bell_X6_first : GoodIn wsX6_bell (va_wsS RX6 66 yX6_first wsX6_first) := goodIn_app (goodIn_of _ (by decide +kernel)) ggX6_bell_X6_first
set_option maxRecDepth 20000 in
theorem ggX6_bell_X6_refused : GoodIn wsX6_bell wsX6_refused := goodIn_r _ [19, 20, 48, 49, 50, 51, 52, 53, 54, 55, 56] (by decide +kernel) (by decide +kernel)
set_option maxRecDepth 20000 in
theorem gX6_bell_X6_refused : GoodIn wsX6_bell (wsV RX6 70 RX6 yX6_refused wsX6_refused) := goodIn_app (goodIn_of _ (by decide +kernel)) ggX6_bell_X6_refused
set_option maxRecDepth 20000 in
theorem ggX6_bell_X4_hearersOf : GoodIn wsX6_bell wsX4_hearersOf := goodIn_r _ [25, 26, 27, 28, 29, 24, 30, 31, 32, 33, 34, 35, 36, 37, 38, 39, 57, 58, 59, 60, 61, 62, 63, 64, 65, 66] (by decide +kernel) (by decide +kernel)
set_option maxRecDepth 20000 in
theorem gX6_bell_X4_hearersOf : GoodIn wsX6_bell (wsV RX6 97 RX4 yX4_hearersOf wsX4_hearersOf) := goodIn_app (goodIn_of _ (by decide +kernel)) ggX6_bell_X4_hearersOf
set_option maxRecDepth 20000 in
theorem ggX6_bell_X4_saidOf : GoodIn wsX6_bell wsX4_saidOf := goodIn_r _ [43, 26, 34, 44, 45, 46, 24, 47, 33, 39, 57, 58, 59, 60, 61, 62, 63, 64, 65, 66] (by decide +kernel) (by decide +kernel)
set_option maxRecDepth 20000 in
theorem gX6_bell_X4_saidOf : GoodIn wsX6_bell (wsV RX6 100 RX4 yX4_saidOf wsX4_saidOf) := goodIn_app (goodIn_of _ (by decide +kernel)) ggX6_bell_X4_saidOf
theorem dX6_bell_0 : decode cX6_bell 0 = .ok (.aload_n 0, 1) := by decide +kernel
theorem dX6_bell_1 : decode cX6_bell 1 = .ok (.iload_n 1, 1) := by decide +kernel
theorem dX6_bell_2 : decode cX6_bell 2 = .ok (.invokevirtual 85, 3) := by decide +kernel
theorem dX6_bell_5 : decode cX6_bell 5 = .ok (.iload_n 2, 1) := by decide +kernel
theorem dX6_bell_6 : decode cX6_bell 6 = .ok (.iconst 4, 1) := by decide +kernel
theorem dX6_bell_7 : decode cX6_bell 7 = .ok (.invokestatic 88, 3) := by decide +kernel
theorem dX6_bell_10 : decode cX6_bell 10 = .ok (.invokestatic 66, 3) := by decide +kernel
theorem dX6_bell_13 : decode cX6_bell 13 = .ok (.istore_n 3, 1) := by decide +kernel
theorem dX6_bell_14 : decode cX6_bell 14 = .ok (.iload_n 3, 1) := by decide +kernel
theorem dX6_bell_15 : decode cX6_bell 15 = .ok (.ifCond .eq 9, 3) := by decide +kernel
theorem dX6_bell_18 : decode cX6_bell 18 = .ok (.aload_n 0, 1) := by decide +kernel
theorem dX6_bell_19 : decode cX6_bell 19 = .ok (.iload_n 3, 1) := by decide +kernel
theorem dX6_bell_20 : decode cX6_bell 20 = .ok (.invokevirtual 70, 3) := by decide +kernel
theorem dX6_bell_23 : decode cX6_bell 23 = .ok (.ireturn, 1) := by decide +kernel
theorem dX6_bell_24 : decode cX6_bell 24 = .ok (.iload_n 2, 1) := by decide +kernel
theorem dX6_bell_25 : decode cX6_bell 25 = .ok (.tableswitch 56 0 2 #[27, 37, 47], 27) := by decide +kernel
theorem dX6_bell_52 : decode cX6_bell 52 = .ok (.aload_n 0, 1) := by decide +kernel
theorem dX6_bell_53 : decode cX6_bell 53 = .ok (.getfield 10, 3) := by decide +kernel
theorem dX6_bell_56 : decode cX6_bell 56 = .ok (.getfield 91, 3) := by decide +kernel
theorem dX6_bell_59 : decode cX6_bell 59 = .ok (.iload_n 1, 1) := by decide +kernel
theorem dX6_bell_60 : decode cX6_bell 60 = .ok (.iaload, 1) := by decide +kernel
theorem dX6_bell_61 : decode cX6_bell 61 = .ok (.ireturn, 1) := by decide +kernel
theorem dX6_bell_62 : decode cX6_bell 62 = .ok (.aload_n 0, 1) := by decide +kernel
theorem dX6_bell_63 : decode cX6_bell 63 = .ok (.getfield 10, 3) := by decide +kernel
theorem dX6_bell_66 : decode cX6_bell 66 = .ok (.getfield 94, 3) := by decide +kernel
theorem dX6_bell_69 : decode cX6_bell 69 = .ok (.iload_n 1, 1) := by decide +kernel
theorem dX6_bell_70 : decode cX6_bell 70 = .ok (.iaload, 1) := by decide +kernel
theorem dX6_bell_71 : decode cX6_bell 71 = .ok (.ireturn, 1) := by decide +kernel
theorem dX6_bell_72 : decode cX6_bell 72 = .ok (.aload_n 0, 1) := by decide +kernel
theorem dX6_bell_73 : decode cX6_bell 73 = .ok (.getfield 10, 3) := by decide +kernel
theorem dX6_bell_76 : decode cX6_bell 76 = .ok (.iload_n 1, 1) := by decide +kernel
theorem dX6_bell_77 : decode cX6_bell 77 = .ok (.invokevirtual 97, 3) := by decide +kernel
theorem dX6_bell_80 : decode cX6_bell 80 = .ok (.ireturn, 1) := by decide +kernel
theorem dX6_bell_81 : decode cX6_bell 81 = .ok (.aload_n 0, 1) := by decide +kernel
theorem dX6_bell_82 : decode cX6_bell 82 = .ok (.getfield 10, 3) := by decide +kernel
theorem dX6_bell_85 : decode cX6_bell 85 = .ok (.iload_n 1, 1) := by decide +kernel
theorem dX6_bell_86 : decode cX6_bell 86 = .ok (.aload_n 0, 1) := by decide +kernel
theorem dX6_bell_87 : decode cX6_bell 87 = .ok (.getfield 10, 3) := by decide +kernel
theorem dX6_bell_90 : decode cX6_bell 90 = .ok (.iload_n 1, 1) := by decide +kernel
theorem dX6_bell_91 : decode cX6_bell 91 = .ok (.invokevirtual 97, 3) := by decide +kernel
theorem dX6_bell_94 : decode cX6_bell 94 = .ok (.invokevirtual 100, 3) := by decide +kernel
theorem dX6_bell_97 : decode cX6_bell 97 = .ok (.ireturn, 1) := by decide +kernel
set_option maxRecDepth 20000 in
theorem ggX6_person_X6_noPerson : GoodIn wsX6_person wsX6_noPerson := goodIn_r _ [10, 1, 11, 30, 31, 32, 33, 34, 35, 36, 37, 38, 39, 40, 41, 42, 43, 44, 45, 46, 47, 48] (by decide +kernel) (by decide +kernel)
set_option maxRecDepth 20000 in
theorem gX6_person_X6_noPerson : GoodIn wsX6_person (wsV RX6 103 RX6 yX6_noPerson wsX6_noPerson) := goodIn_app (goodIn_of _ (by decide +kernel)) ggX6_person_X6_noPerson
set_option maxRecDepth 20000 in
theorem ggX6_person_X6_choice : GoodIn wsX6_person wsX6_choice := goodIn_r _ [14] (by decide +kernel) (by decide +kernel)
set_option maxRecDepth 20000 in
theorem gX6_person_X6_choice : GoodIn wsX6_person (va_wsS RX6 88 yX6_choice wsX6_choice) := goodIn_app (goodIn_of _ (by decide +kernel)) ggX6_person_X6_choice
set_option maxRecDepth 20000 in
theorem ggX6_person_X6_first : GoodIn wsX6_person wsX6_first := goodIn_r _ [17] (by decide +kernel) (by decide +kernel)
set_option maxRecDepth 20000 in
theorem gX6_person_X6_first : GoodIn wsX6_person (va_wsS RX6 66 yX6_first wsX6_first) := goodIn_app (goodIn_of _ (by decide +kernel)) ggX6_person_X6_first
set_option maxRecDepth 20000 in
theorem ggX6_person_X6_refused : GoodIn wsX6_person wsX6_refused := goodIn_r _ [21, 22, 30, 31, 32, 33, 34, 35, 36, 37, 38] (by decide +kernel) (by decide +kernel)
set_option maxRecDepth 20000 in
theorem gX6_person_X6_refused : GoodIn wsX6_person (wsV RX6 70 RX6 yX6_refused wsX6_refused) := goodIn_app (goodIn_of _ (by decide +kernel)) ggX6_person_X6_refused
set_option maxRecDepth 20000 in
theorem ggX6_person_X4_nightsOf : GoodIn wsX6_person wsX4_nightsOf := goodIn_r _ [27, 28, 29, 39, 40, 41, 42, 43, 44, 45, 46, 47, 48] (by decide +kernel) (by decide +kernel)
set_option maxRecDepth 20000 in
theorem gX6_person_X4_nightsOf : GoodIn wsX6_person (wsV RX6 118 RX4 yX4_nightsOf wsX4_nightsOf) := goodIn_app (goodIn_of _ (by decide +kernel)) ggX6_person_X4_nightsOf
theorem dX6_person_0 : decode cX6_person 0 = .ok (.aload_n 0, 1) := by decide +kernel
theorem dX6_person_1 : decode cX6_person 1 = .ok (.iload_n 1, 1) := by decide +kernel
theorem dX6_person_2 : decode cX6_person 2 = .ok (.invokevirtual 103, 3) := by decide +kernel
theorem dX6_person_5 : decode cX6_person 5 = .ok (.iload_n 2, 1) := by decide +kernel
theorem dX6_person_6 : decode cX6_person 6 = .ok (.iconst 5, 1) := by decide +kernel
theorem dX6_person_7 : decode cX6_person 7 = .ok (.invokestatic 88, 3) := by decide +kernel
theorem dX6_person_10 : decode cX6_person 10 = .ok (.invokestatic 66, 3) := by decide +kernel
theorem dX6_person_13 : decode cX6_person 13 = .ok (.istore_n 3, 1) := by decide +kernel
theorem dX6_person_14 : decode cX6_person 14 = .ok (.iload_n 3, 1) := by decide +kernel
theorem dX6_person_15 : decode cX6_person 15 = .ok (.ifCond .eq 9, 3) := by decide +kernel
theorem dX6_person_18 : decode cX6_person 18 = .ok (.aload_n 0, 1) := by decide +kernel
theorem dX6_person_19 : decode cX6_person 19 = .ok (.iload_n 3, 1) := by decide +kernel
theorem dX6_person_20 : decode cX6_person 20 = .ok (.invokevirtual 70, 3) := by decide +kernel
theorem dX6_person_23 : decode cX6_person 23 = .ok (.ireturn, 1) := by decide +kernel
theorem dX6_person_24 : decode cX6_person 24 = .ok (.iload_n 2, 1) := by decide +kernel
theorem dX6_person_25 : decode cX6_person 25 = .ok (.tableswitch 71 0 3 #[31, 41, 51, 61], 31) := by decide +kernel
theorem dX6_person_56 : decode cX6_person 56 = .ok (.aload_n 0, 1) := by decide +kernel
theorem dX6_person_57 : decode cX6_person 57 = .ok (.getfield 10, 3) := by decide +kernel
theorem dX6_person_60 : decode cX6_person 60 = .ok (.getfield 106, 3) := by decide +kernel
theorem dX6_person_63 : decode cX6_person 63 = .ok (.iload_n 1, 1) := by decide +kernel
theorem dX6_person_64 : decode cX6_person 64 = .ok (.iaload, 1) := by decide +kernel
theorem dX6_person_65 : decode cX6_person 65 = .ok (.ireturn, 1) := by decide +kernel
theorem dX6_person_66 : decode cX6_person 66 = .ok (.aload_n 0, 1) := by decide +kernel
theorem dX6_person_67 : decode cX6_person 67 = .ok (.getfield 10, 3) := by decide +kernel
theorem dX6_person_70 : decode cX6_person 70 = .ok (.getfield 109, 3) := by decide +kernel
theorem dX6_person_73 : decode cX6_person 73 = .ok (.iload_n 1, 1) := by decide +kernel
theorem dX6_person_74 : decode cX6_person 74 = .ok (.iaload, 1) := by decide +kernel
theorem dX6_person_75 : decode cX6_person 75 = .ok (.ireturn, 1) := by decide +kernel
theorem dX6_person_76 : decode cX6_person 76 = .ok (.aload_n 0, 1) := by decide +kernel
theorem dX6_person_77 : decode cX6_person 77 = .ok (.getfield 10, 3) := by decide +kernel
theorem dX6_person_80 : decode cX6_person 80 = .ok (.getfield 112, 3) := by decide +kernel
theorem dX6_person_83 : decode cX6_person 83 = .ok (.iload_n 1, 1) := by decide +kernel
theorem dX6_person_84 : decode cX6_person 84 = .ok (.iaload, 1) := by decide +kernel
theorem dX6_person_85 : decode cX6_person 85 = .ok (.ireturn, 1) := by decide +kernel
theorem dX6_person_86 : decode cX6_person 86 = .ok (.aload_n 0, 1) := by decide +kernel
theorem dX6_person_87 : decode cX6_person 87 = .ok (.getfield 10, 3) := by decide +kernel
theorem dX6_person_90 : decode cX6_person 90 = .ok (.getfield 115, 3) := by decide +kernel
theorem dX6_person_93 : decode cX6_person 93 = .ok (.iload_n 1, 1) := by decide +kernel
theorem dX6_person_94 : decode cX6_person 94 = .ok (.iaload, 1) := by decide +kernel
theorem dX6_person_95 : decode cX6_person 95 = .ok (.ireturn, 1) := by decide +kernel
theorem dX6_person_96 : decode cX6_person 96 = .ok (.aload_n 0, 1) := by decide +kernel
theorem dX6_person_97 : decode cX6_person 97 = .ok (.getfield 10, 3) := by decide +kernel
theorem dX6_person_100 : decode cX6_person 100 = .ok (.iload_n 1, 1) := by decide +kernel
theorem dX6_person_101 : decode cX6_person 101 = .ok (.invokevirtual 118, 3) := by decide +kernel
theorem dX6_person_104 : decode cX6_person 104 = .ok (.ireturn, 1) := by decide +kernel
set_option maxRecDepth 20000 in
theorem ggX6_says_X6_noPerson : GoodIn wsX6_says wsX6_noPerson := goodIn_r _ [6, 1, 7, 43, 44, 45, 46, 47, 48, 49, 50, 51, 52, 53, 54, 55, 56, 57, 58, 59, 60, 61] (by decide +kernel) (by decide +kernel)
set_option maxRecDepth 20000 in
theorem gX6_says_X6_noPerson : GoodIn wsX6_says (wsV RX6 103 RX6 yX6_noPerson wsX6_noPerson) := goodIn_app (goodIn_of _ (by decide +kernel)) ggX6_says_X6_noPerson
set_option maxRecDepth 20000 in
theorem ggX6_says_X6_noBell : GoodIn wsX6_says wsX6_noBell := goodIn_r _ [11, 1, 12, 43, 44, 45, 46, 47, 48, 49, 50, 51, 52, 53, 54, 55, 56, 57, 58, 59, 60, 61] (by decide +kernel) (by decide +kernel)
set_option maxRecDepth 20000 in
theorem gX6_says_X6_noBell : GoodIn wsX6_says (wsV RX6 85 RX6 yX6_noBell wsX6_noBell) := goodIn_app (goodIn_of _ (by decide +kernel)) ggX6_says_X6_noBell
set_option maxRecDepth 20000 in
theorem ggX6_says_X6_first : GoodIn wsX6_says wsX6_first := goodIn_r _ [15] (by decide +kernel) (by decide +kernel)
set_option maxRecDepth 20000 in
theorem gX6_says_X6_first : GoodIn wsX6_says (va_wsS RX6 66 yX6_first wsX6_first) := goodIn_app (goodIn_of _ (by decide +kernel)) ggX6_says_X6_first
set_option maxRecDepth 20000 in
theorem ggX6_says_X6_refused : GoodIn wsX6_says wsX6_refused := goodIn_r _ [19, 20, 43, 44, 45, 46, 47, 48, 49, 50, 51] (by decide +kernel) (by decide +kernel)
set_option maxRecDepth 20000 in
theorem gX6_says_X6_refused : GoodIn wsX6_says (wsV RX6 70 RX6 yX6_refused wsX6_refused) := goodIn_app (goodIn_of _ (by decide +kernel)) ggX6_says_X6_refused
set_option maxRecDepth 20000 in
theorem ggX6_says_X4_hearsIt : GoodIn wsX6_says wsX4_hearsIt := goodIn_r _ [25, 26, 27, 28, 29, 30, 31, 32, 24, 33, 34, 52, 53, 54, 55, 56, 57, 58, 59, 60, 61] (by decide +kernel) (by decide +kernel)
set_option maxRecDepth 20000 in
theorem gX6_says_X4_hearsIt : GoodIn wsX6_says (wsV RX6 121 RX4 yX4_hearsIt wsX4_hearsIt) := goodIn_app (goodIn_of _ (by decide +kernel)) ggX6_says_X4_hearsIt
set_option maxRecDepth 20000 in
theorem ggX6_says_X4_hourBy : GoodIn wsX6_says wsX4_hourBy := goodIn_r _ [38, 29, 39, 40, 41, 24, 42, 28, 34, 52, 53, 54, 55, 56, 57, 58, 59, 60, 61] (by decide +kernel) (by decide +kernel)
set_option maxRecDepth 20000 in
theorem gX6_says_X4_hourBy : GoodIn wsX6_says (wsV RX6 125 RX4 yX4_hourBy wsX4_hourBy) := goodIn_app (goodIn_of _ (by decide +kernel)) ggX6_says_X4_hourBy
theorem dX6_says_0 : decode cX6_says 0 = .ok (.aload_n 0, 1) := by decide +kernel
theorem dX6_says_1 : decode cX6_says 1 = .ok (.iload_n 1, 1) := by decide +kernel
theorem dX6_says_2 : decode cX6_says 2 = .ok (.invokevirtual 103, 3) := by decide +kernel
theorem dX6_says_5 : decode cX6_says 5 = .ok (.aload_n 0, 1) := by decide +kernel
theorem dX6_says_6 : decode cX6_says 6 = .ok (.iload_n 2, 1) := by decide +kernel
theorem dX6_says_7 : decode cX6_says 7 = .ok (.invokevirtual 85, 3) := by decide +kernel
theorem dX6_says_10 : decode cX6_says 10 = .ok (.invokestatic 66, 3) := by decide +kernel
theorem dX6_says_13 : decode cX6_says 13 = .ok (.istore_n 3, 1) := by decide +kernel
theorem dX6_says_14 : decode cX6_says 14 = .ok (.iload_n 3, 1) := by decide +kernel
theorem dX6_says_15 : decode cX6_says 15 = .ok (.ifCond .eq 9, 3) := by decide +kernel
theorem dX6_says_18 : decode cX6_says 18 = .ok (.aload_n 0, 1) := by decide +kernel
theorem dX6_says_19 : decode cX6_says 19 = .ok (.iload_n 3, 1) := by decide +kernel
theorem dX6_says_20 : decode cX6_says 20 = .ok (.invokevirtual 70, 3) := by decide +kernel
theorem dX6_says_23 : decode cX6_says 23 = .ok (.ireturn, 1) := by decide +kernel
theorem dX6_says_24 : decode cX6_says 24 = .ok (.aload_n 0, 1) := by decide +kernel
theorem dX6_says_25 : decode cX6_says 25 = .ok (.getfield 10, 3) := by decide +kernel
theorem dX6_says_28 : decode cX6_says 28 = .ok (.iload_n 1, 1) := by decide +kernel
theorem dX6_says_29 : decode cX6_says 29 = .ok (.iload_n 2, 1) := by decide +kernel
theorem dX6_says_30 : decode cX6_says 30 = .ok (.invokevirtual 121, 3) := by decide +kernel
theorem dX6_says_33 : decode cX6_says 33 = .ok (.ifCond .eq 15, 3) := by decide +kernel
theorem dX6_says_36 : decode cX6_says 36 = .ok (.aload_n 0, 1) := by decide +kernel
theorem dX6_says_37 : decode cX6_says 37 = .ok (.getfield 10, 3) := by decide +kernel
theorem dX6_says_40 : decode cX6_says 40 = .ok (.iload_n 1, 1) := by decide +kernel
theorem dX6_says_41 : decode cX6_says 41 = .ok (.iload_n 2, 1) := by decide +kernel
theorem dX6_says_42 : decode cX6_says 42 = .ok (.invokevirtual 125, 3) := by decide +kernel
theorem dX6_says_45 : decode cX6_says 45 = .ok (.goto 5, 3) := by decide +kernel
theorem dX6_says_48 : decode cX6_says 48 = .ok (.bipush (-9), 2) := by decide +kernel
theorem dX6_says_50 : decode cX6_says 50 = .ok (.ireturn, 1) := by decide +kernel
set_option maxRecDepth 20000 in
theorem ggX6_goes_X6_noPerson : GoodIn wsX6_goes wsX6_noPerson := goodIn_r _ [7, 1, 8, 20, 21, 22, 23, 24, 25, 26, 27, 28, 29, 30, 31, 32, 33, 34, 35, 36, 37, 38] (by decide +kernel) (by decide +kernel)
set_option maxRecDepth 20000 in
theorem gX6_goes_X6_noPerson : GoodIn wsX6_goes (wsV RX6 103 RX6 yX6_noPerson wsX6_noPerson) := goodIn_app (goodIn_of _ (by decide +kernel)) ggX6_goes_X6_noPerson
set_option maxRecDepth 20000 in
theorem ggX6_goes_X6_range : GoodIn wsX6_goes wsX6_range := goodIn_r _ [11] (by decide +kernel) (by decide +kernel)
set_option maxRecDepth 20000 in
theorem gX6_goes_X6_range : GoodIn wsX6_goes (va_wsS RX6 58 yX6_range wsX6_range) := goodIn_app (goodIn_of _ (by decide +kernel)) ggX6_goes_X6_range
set_option maxRecDepth 20000 in
theorem ggX6_goes_X6_first : GoodIn wsX6_goes wsX6_first := goodIn_r _ [14] (by decide +kernel) (by decide +kernel)
set_option maxRecDepth 20000 in
theorem gX6_goes_X6_first : GoodIn wsX6_goes (va_wsS RX6 66 yX6_first wsX6_first) := goodIn_app (goodIn_of _ (by decide +kernel)) ggX6_goes_X6_first
set_option maxRecDepth 20000 in
theorem ggX6_goes_X6_refused : GoodIn wsX6_goes wsX6_refused := goodIn_r _ [18, 19, 20, 21, 22, 23, 24, 25, 26, 27, 28] (by decide +kernel) (by decide +kernel)
set_option maxRecDepth 20000 in
theorem gX6_goes_X6_refused : GoodIn wsX6_goes (wsV RX6 70 RX6 yX6_refused wsX6_refused) := goodIn_app (goodIn_of _ (by decide +kernel)) ggX6_goes_X6_refused
theorem dX6_goes_0 : decode cX6_goes 0 = .ok (.aload_n 0, 1) := by decide +kernel
theorem dX6_goes_1 : decode cX6_goes 1 = .ok (.iload_n 1, 1) := by decide +kernel
theorem dX6_goes_2 : decode cX6_goes 2 = .ok (.invokevirtual 103, 3) := by decide +kernel
theorem dX6_goes_5 : decode cX6_goes 5 = .ok (.iload_n 2, 1) := by decide +kernel
theorem dX6_goes_6 : decode cX6_goes 6 = .ok (.iconst 0, 1) := by decide +kernel
theorem dX6_goes_7 : decode cX6_goes 7 = .ok (.bipush 9, 2) := by decide +kernel
theorem dX6_goes_9 : decode cX6_goes 9 = .ok (.invokestatic 58, 3) := by decide +kernel
theorem dX6_goes_12 : decode cX6_goes 12 = .ok (.invokestatic 66, 3) := by decide +kernel
theorem dX6_goes_15 : decode cX6_goes 15 = .ok (.istore_n 3, 1) := by decide +kernel
theorem dX6_goes_16 : decode cX6_goes 16 = .ok (.iload_n 3, 1) := by decide +kernel
theorem dX6_goes_17 : decode cX6_goes 17 = .ok (.ifCond .eq 9, 3) := by decide +kernel
theorem dX6_goes_20 : decode cX6_goes 20 = .ok (.aload_n 0, 1) := by decide +kernel
theorem dX6_goes_21 : decode cX6_goes 21 = .ok (.iload_n 3, 1) := by decide +kernel
theorem dX6_goes_22 : decode cX6_goes 22 = .ok (.invokevirtual 70, 3) := by decide +kernel
theorem dX6_goes_25 : decode cX6_goes 25 = .ok (.ireturn, 1) := by decide +kernel
theorem dX6_goes_26 : decode cX6_goes 26 = .ok (.aload_n 0, 1) := by decide +kernel
theorem dX6_goes_27 : decode cX6_goes 27 = .ok (.getfield 10, 3) := by decide +kernel
theorem dX6_goes_30 : decode cX6_goes 30 = .ok (.getfield 115, 3) := by decide +kernel
theorem dX6_goes_33 : decode cX6_goes 33 = .ok (.iload_n 1, 1) := by decide +kernel
theorem dX6_goes_34 : decode cX6_goes 34 = .ok (.iaload, 1) := by decide +kernel
theorem dX6_goes_35 : decode cX6_goes 35 = .ok (.istore 4, 2) := by decide +kernel
theorem dX6_goes_37 : decode cX6_goes 37 = .ok (.aload_n 0, 1) := by decide +kernel
theorem dX6_goes_38 : decode cX6_goes 38 = .ok (.getfield 10, 3) := by decide +kernel
theorem dX6_goes_41 : decode cX6_goes 41 = .ok (.getfield 115, 3) := by decide +kernel
theorem dX6_goes_44 : decode cX6_goes 44 = .ok (.iload_n 1, 1) := by decide +kernel
theorem dX6_goes_45 : decode cX6_goes 45 = .ok (.iload_n 2, 1) := by decide +kernel
theorem dX6_goes_46 : decode cX6_goes 46 = .ok (.iastore, 1) := by decide +kernel
theorem dX6_goes_47 : decode cX6_goes 47 = .ok (.iload 4, 2) := by decide +kernel
theorem dX6_goes_49 : decode cX6_goes 49 = .ok (.ireturn, 1) := by decide +kernel
set_option maxRecDepth 20000 in
theorem ggX6_sleeps_X6_noPerson : GoodIn wsX6_sleeps wsX6_noPerson := goodIn_r _ [7, 1, 8, 20, 21, 22, 23, 24, 25, 26, 27, 28, 29, 30, 31, 32, 33, 34, 35, 36, 37, 38] (by decide +kernel) (by decide +kernel)
set_option maxRecDepth 20000 in
theorem gX6_sleeps_X6_noPerson : GoodIn wsX6_sleeps (wsV RX6 103 RX6 yX6_noPerson wsX6_noPerson) := goodIn_app (goodIn_of _ (by decide +kernel)) ggX6_sleeps_X6_noPerson
set_option maxRecDepth 20000 in
theorem ggX6_sleeps_X6_range : GoodIn wsX6_sleeps wsX6_range := goodIn_r _ [11] (by decide +kernel) (by decide +kernel)
set_option maxRecDepth 20000 in
theorem gX6_sleeps_X6_range : GoodIn wsX6_sleeps (va_wsS RX6 58 yX6_range wsX6_range) := goodIn_app (goodIn_of _ (by decide +kernel)) ggX6_sleeps_X6_range
set_option maxRecDepth 20000 in
theorem ggX6_sleeps_X6_first : GoodIn wsX6_sleeps wsX6_first := goodIn_r _ [14] (by decide +kernel) (by decide +kernel)
set_option maxRecDepth 20000 in
theorem gX6_sleeps_X6_first : GoodIn wsX6_sleeps (va_wsS RX6 66 yX6_first wsX6_first) := goodIn_app (goodIn_of _ (by decide +kernel)) ggX6_sleeps_X6_first
set_option maxRecDepth 20000 in
theorem ggX6_sleeps_X6_refused : GoodIn wsX6_sleeps wsX6_refused := goodIn_r _ [18, 19, 20, 21, 22, 23, 24, 25, 26, 27, 28] (by decide +kernel) (by decide +kernel)
set_option maxRecDepth 20000 in
theorem gX6_sleeps_X6_refused : GoodIn wsX6_sleeps (wsV RX6 70 RX6 yX6_refused wsX6_refused) := goodIn_app (goodIn_of _ (by decide +kernel)) ggX6_sleeps_X6_refused
theorem dX6_sleeps_0 : decode cX6_sleeps 0 = .ok (.aload_n 0, 1) := by decide +kernel
theorem dX6_sleeps_1 : decode cX6_sleeps 1 = .ok (.iload_n 1, 1) := by decide +kernel
theorem dX6_sleeps_2 : decode cX6_sleeps 2 = .ok (.invokevirtual 103, 3) := by decide +kernel
theorem dX6_sleeps_5 : decode cX6_sleeps 5 = .ok (.iload_n 2, 1) := by decide +kernel
theorem dX6_sleeps_6 : decode cX6_sleeps 6 = .ok (.iconst 0, 1) := by decide +kernel
theorem dX6_sleeps_7 : decode cX6_sleeps 7 = .ok (.bipush 99, 2) := by decide +kernel
theorem dX6_sleeps_9 : decode cX6_sleeps 9 = .ok (.invokestatic 58, 3) := by decide +kernel
theorem dX6_sleeps_12 : decode cX6_sleeps 12 = .ok (.invokestatic 66, 3) := by decide +kernel
theorem dX6_sleeps_15 : decode cX6_sleeps 15 = .ok (.istore_n 3, 1) := by decide +kernel
theorem dX6_sleeps_16 : decode cX6_sleeps 16 = .ok (.iload_n 3, 1) := by decide +kernel
theorem dX6_sleeps_17 : decode cX6_sleeps 17 = .ok (.ifCond .eq 9, 3) := by decide +kernel
theorem dX6_sleeps_20 : decode cX6_sleeps 20 = .ok (.aload_n 0, 1) := by decide +kernel
theorem dX6_sleeps_21 : decode cX6_sleeps 21 = .ok (.iload_n 3, 1) := by decide +kernel
theorem dX6_sleeps_22 : decode cX6_sleeps 22 = .ok (.invokevirtual 70, 3) := by decide +kernel
theorem dX6_sleeps_25 : decode cX6_sleeps 25 = .ok (.ireturn, 1) := by decide +kernel
theorem dX6_sleeps_26 : decode cX6_sleeps 26 = .ok (.aload_n 0, 1) := by decide +kernel
theorem dX6_sleeps_27 : decode cX6_sleeps 27 = .ok (.getfield 10, 3) := by decide +kernel
theorem dX6_sleeps_30 : decode cX6_sleeps 30 = .ok (.getfield 112, 3) := by decide +kernel
theorem dX6_sleeps_33 : decode cX6_sleeps 33 = .ok (.iload_n 1, 1) := by decide +kernel
theorem dX6_sleeps_34 : decode cX6_sleeps 34 = .ok (.iaload, 1) := by decide +kernel
theorem dX6_sleeps_35 : decode cX6_sleeps 35 = .ok (.istore 4, 2) := by decide +kernel
theorem dX6_sleeps_37 : decode cX6_sleeps 37 = .ok (.aload_n 0, 1) := by decide +kernel
theorem dX6_sleeps_38 : decode cX6_sleeps 38 = .ok (.getfield 10, 3) := by decide +kernel
theorem dX6_sleeps_41 : decode cX6_sleeps 41 = .ok (.getfield 112, 3) := by decide +kernel
theorem dX6_sleeps_44 : decode cX6_sleeps 44 = .ok (.iload_n 1, 1) := by decide +kernel
theorem dX6_sleeps_45 : decode cX6_sleeps 45 = .ok (.iload_n 2, 1) := by decide +kernel
theorem dX6_sleeps_46 : decode cX6_sleeps 46 = .ok (.iastore, 1) := by decide +kernel
theorem dX6_sleeps_47 : decode cX6_sleeps 47 = .ok (.iload 4, 2) := by decide +kernel
theorem dX6_sleeps_49 : decode cX6_sleeps 49 = .ok (.ireturn, 1) := by decide +kernel
set_option maxRecDepth 20000 in
theorem ggX6_beds_X6_range : GoodIn wsX6_beds wsX6_range := goodIn_r _ [6] (by decide +kernel) (by decide +kernel)
set_option maxRecDepth 20000 in
theorem gX6_beds_X6_range : GoodIn wsX6_beds (va_wsS RX6 58 yX6_range wsX6_range) := goodIn_app (goodIn_of _ (by decide +kernel)) ggX6_beds_X6_range
set_option maxRecDepth 20000 in
theorem ggX6_beds_X6_refused : GoodIn wsX6_beds wsX6_refused := goodIn_r _ [10, 11, 12, 13, 14, 15, 16, 17, 18, 19, 20] (by decide +kernel) (by decide +kernel)
set_option maxRecDepth 20000 in
theorem gX6_beds_X6_refused : GoodIn wsX6_beds (wsV RX6 70 RX6 yX6_refused wsX6_refused) := goodIn_app (goodIn_of _ (by decide +kernel)) ggX6_beds_X6_refused
theorem dX6_beds_0 : decode cX6_beds 0 = .ok (.iload_n 1, 1) := by decide +kernel
theorem dX6_beds_1 : decode cX6_beds 1 = .ok (.iconst 1, 1) := by decide +kernel
theorem dX6_beds_2 : decode cX6_beds 2 = .ok (.bipush 8, 2) := by decide +kernel
theorem dX6_beds_4 : decode cX6_beds 4 = .ok (.invokestatic 58, 3) := by decide +kernel
theorem dX6_beds_7 : decode cX6_beds 7 = .ok (.istore_n 2, 1) := by decide +kernel
theorem dX6_beds_8 : decode cX6_beds 8 = .ok (.iload_n 2, 1) := by decide +kernel
theorem dX6_beds_9 : decode cX6_beds 9 = .ok (.ifCond .eq 9, 3) := by decide +kernel
theorem dX6_beds_12 : decode cX6_beds 12 = .ok (.aload_n 0, 1) := by decide +kernel
theorem dX6_beds_13 : decode cX6_beds 13 = .ok (.iload_n 2, 1) := by decide +kernel
theorem dX6_beds_14 : decode cX6_beds 14 = .ok (.invokevirtual 70, 3) := by decide +kernel
theorem dX6_beds_17 : decode cX6_beds 17 = .ok (.ireturn, 1) := by decide +kernel
theorem dX6_beds_18 : decode cX6_beds 18 = .ok (.aload_n 0, 1) := by decide +kernel
theorem dX6_beds_19 : decode cX6_beds 19 = .ok (.getfield 10, 3) := by decide +kernel
theorem dX6_beds_22 : decode cX6_beds 22 = .ok (.getfield 128, 3) := by decide +kernel
theorem dX6_beds_25 : decode cX6_beds 25 = .ok (.istore_n 3, 1) := by decide +kernel
theorem dX6_beds_26 : decode cX6_beds 26 = .ok (.aload_n 0, 1) := by decide +kernel
theorem dX6_beds_27 : decode cX6_beds 27 = .ok (.getfield 10, 3) := by decide +kernel
theorem dX6_beds_30 : decode cX6_beds 30 = .ok (.iload_n 1, 1) := by decide +kernel
theorem dX6_beds_31 : decode cX6_beds 31 = .ok (.putfield 128, 3) := by decide +kernel
theorem dX6_beds_34 : decode cX6_beds 34 = .ok (.iload_n 3, 1) := by decide +kernel
theorem dX6_beds_35 : decode cX6_beds 35 = .ok (.ireturn, 1) := by decide +kernel
set_option maxRecDepth 20000 in
theorem ggX6_turn_X6_noPerson : GoodIn wsX6_turn wsX6_noPerson := goodIn_r _ [8, 1, 9, 31, 32, 33, 34, 35, 36, 37, 38, 39, 40, 41, 42, 43, 44, 45, 46, 47, 48, 49] (by decide +kernel) (by decide +kernel)
set_option maxRecDepth 20000 in
theorem gX6_turn_X6_noPerson : GoodIn wsX6_turn (wsV RX6 103 RX6 yX6_noPerson wsX6_noPerson) := goodIn_app (goodIn_of _ (by decide +kernel)) ggX6_turn_X6_noPerson
set_option maxRecDepth 20000 in
theorem ggX6_turn_X6_choice : GoodIn wsX6_turn wsX6_choice := goodIn_r _ [12] (by decide +kernel) (by decide +kernel)
set_option maxRecDepth 20000 in
theorem gX6_turn_X6_choice : GoodIn wsX6_turn (va_wsS RX6 88 yX6_choice wsX6_choice) := goodIn_app (goodIn_of _ (by decide +kernel)) ggX6_turn_X6_choice
set_option maxRecDepth 20000 in
theorem ggX6_turn_X6_first : GoodIn wsX6_turn wsX6_first := goodIn_r _ [15] (by decide +kernel) (by decide +kernel)
set_option maxRecDepth 20000 in
theorem gX6_turn_X6_first : GoodIn wsX6_turn (va_wsS RX6 66 yX6_first wsX6_first) := goodIn_app (goodIn_of _ (by decide +kernel)) ggX6_turn_X6_first
set_option maxRecDepth 20000 in
theorem ggX6_turn_X6_range : GoodIn wsX6_turn wsX6_range := goodIn_r _ [18] (by decide +kernel) (by decide +kernel)
set_option maxRecDepth 20000 in
theorem gX6_turn_X6_range : GoodIn wsX6_turn (va_wsS RX6 58 yX6_range wsX6_range) := goodIn_app (goodIn_of _ (by decide +kernel)) ggX6_turn_X6_range
set_option maxRecDepth 20000 in
theorem ggX6_turn_X6_refused : GoodIn wsX6_turn wsX6_refused := goodIn_r _ [22, 23, 31, 32, 33, 34, 35, 36, 37, 38, 39] (by decide +kernel) (by decide +kernel)
set_option maxRecDepth 20000 in
theorem gX6_turn_X6_refused : GoodIn wsX6_turn (wsV RX6 70 RX6 yX6_refused wsX6_refused) := goodIn_app (goodIn_of _ (by decide +kernel)) ggX6_turn_X6_refused
set_option maxRecDepth 20000 in
theorem ggX6_turn_X4_makeKind : GoodIn wsX6_turn wsX4_makeKind := goodIn_r _ [28, 29, 30, 40, 41, 42, 43, 44, 45, 46, 47, 48, 49] (by decide +kernel) (by decide +kernel)
set_option maxRecDepth 20000 in
theorem gX6_turn_X4_makeKind : GoodIn wsX6_turn (wsV RX6 131 RX4 yX4_makeKind wsX4_makeKind) := goodIn_app (goodIn_of _ (by decide +kernel)) ggX6_turn_X4_makeKind
theorem dX6_turn_0 : decode cX6_turn 0 = .ok (.aload_n 0, 1) := by decide +kernel
theorem dX6_turn_1 : decode cX6_turn 1 = .ok (.iload_n 1, 1) := by decide +kernel
theorem dX6_turn_2 : decode cX6_turn 2 = .ok (.invokevirtual 103, 3) := by decide +kernel
theorem dX6_turn_5 : decode cX6_turn 5 = .ok (.iload_n 2, 1) := by decide +kernel
theorem dX6_turn_6 : decode cX6_turn 6 = .ok (.bipush 6, 2) := by decide +kernel
theorem dX6_turn_8 : decode cX6_turn 8 = .ok (.invokestatic 88, 3) := by decide +kernel
theorem dX6_turn_11 : decode cX6_turn 11 = .ok (.invokestatic 66, 3) := by decide +kernel
theorem dX6_turn_14 : decode cX6_turn 14 = .ok (.istore 4, 2) := by decide +kernel
theorem dX6_turn_16 : decode cX6_turn 16 = .ok (.iload 4, 2) := by decide +kernel
theorem dX6_turn_18 : decode cX6_turn 18 = .ok (.iload_n 3, 1) := by decide +kernel
theorem dX6_turn_19 : decode cX6_turn 19 = .ok (.iconst 0, 1) := by decide +kernel
theorem dX6_turn_20 : decode cX6_turn 20 = .ok (.bipush 9, 2) := by decide +kernel
theorem dX6_turn_22 : decode cX6_turn 22 = .ok (.invokestatic 58, 3) := by decide +kernel
theorem dX6_turn_25 : decode cX6_turn 25 = .ok (.invokestatic 66, 3) := by decide +kernel
theorem dX6_turn_28 : decode cX6_turn 28 = .ok (.istore 4, 2) := by decide +kernel
theorem dX6_turn_30 : decode cX6_turn 30 = .ok (.iload 4, 2) := by decide +kernel
theorem dX6_turn_32 : decode cX6_turn 32 = .ok (.ifCond .eq 10, 3) := by decide +kernel
theorem dX6_turn_35 : decode cX6_turn 35 = .ok (.aload_n 0, 1) := by decide +kernel
theorem dX6_turn_36 : decode cX6_turn 36 = .ok (.iload 4, 2) := by decide +kernel
theorem dX6_turn_38 : decode cX6_turn 38 = .ok (.invokevirtual 70, 3) := by decide +kernel
theorem dX6_turn_41 : decode cX6_turn 41 = .ok (.ireturn, 1) := by decide +kernel
theorem dX6_turn_42 : decode cX6_turn 42 = .ok (.bipush 10, 2) := by decide +kernel
theorem dX6_turn_44 : decode cX6_turn 44 = .ok (.aload_n 0, 1) := by decide +kernel
theorem dX6_turn_45 : decode cX6_turn 45 = .ok (.getfield 10, 3) := by decide +kernel
theorem dX6_turn_48 : decode cX6_turn 48 = .ok (.getfield 106, 3) := by decide +kernel
theorem dX6_turn_51 : decode cX6_turn 51 = .ok (.iload_n 1, 1) := by decide +kernel
theorem dX6_turn_52 : decode cX6_turn 52 = .ok (.iaload, 1) := by decide +kernel
theorem dX6_turn_53 : decode cX6_turn 53 = .ok (.imul, 1) := by decide +kernel
theorem dX6_turn_54 : decode cX6_turn 54 = .ok (.aload_n 0, 1) := by decide +kernel
theorem dX6_turn_55 : decode cX6_turn 55 = .ok (.getfield 10, 3) := by decide +kernel
theorem dX6_turn_58 : decode cX6_turn 58 = .ok (.getfield 109, 3) := by decide +kernel
theorem dX6_turn_61 : decode cX6_turn 61 = .ok (.iload_n 1, 1) := by decide +kernel
theorem dX6_turn_62 : decode cX6_turn 62 = .ok (.iaload, 1) := by decide +kernel
theorem dX6_turn_63 : decode cX6_turn 63 = .ok (.iadd, 1) := by decide +kernel
theorem dX6_turn_64 : decode cX6_turn 64 = .ok (.istore 5, 2) := by decide +kernel
theorem dX6_turn_66 : decode cX6_turn 66 = .ok (.aload_n 0, 1) := by decide +kernel
theorem dX6_turn_67 : decode cX6_turn 67 = .ok (.getfield 10, 3) := by decide +kernel
theorem dX6_turn_70 : decode cX6_turn 70 = .ok (.iload_n 1, 1) := by decide +kernel
theorem dX6_turn_71 : decode cX6_turn 71 = .ok (.iload_n 2, 1) := by decide +kernel
theorem dX6_turn_72 : decode cX6_turn 72 = .ok (.iload_n 3, 1) := by decide +kernel
theorem dX6_turn_73 : decode cX6_turn 73 = .ok (.invokevirtual 131, 3) := by decide +kernel
theorem dX6_turn_76 : decode cX6_turn 76 = .ok (.iload 5, 2) := by decide +kernel
theorem dX6_turn_78 : decode cX6_turn 78 = .ok (.ireturn, 1) := by decide +kernel
set_option maxRecDepth 20000 in
theorem ggX6_days_X6_range : GoodIn wsX6_days wsX6_range := goodIn_r _ [6] (by decide +kernel) (by decide +kernel)
set_option maxRecDepth 20000 in
theorem gX6_days_X6_range : GoodIn wsX6_days (va_wsS RX6 58 yX6_range wsX6_range) := goodIn_app (goodIn_of _ (by decide +kernel)) ggX6_days_X6_range
set_option maxRecDepth 20000 in
theorem ggX6_days_X6_first : GoodIn wsX6_days wsX6_first := goodIn_r _ [9] (by decide +kernel) (by decide +kernel)
set_option maxRecDepth 20000 in
theorem gX6_days_X6_first : GoodIn wsX6_days (va_wsS RX6 66 yX6_first wsX6_first) := goodIn_app (goodIn_of _ (by decide +kernel)) ggX6_days_X6_first
set_option maxRecDepth 20000 in
theorem ggX6_days_X6_refused : GoodIn wsX6_days wsX6_refused := goodIn_r _ [13, 14, 67, 68, 69, 70, 71, 72, 73, 74, 75] (by decide +kernel) (by decide +kernel)
set_option maxRecDepth 20000 in
theorem gX6_days_X6_refused : GoodIn wsX6_days (wsV RX6 70 RX6 yX6_refused wsX6_refused) := goodIn_app (goodIn_of _ (by decide +kernel)) ggX6_days_X6_refused
set_option maxRecDepth 20000 in
theorem ggX6_days_X4_pass : GoodIn wsX6_days wsX4_pass := goodIn_r _ [19, 20, 21, 22, 18, 23, 24, 25, 26, 27, 28, 29, 30, 31, 32, 33, 34, 35, 36, 37, 38, 39, 76, 77, 78, 79, 80, 81, 82, 83, 84, 85] (by decide +kernel) (by decide +kernel)
set_option maxRecDepth 20000 in
theorem gX6_days_X4_pass : GoodIn wsX6_days (wsV RX6 138 RX4 yX4_pass wsX4_pass) := goodIn_app (goodIn_of _ (by decide +kernel)) ggX6_days_X4_pass
set_option maxRecDepth 20000 in
theorem ggX6_days_X4_hearersOfSome : GoodIn wsX6_days wsX4_hearersOfSome := goodIn_r _ [43, 24, 44, 45, 46, 18, 47, 48, 49, 50, 51, 52, 25, 32, 53, 54, 55, 56, 57, 58, 59, 76, 77, 78, 79, 80, 81, 82, 83, 84, 85] (by decide +kernel) (by decide +kernel)
set_option maxRecDepth 20000 in
theorem gX6_days_X4_hearersOfSome : GoodIn wsX6_days (wsV RX6 141 RX4 yX4_hearersOfSome wsX4_hearersOfSome) := goodIn_app (goodIn_of _ (by decide +kernel)) ggX6_days_X4_hearersOfSome
set_option maxRecDepth 20000 in
theorem ggX6_days_J6_bitCount_0f7a4 : GoodIn wsX6_days wsJ6_bitCount_0f7a4 := goodIn_r _ [63, 64, 65, 66] (by decide +kernel) (by decide +kernel)
set_option maxRecDepth 20000 in
theorem gX6_days_J6_bitCount_0f7a4 : GoodIn wsX6_days (va_wsS RX6 145 yJ6_bitCount_0f7a4 wsJ6_bitCount_0f7a4) := goodIn_app (goodIn_of _ (by decide +kernel)) ggX6_days_J6_bitCount_0f7a4
theorem dX6_days_0 : decode cX6_days 0 = .ok (.iload_n 1, 1) := by decide +kernel
theorem dX6_days_1 : decode cX6_days 1 = .ok (.iconst 1, 1) := by decide +kernel
theorem dX6_days_2 : decode cX6_days 2 = .ok (.bipush 60, 2) := by decide +kernel
theorem dX6_days_4 : decode cX6_days 4 = .ok (.invokestatic 58, 3) := by decide +kernel
theorem dX6_days_7 : decode cX6_days 7 = .ok (.istore_n 2, 1) := by decide +kernel
theorem dX6_days_8 : decode cX6_days 8 = .ok (.iload_n 2, 1) := by decide +kernel
theorem dX6_days_9 : decode cX6_days 9 = .ok (.iload_n 1, 1) := by decide +kernel
theorem dX6_days_10 : decode cX6_days 10 = .ok (.sipush 999, 3) := by decide +kernel
theorem dX6_days_13 : decode cX6_days 13 = .ok (.aload_n 0, 1) := by decide +kernel
theorem dX6_days_14 : decode cX6_days 14 = .ok (.getfield 10, 3) := by decide +kernel
theorem dX6_days_17 : decode cX6_days 17 = .ok (.getfield 135, 3) := by decide +kernel
theorem dX6_days_20 : decode cX6_days 20 = .ok (.isub, 1) := by decide +kernel
theorem dX6_days_21 : decode cX6_days 21 = .ok (.if_icmp .gt 7, 3) := by decide +kernel
theorem dX6_days_24 : decode cX6_days 24 = .ok (.iconst 0, 1) := by decide +kernel
theorem dX6_days_25 : decode cX6_days 25 = .ok (.goto 5, 3) := by decide +kernel
theorem dX6_days_28 : decode cX6_days 28 = .ok (.bipush (-6), 2) := by decide +kernel
theorem dX6_days_30 : decode cX6_days 30 = .ok (.invokestatic 66, 3) := by decide +kernel
theorem dX6_days_33 : decode cX6_days 33 = .ok (.istore_n 2, 1) := by decide +kernel
theorem dX6_days_34 : decode cX6_days 34 = .ok (.iload_n 2, 1) := by decide +kernel
theorem dX6_days_35 : decode cX6_days 35 = .ok (.ifCond .eq 9, 3) := by decide +kernel
theorem dX6_days_38 : decode cX6_days 38 = .ok (.aload_n 0, 1) := by decide +kernel
theorem dX6_days_39 : decode cX6_days 39 = .ok (.iload_n 2, 1) := by decide +kernel
theorem dX6_days_40 : decode cX6_days 40 = .ok (.invokevirtual 70, 3) := by decide +kernel
theorem dX6_days_43 : decode cX6_days 43 = .ok (.ireturn, 1) := by decide +kernel
theorem dX6_days_44 : decode cX6_days 44 = .ok (.aload_n 0, 1) := by decide +kernel
theorem dX6_days_45 : decode cX6_days 45 = .ok (.getfield 10, 3) := by decide +kernel
theorem dX6_days_48 : decode cX6_days 48 = .ok (.iload_n 1, 1) := by decide +kernel
theorem dX6_days_49 : decode cX6_days 49 = .ok (.invokevirtual 138, 3) := by decide +kernel
theorem dX6_days_52 : decode cX6_days 52 = .ok (.aload_n 0, 1) := by decide +kernel
theorem dX6_days_53 : decode cX6_days 53 = .ok (.getfield 10, 3) := by decide +kernel
theorem dX6_days_56 : decode cX6_days 56 = .ok (.invokevirtual 141, 3) := by decide +kernel
theorem dX6_days_59 : decode cX6_days 59 = .ok (.invokestatic 145, 3) := by decide +kernel
theorem dX6_days_62 : decode cX6_days 62 = .ok (.ireturn, 1) := by decide +kernel
set_option maxRecDepth 20000 in
theorem ggX6_personThen_X6_noPerson : GoodIn wsX6_personThen wsX6_noPerson := goodIn_r _ [9, 2, 10, 69, 70, 71, 72, 73, 74, 75, 76, 77, 78, 79, 80, 81, 82, 83, 84, 85, 86, 87] (by decide +kernel) (by decide +kernel)
set_option maxRecDepth 20000 in
theorem gX6_personThen_X6_noPerson : GoodIn wsX6_personThen (wsV RX6 103 RX6 yX6_noPerson wsX6_noPerson) := goodIn_app (goodIn_of _ (by decide +kernel)) ggX6_personThen_X6_noPerson
set_option maxRecDepth 20000 in
theorem ggX6_personThen_X6_range : GoodIn wsX6_personThen wsX6_range := goodIn_r _ [13] (by decide +kernel) (by decide +kernel)
set_option maxRecDepth 20000 in
theorem gX6_personThen_X6_range : GoodIn wsX6_personThen (va_wsS RX6 58 yX6_range wsX6_range) := goodIn_app (goodIn_of _ (by decide +kernel)) ggX6_personThen_X6_range
set_option maxRecDepth 20000 in
theorem ggX6_personThen_X6_first : GoodIn wsX6_personThen wsX6_first := goodIn_r _ [16] (by decide +kernel) (by decide +kernel)
set_option maxRecDepth 20000 in
theorem gX6_personThen_X6_first : GoodIn wsX6_personThen (va_wsS RX6 66 yX6_first wsX6_first) := goodIn_app (goodIn_of _ (by decide +kernel)) ggX6_personThen_X6_first
set_option maxRecDepth 20000 in
theorem ggX6_personThen_X6_choice : GoodIn wsX6_personThen wsX6_choice := goodIn_r _ [19] (by decide +kernel) (by decide +kernel)
set_option maxRecDepth 20000 in
theorem gX6_personThen_X6_choice : GoodIn wsX6_personThen (va_wsS RX6 88 yX6_choice wsX6_choice) := goodIn_app (goodIn_of _ (by decide +kernel)) ggX6_personThen_X6_choice
set_option maxRecDepth 20000 in
theorem ggX6_personThen_X6_refused : GoodIn wsX6_personThen wsX6_refused := goodIn_r _ [23, 24, 69, 70, 71, 72, 73, 74, 75, 76, 77] (by decide +kernel) (by decide +kernel)
set_option maxRecDepth 20000 in
theorem gX6_personThen_X6_refused : GoodIn wsX6_personThen (wsV RX6 70 RX6 yX6_refused wsX6_refused) := goodIn_app (goodIn_of _ (by decide +kernel)) ggX6_personThen_X6_refused
set_option maxRecDepth 20000 in
theorem ggX6_personThen_X1_after : GoodIn wsX6_personThen wsX1_after := goodIn_r _ [29, 30, 31, 32, 33, 34, 35, 36, 37, 38, 39, 40, 41, 42, 43, 44, 45, 46, 47, 48, 49, 50, 51, 52, 53, 54, 55, 56, 57, 58, 59, 60, 61, 62, 63, 64, 65, 66, 67, 68, 88, 78, 79, 80, 81, 82, 83, 84, 85, 86, 87] (by decide +kernel) (by decide +kernel)
set_option maxRecDepth 20000 in
theorem gX6_personThen_X1_after : GoodIn wsX6_personThen (wsV RX6 150 RX1 yX1_after wsX1_after) := goodIn_app (goodIn_of _ (by decide +kernel)) ggX6_personThen_X1_after
theorem dX6_personThen_0 : decode cX6_personThen 0 = .ok (.aload_n 0, 1) := by decide +kernel
theorem dX6_personThen_1 : decode cX6_personThen 1 = .ok (.iload_n 1, 1) := by decide +kernel
theorem dX6_personThen_2 : decode cX6_personThen 2 = .ok (.invokevirtual 103, 3) := by decide +kernel
theorem dX6_personThen_5 : decode cX6_personThen 5 = .ok (.iload_n 2, 1) := by decide +kernel
theorem dX6_personThen_6 : decode cX6_personThen 6 = .ok (.iconst 0, 1) := by decide +kernel
theorem dX6_personThen_7 : decode cX6_personThen 7 = .ok (.bipush 99, 2) := by decide +kernel
theorem dX6_personThen_9 : decode cX6_personThen 9 = .ok (.invokestatic 58, 3) := by decide +kernel
theorem dX6_personThen_12 : decode cX6_personThen 12 = .ok (.invokestatic 66, 3) := by decide +kernel
theorem dX6_personThen_15 : decode cX6_personThen 15 = .ok (.istore 4, 2) := by decide +kernel
theorem dX6_personThen_17 : decode cX6_personThen 17 = .ok (.iload 4, 2) := by decide +kernel
theorem dX6_personThen_19 : decode cX6_personThen 19 = .ok (.iload_n 3, 1) := by decide +kernel
theorem dX6_personThen_20 : decode cX6_personThen 20 = .ok (.iconst 2, 1) := by decide +kernel
theorem dX6_personThen_21 : decode cX6_personThen 21 = .ok (.invokestatic 88, 3) := by decide +kernel
theorem dX6_personThen_24 : decode cX6_personThen 24 = .ok (.invokestatic 66, 3) := by decide +kernel
theorem dX6_personThen_27 : decode cX6_personThen 27 = .ok (.istore 4, 2) := by decide +kernel
theorem dX6_personThen_29 : decode cX6_personThen 29 = .ok (.iload 4, 2) := by decide +kernel
theorem dX6_personThen_31 : decode cX6_personThen 31 = .ok (.ifCond .eq 10, 3) := by decide +kernel
theorem dX6_personThen_34 : decode cX6_personThen 34 = .ok (.aload_n 0, 1) := by decide +kernel
theorem dX6_personThen_35 : decode cX6_personThen 35 = .ok (.iload 4, 2) := by decide +kernel
theorem dX6_personThen_37 : decode cX6_personThen 37 = .ok (.invokevirtual 70, 3) := by decide +kernel
theorem dX6_personThen_40 : decode cX6_personThen 40 = .ok (.ireturn, 1) := by decide +kernel
theorem dX6_personThen_41 : decode cX6_personThen 41 = .ok (.aload_n 0, 1) := by decide +kernel
theorem dX6_personThen_42 : decode cX6_personThen 42 = .ok (.getfield 43, 3) := by decide +kernel
theorem dX6_personThen_45 : decode cX6_personThen 45 = .ok (.aload_n 0, 1) := by decide +kernel
theorem dX6_personThen_46 : decode cX6_personThen 46 = .ok (.getfield 10, 3) := by decide +kernel
theorem dX6_personThen_49 : decode cX6_personThen 49 = .ok (.iload_n 2, 1) := by decide +kernel
theorem dX6_personThen_50 : decode cX6_personThen 50 = .ok (.invokevirtual 150, 3) := by decide +kernel
theorem dX6_personThen_53 : decode cX6_personThen 53 = .ok (.astore 5, 2) := by decide +kernel
theorem dX6_personThen_55 : decode cX6_personThen 55 = .ok (.iload_n 3, 1) := by decide +kernel
theorem dX6_personThen_56 : decode cX6_personThen 56 = .ok (.ifCond .ne 13, 3) := by decide +kernel
theorem dX6_personThen_59 : decode cX6_personThen 59 = .ok (.aload 5, 2) := by decide +kernel
theorem dX6_personThen_61 : decode cX6_personThen 61 = .ok (.getfield 112, 3) := by decide +kernel
theorem dX6_personThen_64 : decode cX6_personThen 64 = .ok (.iload_n 1, 1) := by decide +kernel
theorem dX6_personThen_65 : decode cX6_personThen 65 = .ok (.iaload, 1) := by decide +kernel
theorem dX6_personThen_66 : decode cX6_personThen 66 = .ok (.goto 10, 3) := by decide +kernel
theorem dX6_personThen_69 : decode cX6_personThen 69 = .ok (.aload 5, 2) := by decide +kernel
theorem dX6_personThen_71 : decode cX6_personThen 71 = .ok (.getfield 115, 3) := by decide +kernel
theorem dX6_personThen_74 : decode cX6_personThen 74 = .ok (.iload_n 1, 1) := by decide +kernel
theorem dX6_personThen_75 : decode cX6_personThen 75 = .ok (.iaload, 1) := by decide +kernel
theorem dX6_personThen_76 : decode cX6_personThen 76 = .ok (.ireturn, 1) := by decide +kernel
set_option maxRecDepth 20000 in
theorem ggX6_bellThen_X6_noBell : GoodIn wsX6_bellThen wsX6_noBell := goodIn_r _ [7, 2, 8, 91, 92, 93, 94, 95, 96, 97, 98, 99, 100, 101, 102, 103, 104, 105, 106, 107, 108, 109] (by decide +kernel) (by decide +kernel)
set_option maxRecDepth 20000 in
theorem gX6_bellThen_X6_noBell : GoodIn wsX6_bellThen (wsV RX6 85 RX6 yX6_noBell wsX6_noBell) := goodIn_app (goodIn_of _ (by decide +kernel)) ggX6_bellThen_X6_noBell
set_option maxRecDepth 20000 in
theorem ggX6_bellThen_X6_range : GoodIn wsX6_bellThen wsX6_range := goodIn_r _ [11] (by decide +kernel) (by decide +kernel)
set_option maxRecDepth 20000 in
theorem gX6_bellThen_X6_range : GoodIn wsX6_bellThen (va_wsS RX6 58 yX6_range wsX6_range) := goodIn_app (goodIn_of _ (by decide +kernel)) ggX6_bellThen_X6_range
set_option maxRecDepth 20000 in
theorem ggX6_bellThen_X6_first : GoodIn wsX6_bellThen wsX6_first := goodIn_r _ [14] (by decide +kernel) (by decide +kernel)
set_option maxRecDepth 20000 in
theorem gX6_bellThen_X6_first : GoodIn wsX6_bellThen (va_wsS RX6 66 yX6_first wsX6_first) := goodIn_app (goodIn_of _ (by decide +kernel)) ggX6_bellThen_X6_first
set_option maxRecDepth 20000 in
theorem ggX6_bellThen_X6_choice : GoodIn wsX6_bellThen wsX6_choice := goodIn_r _ [17] (by decide +kernel) (by decide +kernel)
set_option maxRecDepth 20000 in
theorem gX6_bellThen_X6_choice : GoodIn wsX6_bellThen (va_wsS RX6 88 yX6_choice wsX6_choice) := goodIn_app (goodIn_of _ (by decide +kernel)) ggX6_bellThen_X6_choice
set_option maxRecDepth 20000 in
theorem ggX6_bellThen_X6_refused : GoodIn wsX6_bellThen wsX6_refused := goodIn_r _ [21, 22, 91, 92, 93, 94, 95, 96, 97, 98, 99] (by decide +kernel) (by decide +kernel)
set_option maxRecDepth 20000 in
theorem gX6_bellThen_X6_refused : GoodIn wsX6_bellThen (wsV RX6 70 RX6 yX6_refused wsX6_refused) := goodIn_app (goodIn_of _ (by decide +kernel)) ggX6_bellThen_X6_refused
set_option maxRecDepth 20000 in
theorem ggX6_bellThen_X1_after : GoodIn wsX6_bellThen wsX1_after := goodIn_r _ [27, 28, 29, 30, 31, 32, 33, 34, 35, 36, 37, 38, 39, 40, 41, 42, 43, 44, 45, 46, 47, 48, 49, 50, 51, 52, 53, 54, 55, 56, 57, 58, 59, 60, 61, 62, 63, 64, 65, 66, 110, 100, 101, 102, 103, 104, 105, 106, 107, 108, 109] (by decide +kernel) (by decide +kernel)
set_option maxRecDepth 20000 in
theorem gX6_bellThen_X1_after : GoodIn wsX6_bellThen (wsV RX6 150 RX1 yX1_after wsX1_after) := goodIn_app (goodIn_of _ (by decide +kernel)) ggX6_bellThen_X1_after
set_option maxRecDepth 20000 in
theorem ggX6_bellThen_X4_hearersOf : GoodIn wsX6_bellThen wsX4_hearersOf := goodIn_r _ [70, 41, 71, 72, 73, 32, 74, 45, 44, 42, 35, 75, 76, 77, 78, 43, 100, 101, 102, 103, 104, 105, 106, 107, 108, 109] (by decide +kernel) (by decide +kernel)
set_option maxRecDepth 20000 in
theorem gX6_bellThen_X4_hearersOf : GoodIn wsX6_bellThen (wsV RX6 97 RX4 yX4_hearersOf wsX4_hearersOf) := goodIn_app (goodIn_of _ (by decide +kernel)) ggX6_bellThen_X4_hearersOf
set_option maxRecDepth 20000 in
theorem ggX6_bellThen_X4_isRinging : GoodIn wsX6_bellThen wsX4_isRinging := goodIn_r _ [82, 40, 46, 100, 101, 102, 103, 104, 105, 106, 107, 108, 109] (by decide +kernel) (by decide +kernel)
set_option maxRecDepth 20000 in
theorem gX6_bellThen_X4_isRinging : GoodIn wsX6_bellThen (wsV RX6 154 RX4 yX4_isRinging wsX4_isRinging) := goodIn_app (goodIn_of _ (by decide +kernel)) ggX6_bellThen_X4_isRinging
set_option maxRecDepth 20000 in
theorem ggX6_bellThen_X4_saidOf : GoodIn wsX6_bellThen wsX4_saidOf := goodIn_r _ [86, 41, 35, 87, 88, 89, 32, 90, 42, 43, 100, 101, 102, 103, 104, 105, 106, 107, 108, 109] (by decide +kernel) (by decide +kernel)
set_option maxRecDepth 20000 in
theorem gX6_bellThen_X4_saidOf : GoodIn wsX6_bellThen (wsV RX6 100 RX4 yX4_saidOf wsX4_saidOf) := goodIn_app (goodIn_of _ (by decide +kernel)) ggX6_bellThen_X4_saidOf
theorem dX6_bellThen_0 : decode cX6_bellThen 0 = .ok (.aload_n 0, 1) := by decide +kernel
theorem dX6_bellThen_1 : decode cX6_bellThen 1 = .ok (.iload_n 1, 1) := by decide +kernel
theorem dX6_bellThen_2 : decode cX6_bellThen 2 = .ok (.invokevirtual 85, 3) := by decide +kernel
theorem dX6_bellThen_5 : decode cX6_bellThen 5 = .ok (.iload_n 2, 1) := by decide +kernel
theorem dX6_bellThen_6 : decode cX6_bellThen 6 = .ok (.iconst 0, 1) := by decide +kernel
theorem dX6_bellThen_7 : decode cX6_bellThen 7 = .ok (.bipush 99, 2) := by decide +kernel
theorem dX6_bellThen_9 : decode cX6_bellThen 9 = .ok (.invokestatic 58, 3) := by decide +kernel
theorem dX6_bellThen_12 : decode cX6_bellThen 12 = .ok (.invokestatic 66, 3) := by decide +kernel
theorem dX6_bellThen_15 : decode cX6_bellThen 15 = .ok (.istore 4, 2) := by decide +kernel
theorem dX6_bellThen_17 : decode cX6_bellThen 17 = .ok (.iload 4, 2) := by decide +kernel
theorem dX6_bellThen_19 : decode cX6_bellThen 19 = .ok (.iload_n 3, 1) := by decide +kernel
theorem dX6_bellThen_20 : decode cX6_bellThen 20 = .ok (.iconst 2, 1) := by decide +kernel
theorem dX6_bellThen_21 : decode cX6_bellThen 21 = .ok (.invokestatic 88, 3) := by decide +kernel
theorem dX6_bellThen_24 : decode cX6_bellThen 24 = .ok (.invokestatic 66, 3) := by decide +kernel
theorem dX6_bellThen_27 : decode cX6_bellThen 27 = .ok (.istore 4, 2) := by decide +kernel
theorem dX6_bellThen_29 : decode cX6_bellThen 29 = .ok (.iload 4, 2) := by decide +kernel
theorem dX6_bellThen_31 : decode cX6_bellThen 31 = .ok (.ifCond .eq 10, 3) := by decide +kernel
theorem dX6_bellThen_34 : decode cX6_bellThen 34 = .ok (.aload_n 0, 1) := by decide +kernel
theorem dX6_bellThen_35 : decode cX6_bellThen 35 = .ok (.iload 4, 2) := by decide +kernel
theorem dX6_bellThen_37 : decode cX6_bellThen 37 = .ok (.invokevirtual 70, 3) := by decide +kernel
theorem dX6_bellThen_40 : decode cX6_bellThen 40 = .ok (.ireturn, 1) := by decide +kernel
theorem dX6_bellThen_41 : decode cX6_bellThen 41 = .ok (.aload_n 0, 1) := by decide +kernel
theorem dX6_bellThen_42 : decode cX6_bellThen 42 = .ok (.getfield 43, 3) := by decide +kernel
theorem dX6_bellThen_45 : decode cX6_bellThen 45 = .ok (.aload_n 0, 1) := by decide +kernel
theorem dX6_bellThen_46 : decode cX6_bellThen 46 = .ok (.getfield 10, 3) := by decide +kernel
theorem dX6_bellThen_49 : decode cX6_bellThen 49 = .ok (.iload_n 2, 1) := by decide +kernel
theorem dX6_bellThen_50 : decode cX6_bellThen 50 = .ok (.invokevirtual 150, 3) := by decide +kernel
theorem dX6_bellThen_53 : decode cX6_bellThen 53 = .ok (.astore 5, 2) := by decide +kernel
theorem dX6_bellThen_55 : decode cX6_bellThen 55 = .ok (.aload 5, 2) := by decide +kernel
theorem dX6_bellThen_57 : decode cX6_bellThen 57 = .ok (.iload_n 1, 1) := by decide +kernel
theorem dX6_bellThen_58 : decode cX6_bellThen 58 = .ok (.invokevirtual 97, 3) := by decide +kernel
theorem dX6_bellThen_61 : decode cX6_bellThen 61 = .ok (.istore 6, 2) := by decide +kernel
theorem dX6_bellThen_63 : decode cX6_bellThen 63 = .ok (.iload_n 3, 1) := by decide +kernel
theorem dX6_bellThen_64 : decode cX6_bellThen 64 = .ok (.ifCond .ne 6, 3) := by decide +kernel
theorem dX6_bellThen_67 : decode cX6_bellThen 67 = .ok (.iload 6, 2) := by decide +kernel
theorem dX6_bellThen_69 : decode cX6_bellThen 69 = .ok (.ireturn, 1) := by decide +kernel
theorem dX6_bellThen_70 : decode cX6_bellThen 70 = .ok (.aload 5, 2) := by decide +kernel
theorem dX6_bellThen_72 : decode cX6_bellThen 72 = .ok (.iload_n 1, 1) := by decide +kernel
theorem dX6_bellThen_73 : decode cX6_bellThen 73 = .ok (.invokevirtual 154, 3) := by decide +kernel
theorem dX6_bellThen_76 : decode cX6_bellThen 76 = .ok (.ifCond .eq 14, 3) := by decide +kernel
theorem dX6_bellThen_79 : decode cX6_bellThen 79 = .ok (.aload 5, 2) := by decide +kernel
theorem dX6_bellThen_81 : decode cX6_bellThen 81 = .ok (.iload_n 1, 1) := by decide +kernel
theorem dX6_bellThen_82 : decode cX6_bellThen 82 = .ok (.iload 6, 2) := by decide +kernel
theorem dX6_bellThen_84 : decode cX6_bellThen 84 = .ok (.invokevirtual 100, 3) := by decide +kernel
theorem dX6_bellThen_87 : decode cX6_bellThen 87 = .ok (.goto 5, 3) := by decide +kernel
theorem dX6_bellThen_90 : decode cX6_bellThen 90 = .ok (.bipush (-9), 2) := by decide +kernel
theorem dX6_bellThen_92 : decode cX6_bellThen 92 = .ok (.ireturn, 1) := by decide +kernel
set_option maxRecDepth 20000 in
theorem ggX6_deaf_X6_noPerson : GoodIn wsX6_deaf wsX6_noPerson := goodIn_r _ [7, 2, 8, 70, 71, 72, 73, 74, 75, 76, 77, 78, 79, 80, 81, 82, 83, 84, 85, 86, 87, 88] (by decide +kernel) (by decide +kernel)
set_option maxRecDepth 20000 in
theorem gX6_deaf_X6_noPerson : GoodIn wsX6_deaf (wsV RX6 103 RX6 yX6_noPerson wsX6_noPerson) := goodIn_app (goodIn_of _ (by decide +kernel)) ggX6_deaf_X6_noPerson
set_option maxRecDepth 20000 in
theorem ggX6_deaf_X6_refused : GoodIn wsX6_deaf wsX6_refused := goodIn_r _ [12, 13, 70, 71, 72, 73, 74, 75, 76, 77, 78] (by decide +kernel) (by decide +kernel)
set_option maxRecDepth 20000 in
theorem gX6_deaf_X6_refused : GoodIn wsX6_deaf (wsV RX6 70 RX6 yX6_refused wsX6_refused) := goodIn_app (goodIn_of _ (by decide +kernel)) ggX6_deaf_X6_refused
set_option maxRecDepth 20000 in
theorem ggX6_deaf_X1_deafAfter : GoodIn wsX6_deaf wsX1_deafAfter := goodIn_r _ [18, 19, 20, 21, 22, 23, 24, 25, 26, 27, 28, 29, 30, 31, 32, 33, 34, 35, 36, 37, 38, 39, 40, 41, 42, 43, 44, 45, 46, 47, 48, 49, 50, 51, 52, 53, 54, 55, 56, 57, 58, 59, 60, 61, 62, 63, 64, 65, 66, 67, 68, 69, 89, 79, 80, 81, 82, 83, 84, 85, 86, 87, 88] (by decide +kernel) (by decide +kernel)
set_option maxRecDepth 20000 in
theorem gX6_deaf_X1_deafAfter : GoodIn wsX6_deaf (wsV RX6 158 RX1 yX1_deafAfter wsX1_deafAfter) := goodIn_app (goodIn_of _ (by decide +kernel)) ggX6_deaf_X1_deafAfter
theorem dX6_deaf_0 : decode cX6_deaf 0 = .ok (.aload_n 0, 1) := by decide +kernel
theorem dX6_deaf_1 : decode cX6_deaf 1 = .ok (.iload_n 1, 1) := by decide +kernel
theorem dX6_deaf_2 : decode cX6_deaf 2 = .ok (.invokevirtual 103, 3) := by decide +kernel
theorem dX6_deaf_5 : decode cX6_deaf 5 = .ok (.istore_n 2, 1) := by decide +kernel
theorem dX6_deaf_6 : decode cX6_deaf 6 = .ok (.iload_n 2, 1) := by decide +kernel
theorem dX6_deaf_7 : decode cX6_deaf 7 = .ok (.ifCond .eq 9, 3) := by decide +kernel
theorem dX6_deaf_10 : decode cX6_deaf 10 = .ok (.aload_n 0, 1) := by decide +kernel
theorem dX6_deaf_11 : decode cX6_deaf 11 = .ok (.iload_n 2, 1) := by decide +kernel
theorem dX6_deaf_12 : decode cX6_deaf 12 = .ok (.invokevirtual 70, 3) := by decide +kernel
theorem dX6_deaf_15 : decode cX6_deaf 15 = .ok (.ireturn, 1) := by decide +kernel
theorem dX6_deaf_16 : decode cX6_deaf 16 = .ok (.aload_n 0, 1) := by decide +kernel
theorem dX6_deaf_17 : decode cX6_deaf 17 = .ok (.getfield 43, 3) := by decide +kernel
theorem dX6_deaf_20 : decode cX6_deaf 20 = .ok (.aload_n 0, 1) := by decide +kernel
theorem dX6_deaf_21 : decode cX6_deaf 21 = .ok (.getfield 10, 3) := by decide +kernel
theorem dX6_deaf_24 : decode cX6_deaf 24 = .ok (.iload_n 1, 1) := by decide +kernel
theorem dX6_deaf_25 : decode cX6_deaf 25 = .ok (.invokevirtual 158, 3) := by decide +kernel
theorem dX6_deaf_28 : decode cX6_deaf 28 = .ok (.ireturn, 1) := by decide +kernel
set_option maxRecDepth 20000 in
theorem ggX6_lost_X6_choice : GoodIn wsX6_lost wsX6_choice := goodIn_r _ [6] (by decide +kernel) (by decide +kernel)
set_option maxRecDepth 20000 in
theorem gX6_lost_X6_choice : GoodIn wsX6_lost (va_wsS RX6 88 yX6_choice wsX6_choice) := goodIn_app (goodIn_of _ (by decide +kernel)) ggX6_lost_X6_choice
set_option maxRecDepth 20000 in
theorem ggX6_lost_X6_refused : GoodIn wsX6_lost wsX6_refused := goodIn_r _ [10, 11, 74, 75, 76, 77, 78, 79, 80, 81, 82] (by decide +kernel) (by decide +kernel)
set_option maxRecDepth 20000 in
theorem gX6_lost_X6_refused : GoodIn wsX6_lost (wsV RX6 70 RX6 yX6_refused wsX6_refused) := goodIn_app (goodIn_of _ (by decide +kernel)) ggX6_lost_X6_refused
set_option maxRecDepth 20000 in
theorem ggX6_lost_X1_firstLost : GoodIn wsX6_lost wsX1_firstLost := goodIn_r _ [16, 17, 18, 19, 20, 21, 22, 23, 24, 25, 26, 27, 28, 29, 30, 31, 32, 33, 34, 35, 36, 37, 38, 39, 40, 41, 42, 43, 44, 45, 46, 47, 48, 49, 50, 51, 52, 53, 54, 55, 56, 57, 58, 59, 60, 61, 62, 63, 64, 65, 66, 67, 68, 69, 70, 71, 72, 5, 73, 83, 84, 85, 86, 87, 88, 89, 90, 91, 92, 93] (by decide +kernel) (by decide +kernel)
set_option maxRecDepth 20000 in
theorem gX6_lost_X1_firstLost : GoodIn wsX6_lost (wsV RX6 162 RX1 yX1_firstLost wsX1_firstLost) := goodIn_app (goodIn_of _ (by decide +kernel)) ggX6_lost_X1_firstLost
theorem dX6_lost_0 : decode cX6_lost 0 = .ok (.iload_n 1, 1) := by decide +kernel
theorem dX6_lost_1 : decode cX6_lost 1 = .ok (.iconst 2, 1) := by decide +kernel
theorem dX6_lost_2 : decode cX6_lost 2 = .ok (.invokestatic 88, 3) := by decide +kernel
theorem dX6_lost_5 : decode cX6_lost 5 = .ok (.istore_n 2, 1) := by decide +kernel
theorem dX6_lost_6 : decode cX6_lost 6 = .ok (.iload_n 2, 1) := by decide +kernel
theorem dX6_lost_7 : decode cX6_lost 7 = .ok (.ifCond .eq 9, 3) := by decide +kernel
theorem dX6_lost_10 : decode cX6_lost 10 = .ok (.aload_n 0, 1) := by decide +kernel
theorem dX6_lost_11 : decode cX6_lost 11 = .ok (.iload_n 2, 1) := by decide +kernel
theorem dX6_lost_12 : decode cX6_lost 12 = .ok (.invokevirtual 70, 3) := by decide +kernel
theorem dX6_lost_15 : decode cX6_lost 15 = .ok (.ireturn, 1) := by decide +kernel
theorem dX6_lost_16 : decode cX6_lost 16 = .ok (.aload_n 0, 1) := by decide +kernel
theorem dX6_lost_17 : decode cX6_lost 17 = .ok (.getfield 43, 3) := by decide +kernel
theorem dX6_lost_20 : decode cX6_lost 20 = .ok (.aload_n 0, 1) := by decide +kernel
theorem dX6_lost_21 : decode cX6_lost 21 = .ok (.getfield 10, 3) := by decide +kernel
theorem dX6_lost_24 : decode cX6_lost 24 = .ok (.iload_n 1, 1) := by decide +kernel
theorem dX6_lost_25 : decode cX6_lost 25 = .ok (.ifCond .ne 7, 3) := by decide +kernel
theorem dX6_lost_28 : decode cX6_lost 28 = .ok (.iconst 1, 1) := by decide +kernel
theorem dX6_lost_29 : decode cX6_lost 29 = .ok (.goto 4, 3) := by decide +kernel
theorem dX6_lost_32 : decode cX6_lost 32 = .ok (.iconst 0, 1) := by decide +kernel
theorem dX6_lost_33 : decode cX6_lost 33 = .ok (.invokevirtual 162, 3) := by decide +kernel
theorem dX6_lost_36 : decode cX6_lost 36 = .ok (.ireturn, 1) := by decide +kernel
set_option maxRecDepth 20000 in
theorem ggX6_rings_X6_noBell : GoodIn wsX6_rings wsX6_noBell := goodIn_r _ [7, 2, 8, 102, 103, 104, 105, 106, 107, 108, 109, 110, 111, 112, 113, 114, 115, 116, 117, 118, 119, 120] (by decide +kernel) (by decide +kernel)
set_option maxRecDepth 20000 in
theorem gX6_rings_X6_noBell : GoodIn wsX6_rings (wsV RX6 85 RX6 yX6_noBell wsX6_noBell) := goodIn_app (goodIn_of _ (by decide +kernel)) ggX6_rings_X6_noBell
set_option maxRecDepth 20000 in
theorem ggX6_rings_X6_range : GoodIn wsX6_rings wsX6_range := goodIn_r _ [11] (by decide +kernel) (by decide +kernel)
set_option maxRecDepth 20000 in
theorem gX6_rings_X6_range : GoodIn wsX6_rings (va_wsS RX6 58 yX6_range wsX6_range) := goodIn_app (goodIn_of _ (by decide +kernel)) ggX6_rings_X6_range
set_option maxRecDepth 20000 in
theorem ggX6_rings_X6_first : GoodIn wsX6_rings wsX6_first := goodIn_r _ [14] (by decide +kernel) (by decide +kernel)
set_option maxRecDepth 20000 in
theorem gX6_rings_X6_first : GoodIn wsX6_rings (va_wsS RX6 66 yX6_first wsX6_first) := goodIn_app (goodIn_of _ (by decide +kernel)) ggX6_rings_X6_first
set_option maxRecDepth 20000 in
theorem ggX6_rings_X6_choice : GoodIn wsX6_rings wsX6_choice := goodIn_r _ [17] (by decide +kernel) (by decide +kernel)
set_option maxRecDepth 20000 in
theorem gX6_rings_X6_choice : GoodIn wsX6_rings (va_wsS RX6 88 yX6_choice wsX6_choice) := goodIn_app (goodIn_of _ (by decide +kernel)) ggX6_rings_X6_choice
set_option maxRecDepth 20000 in
theorem ggX6_rings_X6_refused : GoodIn wsX6_rings wsX6_refused := goodIn_r _ [21, 22, 102, 103, 104, 105, 106, 107, 108, 109, 110] (by decide +kernel) (by decide +kernel)
set_option maxRecDepth 20000 in
theorem gX6_rings_X6_refused : GoodIn wsX6_rings (wsV RX6 70 RX6 yX6_refused wsX6_refused) := goodIn_app (goodIn_of _ (by decide +kernel)) ggX6_rings_X6_refused
set_option maxRecDepth 20000 in
theorem ggX6_rings_X1_rightDays : GoodIn wsX6_rings wsX1_rightDays := goodIn_r _ [27, 28, 29, 30, 31, 32, 33, 34, 35, 36, 37, 38, 39, 40, 41, 42, 43, 44, 45, 46, 47, 48, 49, 50, 51, 52, 53, 54, 55, 56, 57, 58, 59, 60, 61, 62, 63, 64, 65, 66, 67, 68, 69, 70, 71, 72, 73, 74, 75, 76, 77, 78, 79, 80, 81, 82, 83, 84, 85, 86, 87, 88, 89, 90, 91, 92, 93, 94, 121, 111, 112, 113, 114, 115, 116, 117, 118, 119, 120] (by decide +kernel) (by decide +kernel)
set_option maxRecDepth 20000 in
theorem gX6_rings_X1_rightDays : GoodIn wsX6_rings (wsV RX6 166 RX1 yX1_rightDays wsX1_rightDays) := goodIn_app (goodIn_of _ (by decide +kernel)) ggX6_rings_X1_rightDays
set_option maxRecDepth 20000 in
theorem ggX6_rings_X1_unheardDays : GoodIn wsX6_rings wsX1_unheardDays := goodIn_r _ [98, 28, 29, 30, 31, 32, 33, 34, 35, 36, 37, 38, 39, 40, 41, 42, 43, 44, 45, 46, 47, 99, 53, 54, 55, 56, 57, 58, 59, 60, 61, 62, 63, 64, 65, 66, 67, 68, 69, 70, 100, 72, 73, 74, 101, 76, 77, 78, 79, 80, 81, 82, 83, 84, 85, 86, 121, 111, 112, 113, 114, 115, 116, 117, 118, 119, 120] (by decide +kernel) (by decide +kernel)
set_option maxRecDepth 20000 in
theorem gX6_rings_X1_unheardDays : GoodIn wsX6_rings (wsV RX6 170 RX1 yX1_unheardDays wsX1_unheardDays) := goodIn_app (goodIn_of _ (by decide +kernel)) ggX6_rings_X1_unheardDays
theorem dX6_rings_0 : decode cX6_rings 0 = .ok (.aload_n 0, 1) := by decide +kernel
theorem dX6_rings_1 : decode cX6_rings 1 = .ok (.iload_n 1, 1) := by decide +kernel
theorem dX6_rings_2 : decode cX6_rings 2 = .ok (.invokevirtual 85, 3) := by decide +kernel
theorem dX6_rings_5 : decode cX6_rings 5 = .ok (.iload_n 2, 1) := by decide +kernel
theorem dX6_rings_6 : decode cX6_rings 6 = .ok (.iconst 1, 1) := by decide +kernel
theorem dX6_rings_7 : decode cX6_rings 7 = .ok (.bipush 40, 2) := by decide +kernel
theorem dX6_rings_9 : decode cX6_rings 9 = .ok (.invokestatic 58, 3) := by decide +kernel
theorem dX6_rings_12 : decode cX6_rings 12 = .ok (.invokestatic 66, 3) := by decide +kernel
theorem dX6_rings_15 : decode cX6_rings 15 = .ok (.istore 4, 2) := by decide +kernel
theorem dX6_rings_17 : decode cX6_rings 17 = .ok (.iload 4, 2) := by decide +kernel
theorem dX6_rings_19 : decode cX6_rings 19 = .ok (.iload_n 3, 1) := by decide +kernel
theorem dX6_rings_20 : decode cX6_rings 20 = .ok (.iconst 2, 1) := by decide +kernel
theorem dX6_rings_21 : decode cX6_rings 21 = .ok (.invokestatic 88, 3) := by decide +kernel
theorem dX6_rings_24 : decode cX6_rings 24 = .ok (.invokestatic 66, 3) := by decide +kernel
theorem dX6_rings_27 : decode cX6_rings 27 = .ok (.istore 4, 2) := by decide +kernel
theorem dX6_rings_29 : decode cX6_rings 29 = .ok (.iload 4, 2) := by decide +kernel
theorem dX6_rings_31 : decode cX6_rings 31 = .ok (.ifCond .eq 10, 3) := by decide +kernel
theorem dX6_rings_34 : decode cX6_rings 34 = .ok (.aload_n 0, 1) := by decide +kernel
theorem dX6_rings_35 : decode cX6_rings 35 = .ok (.iload 4, 2) := by decide +kernel
theorem dX6_rings_37 : decode cX6_rings 37 = .ok (.invokevirtual 70, 3) := by decide +kernel
theorem dX6_rings_40 : decode cX6_rings 40 = .ok (.ireturn, 1) := by decide +kernel
theorem dX6_rings_41 : decode cX6_rings 41 = .ok (.iload_n 3, 1) := by decide +kernel
theorem dX6_rings_42 : decode cX6_rings 42 = .ok (.ifCond .ne 19, 3) := by decide +kernel
theorem dX6_rings_45 : decode cX6_rings 45 = .ok (.aload_n 0, 1) := by decide +kernel
theorem dX6_rings_46 : decode cX6_rings 46 = .ok (.getfield 43, 3) := by decide +kernel
theorem dX6_rings_49 : decode cX6_rings 49 = .ok (.aload_n 0, 1) := by decide +kernel
theorem dX6_rings_50 : decode cX6_rings 50 = .ok (.getfield 10, 3) := by decide +kernel
theorem dX6_rings_53 : decode cX6_rings 53 = .ok (.iload_n 1, 1) := by decide +kernel
theorem dX6_rings_54 : decode cX6_rings 54 = .ok (.iload_n 2, 1) := by decide +kernel
theorem dX6_rings_55 : decode cX6_rings 55 = .ok (.invokevirtual 166, 3) := by decide +kernel
theorem dX6_rings_58 : decode cX6_rings 58 = .ok (.goto 16, 3) := by decide +kernel
theorem dX6_rings_61 : decode cX6_rings 61 = .ok (.aload_n 0, 1) := by decide +kernel
theorem dX6_rings_62 : decode cX6_rings 62 = .ok (.getfield 43, 3) := by decide +kernel
theorem dX6_rings_65 : decode cX6_rings 65 = .ok (.aload_n 0, 1) := by decide +kernel
theorem dX6_rings_66 : decode cX6_rings 66 = .ok (.getfield 10, 3) := by decide +kernel
theorem dX6_rings_69 : decode cX6_rings 69 = .ok (.iload_n 1, 1) := by decide +kernel
theorem dX6_rings_70 : decode cX6_rings 70 = .ok (.iload_n 2, 1) := by decide +kernel
theorem dX6_rings_71 : decode cX6_rings 71 = .ok (.invokevirtual 170, 3) := by decide +kernel
theorem dX6_rings_74 : decode cX6_rings 74 = .ok (.ireturn, 1) := by decide +kernel
set_option maxRecDepth 20000 in
theorem ggX6_send_X6_noBell : GoodIn wsX6_send wsX6_noBell := goodIn_r _ [7, 2, 8, 94, 95, 96, 97, 98, 99, 100, 101, 102, 103, 104, 105, 106, 107, 108, 109, 110, 111, 112] (by decide +kernel) (by decide +kernel)
set_option maxRecDepth 20000 in
theorem gX6_send_X6_noBell : GoodIn wsX6_send (wsV RX6 85 RX6 yX6_noBell wsX6_noBell) := goodIn_app (goodIn_of _ (by decide +kernel)) ggX6_send_X6_noBell
set_option maxRecDepth 20000 in
theorem ggX6_send_X6_bothRanges : GoodIn wsX6_send wsX6_bothRanges := goodIn_r _ [11] (by decide +kernel) (by decide +kernel)
set_option maxRecDepth 20000 in
theorem gX6_send_X6_bothRanges : GoodIn wsX6_send (va_wsS RX6 173 yX6_bothRanges wsX6_bothRanges) := goodIn_app (goodIn_of _ (by decide +kernel)) ggX6_send_X6_bothRanges
set_option maxRecDepth 20000 in
theorem ggX6_send_X6_first : GoodIn wsX6_send wsX6_first := goodIn_r _ [14] (by decide +kernel) (by decide +kernel)
set_option maxRecDepth 20000 in
theorem gX6_send_X6_first : GoodIn wsX6_send (va_wsS RX6 66 yX6_first wsX6_first) := goodIn_app (goodIn_of _ (by decide +kernel)) ggX6_send_X6_first
set_option maxRecDepth 20000 in
theorem ggX6_send_X6_refused : GoodIn wsX6_send wsX6_refused := goodIn_r _ [18, 19, 94, 95, 96, 97, 98, 99, 100, 101, 102] (by decide +kernel) (by decide +kernel)
set_option maxRecDepth 20000 in
theorem gX6_send_X6_refused : GoodIn wsX6_send (wsV RX6 70 RX6 yX6_refused wsX6_refused) := goodIn_app (goodIn_of _ (by decide +kernel)) ggX6_send_X6_refused
set_option maxRecDepth 20000 in
theorem ggX6_send_X3_whomToSend : GoodIn wsX6_send wsX3_whomToSend := goodIn_r _ [24, 25, 26, 27, 28, 29, 30, 31, 32, 33, 34, 35, 36, 37, 38, 39, 40, 41, 42, 43, 44, 45, 46, 47, 48, 49, 50, 51, 52, 53, 54, 55, 56, 57, 58, 59, 60, 61, 62, 63, 64, 65, 66, 67, 68, 69, 70, 71, 72, 73, 74, 75, 76, 77, 78, 79, 80, 81, 82, 83, 84, 85, 86, 87, 88, 89, 90, 91, 92, 93, 113, 114, 103, 104, 105, 106, 107, 108, 109, 110, 111, 112] (by decide +kernel) (by decide +kernel)
set_option maxRecDepth 20000 in
theorem gX6_send_X3_whomToSend : GoodIn wsX6_send (wsV RX6 177 RX3 yX3_whomToSend wsX3_whomToSend) := goodIn_app (goodIn_of _ (by decide +kernel)) ggX6_send_X3_whomToSend
theorem dX6_send_0 : decode cX6_send 0 = .ok (.aload_n 0, 1) := by decide +kernel
theorem dX6_send_1 : decode cX6_send 1 = .ok (.iload_n 1, 1) := by decide +kernel
theorem dX6_send_2 : decode cX6_send 2 = .ok (.invokevirtual 85, 3) := by decide +kernel
theorem dX6_send_5 : decode cX6_send 5 = .ok (.iload_n 2, 1) := by decide +kernel
theorem dX6_send_6 : decode cX6_send 6 = .ok (.bipush 9, 2) := by decide +kernel
theorem dX6_send_8 : decode cX6_send 8 = .ok (.iload_n 3, 1) := by decide +kernel
theorem dX6_send_9 : decode cX6_send 9 = .ok (.bipush 40, 2) := by decide +kernel
theorem dX6_send_11 : decode cX6_send 11 = .ok (.invokestatic 173, 3) := by decide +kernel
theorem dX6_send_14 : decode cX6_send 14 = .ok (.invokestatic 66, 3) := by decide +kernel
theorem dX6_send_17 : decode cX6_send 17 = .ok (.istore 4, 2) := by decide +kernel
theorem dX6_send_19 : decode cX6_send 19 = .ok (.iload 4, 2) := by decide +kernel
theorem dX6_send_21 : decode cX6_send 21 = .ok (.ifCond .eq 10, 3) := by decide +kernel
theorem dX6_send_24 : decode cX6_send 24 = .ok (.aload_n 0, 1) := by decide +kernel
theorem dX6_send_25 : decode cX6_send 25 = .ok (.iload 4, 2) := by decide +kernel
theorem dX6_send_27 : decode cX6_send 27 = .ok (.invokevirtual 70, 3) := by decide +kernel
theorem dX6_send_30 : decode cX6_send 30 = .ok (.ireturn, 1) := by decide +kernel
theorem dX6_send_31 : decode cX6_send 31 = .ok (.aload_n 0, 1) := by decide +kernel
theorem dX6_send_32 : decode cX6_send 32 = .ok (.getfield 50, 3) := by decide +kernel
theorem dX6_send_35 : decode cX6_send 35 = .ok (.aload_n 0, 1) := by decide +kernel
theorem dX6_send_36 : decode cX6_send 36 = .ok (.getfield 10, 3) := by decide +kernel
theorem dX6_send_39 : decode cX6_send 39 = .ok (.iload_n 1, 1) := by decide +kernel
theorem dX6_send_40 : decode cX6_send 40 = .ok (.iload_n 2, 1) := by decide +kernel
theorem dX6_send_41 : decode cX6_send 41 = .ok (.iload_n 3, 1) := by decide +kernel
theorem dX6_send_42 : decode cX6_send 42 = .ok (.invokevirtual 177, 3) := by decide +kernel
theorem dX6_send_45 : decode cX6_send 45 = .ok (.ireturn, 1) := by decide +kernel
set_option maxRecDepth 20000 in
theorem ggX6_nightsFor_X6_noPerson : GoodIn wsX6_nightsFor wsX6_noPerson := goodIn_r _ [7, 2, 8, 94, 95, 96, 97, 98, 99, 100, 101, 102, 103, 104, 105, 106, 107, 108, 109, 110, 111, 112] (by decide +kernel) (by decide +kernel)
set_option maxRecDepth 20000 in
theorem gX6_nightsFor_X6_noPerson : GoodIn wsX6_nightsFor (wsV RX6 103 RX6 yX6_noPerson wsX6_noPerson) := goodIn_app (goodIn_of _ (by decide +kernel)) ggX6_nightsFor_X6_noPerson
set_option maxRecDepth 20000 in
theorem ggX6_nightsFor_X6_range : GoodIn wsX6_nightsFor wsX6_range := goodIn_r _ [11] (by decide +kernel) (by decide +kernel)
set_option maxRecDepth 20000 in
theorem gX6_nightsFor_X6_range : GoodIn wsX6_nightsFor (va_wsS RX6 58 yX6_range wsX6_range) := goodIn_app (goodIn_of _ (by decide +kernel)) ggX6_nightsFor_X6_range
set_option maxRecDepth 20000 in
theorem ggX6_nightsFor_X6_first : GoodIn wsX6_nightsFor wsX6_first := goodIn_r _ [14] (by decide +kernel) (by decide +kernel)
set_option maxRecDepth 20000 in
theorem gX6_nightsFor_X6_first : GoodIn wsX6_nightsFor (va_wsS RX6 66 yX6_first wsX6_first) := goodIn_app (goodIn_of _ (by decide +kernel)) ggX6_nightsFor_X6_first
set_option maxRecDepth 20000 in
theorem ggX6_nightsFor_X6_refused : GoodIn wsX6_nightsFor wsX6_refused := goodIn_r _ [18, 19, 94, 95, 96, 97, 98, 99, 100, 101, 102] (by decide +kernel) (by decide +kernel)
set_option maxRecDepth 20000 in
theorem gX6_nightsFor_X6_refused : GoodIn wsX6_nightsFor (wsV RX6 70 RX6 yX6_refused wsX6_refused) := goodIn_app (goodIn_of _ (by decide +kernel)) ggX6_nightsFor_X6_refused
set_option maxRecDepth 20000 in
theorem ggX6_nightsFor_X3_bestNights : GoodIn wsX6_nightsFor wsX3_bestNights := goodIn_r _ [24, 25, 26, 27, 28, 29, 30, 31, 32, 33, 34, 35, 36, 37, 38, 39, 40, 41, 42, 43, 44, 45, 46, 47, 48, 49, 50, 51, 52, 53, 54, 55, 56, 57, 58, 59, 60, 61, 62, 63, 64, 65, 66, 67, 68, 69, 70, 71, 72, 73, 74, 75, 76, 77, 78, 79, 80, 81, 82, 83, 84, 85, 86, 87, 88, 89, 90, 91, 92, 93, 113, 114, 103, 104, 105, 106, 107, 108, 109, 110, 111, 112] (by decide +kernel) (by decide +kernel)
set_option maxRecDepth 20000 in
theorem gX6_nightsFor_X3_bestNights : GoodIn wsX6_nightsFor (wsV RX6 181 RX3 yX3_bestNights wsX3_bestNights) := goodIn_app (goodIn_of _ (by decide +kernel)) ggX6_nightsFor_X3_bestNights
theorem dX6_nightsFor_0 : decode cX6_nightsFor 0 = .ok (.aload_n 0, 1) := by decide +kernel
theorem dX6_nightsFor_1 : decode cX6_nightsFor 1 = .ok (.iload_n 1, 1) := by decide +kernel
theorem dX6_nightsFor_2 : decode cX6_nightsFor 2 = .ok (.invokevirtual 103, 3) := by decide +kernel
theorem dX6_nightsFor_5 : decode cX6_nightsFor 5 = .ok (.iload_n 2, 1) := by decide +kernel
theorem dX6_nightsFor_6 : decode cX6_nightsFor 6 = .ok (.iconst 1, 1) := by decide +kernel
theorem dX6_nightsFor_7 : decode cX6_nightsFor 7 = .ok (.bipush 40, 2) := by decide +kernel
theorem dX6_nightsFor_9 : decode cX6_nightsFor 9 = .ok (.invokestatic 58, 3) := by decide +kernel
theorem dX6_nightsFor_12 : decode cX6_nightsFor 12 = .ok (.invokestatic 66, 3) := by decide +kernel
theorem dX6_nightsFor_15 : decode cX6_nightsFor 15 = .ok (.istore_n 3, 1) := by decide +kernel
theorem dX6_nightsFor_16 : decode cX6_nightsFor 16 = .ok (.iload_n 3, 1) := by decide +kernel
theorem dX6_nightsFor_17 : decode cX6_nightsFor 17 = .ok (.ifCond .eq 9, 3) := by decide +kernel
theorem dX6_nightsFor_20 : decode cX6_nightsFor 20 = .ok (.aload_n 0, 1) := by decide +kernel
theorem dX6_nightsFor_21 : decode cX6_nightsFor 21 = .ok (.iload_n 3, 1) := by decide +kernel
theorem dX6_nightsFor_22 : decode cX6_nightsFor 22 = .ok (.invokevirtual 70, 3) := by decide +kernel
theorem dX6_nightsFor_25 : decode cX6_nightsFor 25 = .ok (.ireturn, 1) := by decide +kernel
theorem dX6_nightsFor_26 : decode cX6_nightsFor 26 = .ok (.aload_n 0, 1) := by decide +kernel
theorem dX6_nightsFor_27 : decode cX6_nightsFor 27 = .ok (.getfield 50, 3) := by decide +kernel
theorem dX6_nightsFor_30 : decode cX6_nightsFor 30 = .ok (.aload_n 0, 1) := by decide +kernel
theorem dX6_nightsFor_31 : decode cX6_nightsFor 31 = .ok (.getfield 10, 3) := by decide +kernel
theorem dX6_nightsFor_34 : decode cX6_nightsFor 34 = .ok (.iload_n 1, 1) := by decide +kernel
theorem dX6_nightsFor_35 : decode cX6_nightsFor 35 = .ok (.iload_n 2, 1) := by decide +kernel
theorem dX6_nightsFor_36 : decode cX6_nightsFor 36 = .ok (.invokevirtual 181, 3) := by decide +kernel
theorem dX6_nightsFor_39 : decode cX6_nightsFor 39 = .ok (.ireturn, 1) := by decide +kernel
set_option maxRecDepth 20000 in
theorem ggX6_fewest_X6_range : GoodIn wsX6_fewest wsX6_range := goodIn_r _ [6] (by decide +kernel) (by decide +kernel)
set_option maxRecDepth 20000 in
theorem gX6_fewest_X6_range : GoodIn wsX6_fewest (va_wsS RX6 58 yX6_range wsX6_range) := goodIn_app (goodIn_of _ (by decide +kernel)) ggX6_fewest_X6_range
set_option maxRecDepth 20000 in
theorem ggX6_fewest_X6_refused : GoodIn wsX6_fewest wsX6_refused := goodIn_r _ [10, 11, 85, 86, 87, 88, 89, 90, 91, 92, 93] (by decide +kernel) (by decide +kernel)
set_option maxRecDepth 20000 in
theorem gX6_fewest_X6_refused : GoodIn wsX6_fewest (wsV RX6 70 RX6 yX6_refused wsX6_refused) := goodIn_app (goodIn_of _ (by decide +kernel)) ggX6_fewest_X6_refused
set_option maxRecDepth 20000 in
theorem ggX6_fewest_X3_fewestToSend : GoodIn wsX6_fewest wsX3_fewestToSend := goodIn_r _ [16, 17, 18, 19, 20, 21, 22, 23, 24, 25, 26, 27, 15, 28, 29, 30, 31, 32, 33, 34, 35, 36, 37, 38, 39, 40, 41, 42, 43, 44, 45, 46, 47, 48, 49, 50, 51, 52, 53, 54, 55, 56, 57, 58, 59, 60, 61, 62, 63, 64, 65, 66, 67, 68, 69, 70, 71, 72, 73, 74, 75, 76, 77, 78, 79, 80, 81, 82, 83, 84, 94, 95, 96, 97, 98, 99, 100, 101, 102, 103, 104, 105] (by decide +kernel) (by decide +kernel)
set_option maxRecDepth 20000 in
theorem gX6_fewest_X3_fewestToSend : GoodIn wsX6_fewest (wsV RX6 184 RX3 yX3_fewestToSend wsX3_fewestToSend) := goodIn_app (goodIn_of _ (by decide +kernel)) ggX6_fewest_X3_fewestToSend
theorem dX6_fewest_0 : decode cX6_fewest 0 = .ok (.iload_n 1, 1) := by decide +kernel
theorem dX6_fewest_1 : decode cX6_fewest 1 = .ok (.iconst 0, 1) := by decide +kernel
theorem dX6_fewest_2 : decode cX6_fewest 2 = .ok (.bipush 40, 2) := by decide +kernel
theorem dX6_fewest_4 : decode cX6_fewest 4 = .ok (.invokestatic 58, 3) := by decide +kernel
theorem dX6_fewest_7 : decode cX6_fewest 7 = .ok (.istore_n 2, 1) := by decide +kernel
theorem dX6_fewest_8 : decode cX6_fewest 8 = .ok (.iload_n 2, 1) := by decide +kernel
theorem dX6_fewest_9 : decode cX6_fewest 9 = .ok (.ifCond .eq 9, 3) := by decide +kernel
theorem dX6_fewest_12 : decode cX6_fewest 12 = .ok (.aload_n 0, 1) := by decide +kernel
theorem dX6_fewest_13 : decode cX6_fewest 13 = .ok (.iload_n 2, 1) := by decide +kernel
theorem dX6_fewest_14 : decode cX6_fewest 14 = .ok (.invokevirtual 70, 3) := by decide +kernel
theorem dX6_fewest_17 : decode cX6_fewest 17 = .ok (.ireturn, 1) := by decide +kernel
theorem dX6_fewest_18 : decode cX6_fewest 18 = .ok (.aload_n 0, 1) := by decide +kernel
theorem dX6_fewest_19 : decode cX6_fewest 19 = .ok (.getfield 50, 3) := by decide +kernel
theorem dX6_fewest_22 : decode cX6_fewest 22 = .ok (.aload_n 0, 1) := by decide +kernel
theorem dX6_fewest_23 : decode cX6_fewest 23 = .ok (.getfield 10, 3) := by decide +kernel
theorem dX6_fewest_26 : decode cX6_fewest 26 = .ok (.iload_n 1, 1) := by decide +kernel
theorem dX6_fewest_27 : decode cX6_fewest 27 = .ok (.invokevirtual 184, 3) := by decide +kernel
theorem dX6_fewest_30 : decode cX6_fewest 30 = .ok (.ireturn, 1) := by decide +kernel
set_option maxRecDepth 20000 in
theorem ggX6_ask_X6_noBell : GoodIn wsX6_ask wsX6_noBell := goodIn_r _ [7, 2, 8, 78, 79, 80, 81, 82, 83, 84, 85, 86, 87, 88, 89, 90, 91, 92, 93, 94, 95, 96] (by decide +kernel) (by decide +kernel)
set_option maxRecDepth 20000 in
theorem gX6_ask_X6_noBell : GoodIn wsX6_ask (wsV RX6 85 RX6 yX6_noBell wsX6_noBell) := goodIn_app (goodIn_of _ (by decide +kernel)) ggX6_ask_X6_noBell
set_option maxRecDepth 20000 in
theorem ggX6_ask_X6_refused : GoodIn wsX6_ask wsX6_refused := goodIn_r _ [12, 13, 78, 79, 80, 81, 82, 83, 84, 85, 86] (by decide +kernel) (by decide +kernel)
set_option maxRecDepth 20000 in
theorem gX6_ask_X6_refused : GoodIn wsX6_ask (wsV RX6 70 RX6 yX6_refused wsX6_refused) := goodIn_app (goodIn_of _ (by decide +kernel)) ggX6_ask_X6_refused
set_option maxRecDepth 20000 in
theorem ggX6_ask_X1_longestRight : GoodIn wsX6_ask wsX1_longestRight := goodIn_r _ [18, 19, 20, 21, 22, 23, 24, 25, 26, 27, 28, 29, 30, 31, 32, 33, 34, 35, 36, 37, 38, 39, 40, 41, 42, 43, 44, 45, 46, 47, 48, 49, 50, 51, 52, 53, 54, 55, 56, 57, 58, 59, 60, 61, 62, 63, 64, 65, 66, 67, 68, 69, 70, 71, 72, 73, 74, 75, 76, 6, 77, 97, 87, 88, 89, 90, 91, 92, 93, 94, 95, 96] (by decide +kernel) (by decide +kernel)
set_option maxRecDepth 20000 in
theorem gX6_ask_X1_longestRight : GoodIn wsX6_ask (wsV RX6 187 RX1 yX1_longestRight wsX1_longestRight) := goodIn_app (goodIn_of _ (by decide +kernel)) ggX6_ask_X1_longestRight
theorem dX6_ask_0 : decode cX6_ask 0 = .ok (.aload_n 0, 1) := by decide +kernel
theorem dX6_ask_1 : decode cX6_ask 1 = .ok (.iload_n 1, 1) := by decide +kernel
theorem dX6_ask_2 : decode cX6_ask 2 = .ok (.invokevirtual 85, 3) := by decide +kernel
theorem dX6_ask_5 : decode cX6_ask 5 = .ok (.istore_n 2, 1) := by decide +kernel
theorem dX6_ask_6 : decode cX6_ask 6 = .ok (.iload_n 2, 1) := by decide +kernel
theorem dX6_ask_7 : decode cX6_ask 7 = .ok (.ifCond .eq 9, 3) := by decide +kernel
theorem dX6_ask_10 : decode cX6_ask 10 = .ok (.aload_n 0, 1) := by decide +kernel
theorem dX6_ask_11 : decode cX6_ask 11 = .ok (.iload_n 2, 1) := by decide +kernel
theorem dX6_ask_12 : decode cX6_ask 12 = .ok (.invokevirtual 70, 3) := by decide +kernel
theorem dX6_ask_15 : decode cX6_ask 15 = .ok (.ireturn, 1) := by decide +kernel
theorem dX6_ask_16 : decode cX6_ask 16 = .ok (.aload_n 0, 1) := by decide +kernel
theorem dX6_ask_17 : decode cX6_ask 17 = .ok (.getfield 43, 3) := by decide +kernel
theorem dX6_ask_20 : decode cX6_ask 20 = .ok (.aload_n 0, 1) := by decide +kernel
theorem dX6_ask_21 : decode cX6_ask 21 = .ok (.getfield 10, 3) := by decide +kernel
theorem dX6_ask_24 : decode cX6_ask 24 = .ok (.iload_n 1, 1) := by decide +kernel
theorem dX6_ask_25 : decode cX6_ask 25 = .ok (.invokevirtual 187, 3) := by decide +kernel
theorem dX6_ask_28 : decode cX6_ask 28 = .ok (.ireturn, 1) := by decide +kernel
set_option maxRecDepth 20000 in
theorem ggX6_leave_X5_whomToLeaveOut : GoodIn wsX6_leave wsX5_whomToLeaveOut := goodIn_r _ [7, 8, 9, 10, 11, 6, 12, 13, 14, 15, 16, 17, 18, 19, 20, 21, 22, 23, 24, 25, 26, 27, 28, 29, 30, 31, 32, 33, 34, 35, 36, 37, 38, 39, 40, 41, 51, 52, 53, 54, 55, 56, 57, 58, 59, 60] (by decide +kernel) (by decide +kernel)
set_option maxRecDepth 20000 in
theorem gX6_leave_X5_whomToLeaveOut : GoodIn wsX6_leave (wsV RX6 190 RX5 yX5_whomToLeaveOut wsX5_whomToLeaveOut) := goodIn_app (goodIn_of _ (by decide +kernel)) ggX6_leave_X5_whomToLeaveOut
theorem dX6_leave_0 : decode cX6_leave 0 = .ok (.aload_n 0, 1) := by decide +kernel
theorem dX6_leave_1 : decode cX6_leave 1 = .ok (.getfield 36, 3) := by decide +kernel
theorem dX6_leave_4 : decode cX6_leave 4 = .ok (.aload_n 0, 1) := by decide +kernel
theorem dX6_leave_5 : decode cX6_leave 5 = .ok (.getfield 10, 3) := by decide +kernel
theorem dX6_leave_8 : decode cX6_leave 8 = .ok (.invokevirtual 190, 3) := by decide +kernel
theorem dX6_leave_11 : decode cX6_leave 11 = .ok (.ireturn, 1) := by decide +kernel
set_option maxRecDepth 20000 in
theorem ggX6_right_X6_choice : GoodIn wsX6_right wsX6_choice := goodIn_r _ [7] (by decide +kernel) (by decide +kernel)
set_option maxRecDepth 20000 in
theorem gX6_right_X6_choice : GoodIn wsX6_right (va_wsS RX6 88 yX6_choice wsX6_choice) := goodIn_app (goodIn_of _ (by decide +kernel)) ggX6_right_X6_choice
set_option maxRecDepth 20000 in
theorem ggX6_right_X6_refused : GoodIn wsX6_right wsX6_refused := goodIn_r _ [11, 12, 111, 112, 113, 114, 115, 116, 117, 118, 119] (by decide +kernel) (by decide +kernel)
set_option maxRecDepth 20000 in
theorem gX6_right_X6_refused : GoodIn wsX6_right (wsV RX6 70 RX6 yX6_refused wsX6_refused) := goodIn_app (goodIn_of _ (by decide +kernel)) ggX6_right_X6_refused
set_option maxRecDepth 20000 in
theorem ggX6_right_X5_rightBells : GoodIn wsX6_right wsX5_rightBells := goodIn_r _ [17, 18, 19, 20, 21, 22, 23, 24, 25, 26, 27, 28, 29, 30, 31, 32, 33, 34, 35, 36, 37, 38, 39, 40, 41, 42, 43, 44, 45, 46, 120, 121, 122, 123, 124, 125, 126, 127, 128, 129] (by decide +kernel) (by decide +kernel)
set_option maxRecDepth 20000 in
theorem gX6_right_X5_rightBells : GoodIn wsX6_right (wsV RX6 193 RX5 yX5_rightBells wsX5_rightBells) := goodIn_app (goodIn_of _ (by decide +kernel)) ggX6_right_X5_rightBells
set_option maxRecDepth 20000 in
theorem ggX6_right_X5_wrongBells : GoodIn wsX6_right wsX5_wrongBells := goodIn_r _ [50, 18, 51, 52, 53, 23, 54, 55, 56, 21, 22, 24, 25, 26, 27, 28, 29, 30, 31, 32, 33, 34, 35, 36, 37, 38, 57, 58, 59, 60, 61, 62, 63, 64, 14, 15, 16, 17, 19, 20, 39, 40, 41, 42, 43, 44, 45, 46, 120, 121, 122, 123, 124, 125, 126, 127, 128, 129] (by decide +kernel) (by decide +kernel)
set_option maxRecDepth 20000 in
theorem gX6_right_X5_wrongBells : GoodIn wsX6_right (wsV RX6 196 RX5 yX5_wrongBells wsX5_wrongBells) := goodIn_app (goodIn_of _ (by decide +kernel)) ggX6_right_X5_wrongBells
set_option maxRecDepth 20000 in
theorem ggX6_right_X1_lastDeaf : GoodIn wsX6_right wsX1_lastDeaf := goodIn_r _ [69, 70, 71, 72, 73, 23, 74, 55, 33, 75, 76, 77, 78, 79, 25, 32, 38, 31, 30, 80, 81, 82, 83, 84, 85, 86, 87, 88, 89, 26, 27, 28, 29, 34, 35, 36, 37, 90, 91, 92, 93, 94, 95, 96, 97, 98, 99, 100, 101, 102, 103, 104, 105, 106, 107, 108, 109, 6, 110, 130, 120, 121, 122, 123, 124, 125, 126, 127, 128, 129] (by decide +kernel) (by decide +kernel)
set_option maxRecDepth 20000 in
theorem gX6_right_X1_lastDeaf : GoodIn wsX6_right (wsV RX6 199 RX1 yX1_lastDeaf wsX1_lastDeaf) := goodIn_app (goodIn_of _ (by decide +kernel)) ggX6_right_X1_lastDeaf
theorem dX6_right_0 : decode cX6_right 0 = .ok (.iload_n 1, 1) := by decide +kernel
theorem dX6_right_1 : decode cX6_right 1 = .ok (.iconst 3, 1) := by decide +kernel
theorem dX6_right_2 : decode cX6_right 2 = .ok (.invokestatic 88, 3) := by decide +kernel
theorem dX6_right_5 : decode cX6_right 5 = .ok (.istore_n 2, 1) := by decide +kernel
theorem dX6_right_6 : decode cX6_right 6 = .ok (.iload_n 2, 1) := by decide +kernel
theorem dX6_right_7 : decode cX6_right 7 = .ok (.ifCond .eq 9, 3) := by decide +kernel
theorem dX6_right_10 : decode cX6_right 10 = .ok (.aload_n 0, 1) := by decide +kernel
theorem dX6_right_11 : decode cX6_right 11 = .ok (.iload_n 2, 1) := by decide +kernel
theorem dX6_right_12 : decode cX6_right 12 = .ok (.invokevirtual 70, 3) := by decide +kernel
theorem dX6_right_15 : decode cX6_right 15 = .ok (.ireturn, 1) := by decide +kernel
theorem dX6_right_16 : decode cX6_right 16 = .ok (.iload_n 1, 1) := by decide +kernel
theorem dX6_right_17 : decode cX6_right 17 = .ok (.lookupswitch 53 #[(0, 27), (1, 41)], 27) := by decide +kernel
theorem dX6_right_44 : decode cX6_right 44 = .ok (.aload_n 0, 1) := by decide +kernel
theorem dX6_right_45 : decode cX6_right 45 = .ok (.getfield 36, 3) := by decide +kernel
theorem dX6_right_48 : decode cX6_right 48 = .ok (.aload_n 0, 1) := by decide +kernel
theorem dX6_right_49 : decode cX6_right 49 = .ok (.getfield 10, 3) := by decide +kernel
theorem dX6_right_52 : decode cX6_right 52 = .ok (.bipush (-9), 2) := by decide +kernel
theorem dX6_right_54 : decode cX6_right 54 = .ok (.invokevirtual 193, 3) := by decide +kernel
theorem dX6_right_57 : decode cX6_right 57 = .ok (.ireturn, 1) := by decide +kernel
theorem dX6_right_58 : decode cX6_right 58 = .ok (.aload_n 0, 1) := by decide +kernel
theorem dX6_right_59 : decode cX6_right 59 = .ok (.getfield 36, 3) := by decide +kernel
theorem dX6_right_62 : decode cX6_right 62 = .ok (.aload_n 0, 1) := by decide +kernel
theorem dX6_right_63 : decode cX6_right 63 = .ok (.getfield 10, 3) := by decide +kernel
theorem dX6_right_66 : decode cX6_right 66 = .ok (.invokevirtual 196, 3) := by decide +kernel
theorem dX6_right_69 : decode cX6_right 69 = .ok (.ireturn, 1) := by decide +kernel
theorem dX6_right_70 : decode cX6_right 70 = .ok (.aload_n 0, 1) := by decide +kernel
theorem dX6_right_71 : decode cX6_right 71 = .ok (.getfield 43, 3) := by decide +kernel
theorem dX6_right_74 : decode cX6_right 74 = .ok (.aload_n 0, 1) := by decide +kernel
theorem dX6_right_75 : decode cX6_right 75 = .ok (.getfield 10, 3) := by decide +kernel
theorem dX6_right_78 : decode cX6_right 78 = .ok (.invokevirtual 199, 3) := by decide +kernel
theorem dX6_right_81 : decode cX6_right 81 = .ok (.ireturn, 1) := by decide +kernel
set_option maxRecDepth 20000 in
theorem ggX6_clash_X6_choice : GoodIn wsX6_clash wsX6_choice := goodIn_r _ [6] (by decide +kernel) (by decide +kernel)
set_option maxRecDepth 20000 in
theorem gX6_clash_X6_choice : GoodIn wsX6_clash (va_wsS RX6 88 yX6_choice wsX6_choice) := goodIn_app (goodIn_of _ (by decide +kernel)) ggX6_clash_X6_choice
set_option maxRecDepth 20000 in
theorem ggX6_clash_X6_refused : GoodIn wsX6_clash wsX6_refused := goodIn_r _ [10, 11, 44, 45, 46, 47, 48, 49, 50, 51, 52] (by decide +kernel) (by decide +kernel)
set_option maxRecDepth 20000 in
theorem gX6_clash_X6_refused : GoodIn wsX6_clash (wsV RX6 70 RX6 yX6_refused wsX6_refused) := goodIn_app (goodIn_of _ (by decide +kernel)) ggX6_clash_X6_refused
set_option maxRecDepth 20000 in
theorem ggX6_clash_X5_clashes : GoodIn wsX6_clash wsX5_clashes := goodIn_r _ [16, 17, 18, 19, 15, 20, 21, 22, 23, 24, 25, 26, 27, 28, 29, 30, 31, 32, 33, 34, 35, 36, 37, 38, 39, 53, 54, 55, 56, 57, 58, 59, 60, 61, 62] (by decide +kernel) (by decide +kernel)
set_option maxRecDepth 20000 in
theorem gX6_clash_X5_clashes : GoodIn wsX6_clash (wsV RX6 202 RX5 yX5_clashes wsX5_clashes) := goodIn_app (goodIn_of _ (by decide +kernel)) ggX6_clash_X5_clashes
set_option maxRecDepth 20000 in
theorem ggX6_clash_X5_firstClash : GoodIn wsX6_clash wsX5_firstClash := goodIn_r _ [43, 17, 18, 19, 15, 20, 21, 22, 23, 24, 25, 26, 27, 28, 29, 30, 31, 32, 33, 34, 35, 36, 37, 38, 39, 53, 54, 55, 56, 57, 58, 59, 60, 61, 62] (by decide +kernel) (by decide +kernel)
set_option maxRecDepth 20000 in
theorem gX6_clash_X5_firstClash : GoodIn wsX6_clash (wsV RX6 205 RX5 yX5_firstClash wsX5_firstClash) := goodIn_app (goodIn_of _ (by decide +kernel)) ggX6_clash_X5_firstClash
theorem dX6_clash_0 : decode cX6_clash 0 = .ok (.iload_n 1, 1) := by decide +kernel
theorem dX6_clash_1 : decode cX6_clash 1 = .ok (.iconst 2, 1) := by decide +kernel
theorem dX6_clash_2 : decode cX6_clash 2 = .ok (.invokestatic 88, 3) := by decide +kernel
theorem dX6_clash_5 : decode cX6_clash 5 = .ok (.istore_n 2, 1) := by decide +kernel
theorem dX6_clash_6 : decode cX6_clash 6 = .ok (.iload_n 2, 1) := by decide +kernel
theorem dX6_clash_7 : decode cX6_clash 7 = .ok (.ifCond .eq 9, 3) := by decide +kernel
theorem dX6_clash_10 : decode cX6_clash 10 = .ok (.aload_n 0, 1) := by decide +kernel
theorem dX6_clash_11 : decode cX6_clash 11 = .ok (.iload_n 2, 1) := by decide +kernel
theorem dX6_clash_12 : decode cX6_clash 12 = .ok (.invokevirtual 70, 3) := by decide +kernel
theorem dX6_clash_15 : decode cX6_clash 15 = .ok (.ireturn, 1) := by decide +kernel
theorem dX6_clash_16 : decode cX6_clash 16 = .ok (.iload_n 1, 1) := by decide +kernel
theorem dX6_clash_17 : decode cX6_clash 17 = .ok (.ifCond .ne 17, 3) := by decide +kernel
theorem dX6_clash_20 : decode cX6_clash 20 = .ok (.aload_n 0, 1) := by decide +kernel
theorem dX6_clash_21 : decode cX6_clash 21 = .ok (.getfield 36, 3) := by decide +kernel
theorem dX6_clash_24 : decode cX6_clash 24 = .ok (.aload_n 0, 1) := by decide +kernel
theorem dX6_clash_25 : decode cX6_clash 25 = .ok (.getfield 10, 3) := by decide +kernel
theorem dX6_clash_28 : decode cX6_clash 28 = .ok (.invokevirtual 202, 3) := by decide +kernel
theorem dX6_clash_31 : decode cX6_clash 31 = .ok (.goto 14, 3) := by decide +kernel
theorem dX6_clash_34 : decode cX6_clash 34 = .ok (.aload_n 0, 1) := by decide +kernel
theorem dX6_clash_35 : decode cX6_clash 35 = .ok (.getfield 36, 3) := by decide +kernel
theorem dX6_clash_38 : decode cX6_clash 38 = .ok (.aload_n 0, 1) := by decide +kernel
theorem dX6_clash_39 : decode cX6_clash 39 = .ok (.getfield 10, 3) := by decide +kernel
theorem dX6_clash_42 : decode cX6_clash 42 = .ok (.invokevirtual 205, 3) := by decide +kernel
theorem dX6_clash_45 : decode cX6_clash 45 = .ok (.ireturn, 1) := by decide +kernel
set_option maxRecDepth 20000 in
theorem ggX6_agreed_X6_choice : GoodIn wsX6_agreed wsX6_choice := goodIn_r _ [6] (by decide +kernel) (by decide +kernel)
set_option maxRecDepth 20000 in
theorem gX6_agreed_X6_choice : GoodIn wsX6_agreed (va_wsS RX6 88 yX6_choice wsX6_choice) := goodIn_app (goodIn_of _ (by decide +kernel)) ggX6_agreed_X6_choice
set_option maxRecDepth 20000 in
theorem ggX6_agreed_X6_refused : GoodIn wsX6_agreed wsX6_refused := goodIn_r _ [10, 11, 68, 69, 70, 71, 72, 73, 74, 75, 76] (by decide +kernel) (by decide +kernel)
set_option maxRecDepth 20000 in
theorem gX6_agreed_X6_refused : GoodIn wsX6_agreed (wsV RX6 70 RX6 yX6_refused wsX6_refused) := goodIn_app (goodIn_of _ (by decide +kernel)) ggX6_agreed_X6_refused
set_option maxRecDepth 20000 in
theorem ggX6_agreed_X5_mostAgreed : GoodIn wsX6_agreed wsX5_mostAgreed := goodIn_r _ [16, 17, 18, 19, 20, 15, 21, 22, 23, 24, 25, 26, 27, 28, 29, 30, 31, 32, 33, 34, 35, 36, 37, 38, 39, 40, 41, 42, 43, 44, 45, 46, 47, 48, 49, 50, 51, 52, 53, 54, 55, 56, 57, 58, 59, 60, 61, 62, 63, 64, 65, 66, 77, 78, 79, 80, 81, 82, 83, 84, 85, 86, 87] (by decide +kernel) (by decide +kernel)
set_option maxRecDepth 20000 in
theorem gX6_agreed_X5_mostAgreed : GoodIn wsX6_agreed (wsV RX6 208 RX5 yX5_mostAgreed wsX5_mostAgreed) := goodIn_app (goodIn_of _ (by decide +kernel)) ggX6_agreed_X5_mostAgreed
set_option maxRecDepth 20000 in
theorem ggX6_agreed_J6_bitCount_0f7a4 : GoodIn wsX6_agreed wsJ6_bitCount_0f7a4 := goodIn_r _ [59, 60, 61, 62] (by decide +kernel) (by decide +kernel)
set_option maxRecDepth 20000 in
theorem gX6_agreed_J6_bitCount_0f7a4 : GoodIn wsX6_agreed (va_wsS RX6 145 yJ6_bitCount_0f7a4 wsJ6_bitCount_0f7a4) := goodIn_app (goodIn_of _ (by decide +kernel)) ggX6_agreed_J6_bitCount_0f7a4
theorem dX6_agreed_0 : decode cX6_agreed 0 = .ok (.iload_n 1, 1) := by decide +kernel
theorem dX6_agreed_1 : decode cX6_agreed 1 = .ok (.iconst 2, 1) := by decide +kernel
theorem dX6_agreed_2 : decode cX6_agreed 2 = .ok (.invokestatic 88, 3) := by decide +kernel
theorem dX6_agreed_5 : decode cX6_agreed 5 = .ok (.istore_n 2, 1) := by decide +kernel
theorem dX6_agreed_6 : decode cX6_agreed 6 = .ok (.iload_n 2, 1) := by decide +kernel
theorem dX6_agreed_7 : decode cX6_agreed 7 = .ok (.ifCond .eq 9, 3) := by decide +kernel
theorem dX6_agreed_10 : decode cX6_agreed 10 = .ok (.aload_n 0, 1) := by decide +kernel
theorem dX6_agreed_11 : decode cX6_agreed 11 = .ok (.iload_n 2, 1) := by decide +kernel
theorem dX6_agreed_12 : decode cX6_agreed 12 = .ok (.invokevirtual 70, 3) := by decide +kernel
theorem dX6_agreed_15 : decode cX6_agreed 15 = .ok (.ireturn, 1) := by decide +kernel
theorem dX6_agreed_16 : decode cX6_agreed 16 = .ok (.aload_n 0, 1) := by decide +kernel
theorem dX6_agreed_17 : decode cX6_agreed 17 = .ok (.getfield 36, 3) := by decide +kernel
theorem dX6_agreed_20 : decode cX6_agreed 20 = .ok (.aload_n 0, 1) := by decide +kernel
theorem dX6_agreed_21 : decode cX6_agreed 21 = .ok (.getfield 10, 3) := by decide +kernel
theorem dX6_agreed_24 : decode cX6_agreed 24 = .ok (.invokevirtual 208, 3) := by decide +kernel
theorem dX6_agreed_27 : decode cX6_agreed 27 = .ok (.istore_n 3, 1) := by decide +kernel
theorem dX6_agreed_28 : decode cX6_agreed 28 = .ok (.iload_n 1, 1) := by decide +kernel
theorem dX6_agreed_29 : decode cX6_agreed 29 = .ok (.ifCond .ne 10, 3) := by decide +kernel
theorem dX6_agreed_32 : decode cX6_agreed 32 = .ok (.iload_n 3, 1) := by decide +kernel
theorem dX6_agreed_33 : decode cX6_agreed 33 = .ok (.invokestatic 145, 3) := by decide +kernel
theorem dX6_agreed_36 : decode cX6_agreed 36 = .ok (.goto 4, 3) := by decide +kernel
theorem dX6_agreed_39 : decode cX6_agreed 39 = .ok (.iload_n 3, 1) := by decide +kernel
theorem dX6_agreed_40 : decode cX6_agreed 40 = .ok (.ireturn, 1) := by decide +kernel
set_option maxRecDepth 20000 in
theorem ggX6_hours_X6_choice : GoodIn wsX6_hours wsX6_choice := goodIn_r _ [6] (by decide +kernel) (by decide +kernel)
set_option maxRecDepth 20000 in
theorem gX6_hours_X6_choice : GoodIn wsX6_hours (va_wsS RX6 88 yX6_choice wsX6_choice) := goodIn_app (goodIn_of _ (by decide +kernel)) ggX6_hours_X6_choice
set_option maxRecDepth 20000 in
theorem ggX6_hours_X6_refused : GoodIn wsX6_hours wsX6_refused := goodIn_r _ [10, 11, 52, 53, 54, 55, 56, 57, 58, 59, 60] (by decide +kernel) (by decide +kernel)
set_option maxRecDepth 20000 in
theorem gX6_hours_X6_refused : GoodIn wsX6_hours (wsV RX6 70 RX6 yX6_refused wsX6_refused) := goodIn_app (goodIn_of _ (by decide +kernel)) ggX6_hours_X6_refused
set_option maxRecDepth 20000 in
theorem ggX6_hours_X5_hoursSaid : GoodIn wsX6_hours wsX5_hoursSaid := goodIn_r _ [16, 17, 18, 19, 20, 21, 22, 23, 24, 25, 26, 27, 28, 29, 30, 31, 32, 33, 34, 35, 36, 37, 38, 39, 40, 61, 62, 63, 64, 65, 66, 67, 68, 69, 70] (by decide +kernel) (by decide +kernel)
set_option maxRecDepth 20000 in
theorem gX6_hours_X5_hoursSaid : GoodIn wsX6_hours (wsV RX6 211 RX5 yX5_hoursSaid wsX5_hoursSaid) := goodIn_app (goodIn_of _ (by decide +kernel)) ggX6_hours_X5_hoursSaid
set_option maxRecDepth 20000 in
theorem ggX6_hours_X4_silentBells : GoodIn wsX6_hours wsX4_silentBells := goodIn_r _ [44, 45, 46, 47, 48, 22, 49, 50, 51, 20, 21, 23, 24, 25, 26, 27, 28, 29, 30, 31, 32, 61, 62, 63, 64, 65, 66, 67, 68, 69, 70] (by decide +kernel) (by decide +kernel)
set_option maxRecDepth 20000 in
theorem gX6_hours_X4_silentBells : GoodIn wsX6_hours (wsV RX6 214 RX4 yX4_silentBells wsX4_silentBells) := goodIn_app (goodIn_of _ (by decide +kernel)) ggX6_hours_X4_silentBells
theorem dX6_hours_0 : decode cX6_hours 0 = .ok (.iload_n 1, 1) := by decide +kernel
theorem dX6_hours_1 : decode cX6_hours 1 = .ok (.iconst 2, 1) := by decide +kernel
theorem dX6_hours_2 : decode cX6_hours 2 = .ok (.invokestatic 88, 3) := by decide +kernel
theorem dX6_hours_5 : decode cX6_hours 5 = .ok (.istore_n 2, 1) := by decide +kernel
theorem dX6_hours_6 : decode cX6_hours 6 = .ok (.iload_n 2, 1) := by decide +kernel
theorem dX6_hours_7 : decode cX6_hours 7 = .ok (.ifCond .eq 9, 3) := by decide +kernel
theorem dX6_hours_10 : decode cX6_hours 10 = .ok (.aload_n 0, 1) := by decide +kernel
theorem dX6_hours_11 : decode cX6_hours 11 = .ok (.iload_n 2, 1) := by decide +kernel
theorem dX6_hours_12 : decode cX6_hours 12 = .ok (.invokevirtual 70, 3) := by decide +kernel
theorem dX6_hours_15 : decode cX6_hours 15 = .ok (.ireturn, 1) := by decide +kernel
theorem dX6_hours_16 : decode cX6_hours 16 = .ok (.iload_n 1, 1) := by decide +kernel
theorem dX6_hours_17 : decode cX6_hours 17 = .ok (.ifCond .ne 17, 3) := by decide +kernel
theorem dX6_hours_20 : decode cX6_hours 20 = .ok (.aload_n 0, 1) := by decide +kernel
theorem dX6_hours_21 : decode cX6_hours 21 = .ok (.getfield 36, 3) := by decide +kernel
theorem dX6_hours_24 : decode cX6_hours 24 = .ok (.aload_n 0, 1) := by decide +kernel
theorem dX6_hours_25 : decode cX6_hours 25 = .ok (.getfield 10, 3) := by decide +kernel
theorem dX6_hours_28 : decode cX6_hours 28 = .ok (.invokevirtual 211, 3) := by decide +kernel
theorem dX6_hours_31 : decode cX6_hours 31 = .ok (.goto 10, 3) := by decide +kernel
theorem dX6_hours_34 : decode cX6_hours 34 = .ok (.aload_n 0, 1) := by decide +kernel
theorem dX6_hours_35 : decode cX6_hours 35 = .ok (.getfield 10, 3) := by decide +kernel
theorem dX6_hours_38 : decode cX6_hours 38 = .ok (.invokevirtual 214, 3) := by decide +kernel
theorem dX6_hours_41 : decode cX6_hours 41 = .ok (.ireturn, 1) := by decide +kernel
set_option maxRecDepth 20000 in
theorem ggX6_bedsFor_X6_range : GoodIn wsX6_bedsFor wsX6_range := goodIn_r _ [6] (by decide +kernel) (by decide +kernel)
set_option maxRecDepth 20000 in
theorem gX6_bedsFor_X6_range : GoodIn wsX6_bedsFor (va_wsS RX6 58 yX6_range wsX6_range) := goodIn_app (goodIn_of _ (by decide +kernel)) ggX6_bedsFor_X6_range
set_option maxRecDepth 20000 in
theorem ggX6_bedsFor_X6_refused : GoodIn wsX6_bedsFor wsX6_refused := goodIn_r _ [10, 11, 73, 74, 75, 76, 77, 78, 79, 80, 81] (by decide +kernel) (by decide +kernel)
set_option maxRecDepth 20000 in
theorem gX6_bedsFor_X6_refused : GoodIn wsX6_bedsFor (wsV RX6 70 RX6 yX6_refused wsX6_refused) := goodIn_app (goodIn_of _ (by decide +kernel)) ggX6_bedsFor_X6_refused
set_option maxRecDepth 20000 in
theorem ggX6_bedsFor_X3_fewestBeds : GoodIn wsX6_bedsFor wsX3_fewestBeds := goodIn_r _ [16, 17, 18, 19, 20, 21, 22, 23, 24, 25, 26, 27, 28, 29, 30, 31, 32, 33, 34, 35, 36, 37, 38, 39, 40, 41, 42, 43, 44, 45, 46, 47, 48, 49, 50, 51, 52, 53, 54, 55, 56, 57, 58, 59, 60, 61, 62, 63, 64, 65, 66, 67, 68, 69, 70, 71, 72, 82, 83, 84, 85, 86, 87, 88, 89, 90, 91, 92, 93] (by decide +kernel) (by decide +kernel)
set_option maxRecDepth 20000 in
theorem gX6_bedsFor_X3_fewestBeds : GoodIn wsX6_bedsFor (wsV RX6 217 RX3 yX3_fewestBeds wsX3_fewestBeds) := goodIn_app (goodIn_of _ (by decide +kernel)) ggX6_bedsFor_X3_fewestBeds
theorem dX6_bedsFor_0 : decode cX6_bedsFor 0 = .ok (.iload_n 1, 1) := by decide +kernel
theorem dX6_bedsFor_1 : decode cX6_bedsFor 1 = .ok (.iconst 0, 1) := by decide +kernel
theorem dX6_bedsFor_2 : decode cX6_bedsFor 2 = .ok (.bipush 40, 2) := by decide +kernel
theorem dX6_bedsFor_4 : decode cX6_bedsFor 4 = .ok (.invokestatic 58, 3) := by decide +kernel
theorem dX6_bedsFor_7 : decode cX6_bedsFor 7 = .ok (.istore_n 2, 1) := by decide +kernel
theorem dX6_bedsFor_8 : decode cX6_bedsFor 8 = .ok (.iload_n 2, 1) := by decide +kernel
theorem dX6_bedsFor_9 : decode cX6_bedsFor 9 = .ok (.ifCond .eq 9, 3) := by decide +kernel
theorem dX6_bedsFor_12 : decode cX6_bedsFor 12 = .ok (.aload_n 0, 1) := by decide +kernel
theorem dX6_bedsFor_13 : decode cX6_bedsFor 13 = .ok (.iload_n 2, 1) := by decide +kernel
theorem dX6_bedsFor_14 : decode cX6_bedsFor 14 = .ok (.invokevirtual 70, 3) := by decide +kernel
theorem dX6_bedsFor_17 : decode cX6_bedsFor 17 = .ok (.ireturn, 1) := by decide +kernel
theorem dX6_bedsFor_18 : decode cX6_bedsFor 18 = .ok (.aload_n 0, 1) := by decide +kernel
theorem dX6_bedsFor_19 : decode cX6_bedsFor 19 = .ok (.getfield 50, 3) := by decide +kernel
theorem dX6_bedsFor_22 : decode cX6_bedsFor 22 = .ok (.aload_n 0, 1) := by decide +kernel
theorem dX6_bedsFor_23 : decode cX6_bedsFor 23 = .ok (.getfield 10, 3) := by decide +kernel
theorem dX6_bedsFor_26 : decode cX6_bedsFor 26 = .ok (.iload_n 1, 1) := by decide +kernel
theorem dX6_bedsFor_27 : decode cX6_bedsFor 27 = .ok (.invokevirtual 217, 3) := by decide +kernel
theorem dX6_bedsFor_30 : decode cX6_bedsFor 30 = .ok (.ireturn, 1) := by decide +kernel
set_option maxRecDepth 20000 in
theorem ggX6_next_X6_noBell : GoodIn wsX6_next wsX6_noBell := goodIn_r _ [6, 1, 7, 20, 21, 22, 23, 24, 25, 26, 27, 28, 29, 30, 31, 32, 33, 34, 35, 36, 37, 38] (by decide +kernel) (by decide +kernel)
set_option maxRecDepth 20000 in
theorem gX6_next_X6_noBell : GoodIn wsX6_next (wsV RX6 85 RX6 yX6_noBell wsX6_noBell) := goodIn_app (goodIn_of _ (by decide +kernel)) ggX6_next_X6_noBell
set_option maxRecDepth 20000 in
theorem ggX6_next_X6_refused : GoodIn wsX6_next wsX6_refused := goodIn_r _ [11, 12, 20, 21, 22, 23, 24, 25, 26, 27, 28] (by decide +kernel) (by decide +kernel)
set_option maxRecDepth 20000 in
theorem gX6_next_X6_refused : GoodIn wsX6_next (wsV RX6 70 RX6 yX6_refused wsX6_refused) := goodIn_app (goodIn_of _ (by decide +kernel)) ggX6_next_X6_refused
set_option maxRecDepth 20000 in
theorem ggX6_next_X4_daysTillRinging : GoodIn wsX6_next wsX4_daysTillRinging := goodIn_r _ [17, 18, 19, 29, 30, 31, 32, 33, 34, 35, 36, 37, 38] (by decide +kernel) (by decide +kernel)
set_option maxRecDepth 20000 in
theorem gX6_next_X4_daysTillRinging : GoodIn wsX6_next (wsV RX6 220 RX4 yX4_daysTillRinging wsX4_daysTillRinging) := goodIn_app (goodIn_of _ (by decide +kernel)) ggX6_next_X4_daysTillRinging
theorem dX6_next_0 : decode cX6_next 0 = .ok (.aload_n 0, 1) := by decide +kernel
theorem dX6_next_1 : decode cX6_next 1 = .ok (.iload_n 1, 1) := by decide +kernel
theorem dX6_next_2 : decode cX6_next 2 = .ok (.invokevirtual 85, 3) := by decide +kernel
theorem dX6_next_5 : decode cX6_next 5 = .ok (.istore_n 2, 1) := by decide +kernel
theorem dX6_next_6 : decode cX6_next 6 = .ok (.iload_n 2, 1) := by decide +kernel
theorem dX6_next_7 : decode cX6_next 7 = .ok (.ifCond .eq 9, 3) := by decide +kernel
theorem dX6_next_10 : decode cX6_next 10 = .ok (.aload_n 0, 1) := by decide +kernel
theorem dX6_next_11 : decode cX6_next 11 = .ok (.iload_n 2, 1) := by decide +kernel
theorem dX6_next_12 : decode cX6_next 12 = .ok (.invokevirtual 70, 3) := by decide +kernel
theorem dX6_next_15 : decode cX6_next 15 = .ok (.ireturn, 1) := by decide +kernel
theorem dX6_next_16 : decode cX6_next 16 = .ok (.aload_n 0, 1) := by decide +kernel
theorem dX6_next_17 : decode cX6_next 17 = .ok (.getfield 10, 3) := by decide +kernel
theorem dX6_next_20 : decode cX6_next 20 = .ok (.iload_n 1, 1) := by decide +kernel
theorem dX6_next_21 : decode cX6_next 21 = .ok (.invokevirtual 220, 3) := by decide +kernel
theorem dX6_next_24 : decode cX6_next 24 = .ok (.ireturn, 1) := by decide +kernel
set_option maxRecDepth 20000 in
theorem ggX6_together_X4_daysTillAllRing : GoodIn wsX6_together wsX4_daysTillAllRing := goodIn_r _ [6, 7, 8, 9, 10, 11, 5, 12, 13, 23, 24, 25, 26, 27, 28, 29, 30, 31, 32] (by decide +kernel) (by decide +kernel)
set_option maxRecDepth 20000 in
theorem gX6_together_X4_daysTillAllRing : GoodIn wsX6_together (wsV RX6 223 RX4 yX4_daysTillAllRing wsX4_daysTillAllRing) := goodIn_app (goodIn_of _ (by decide +kernel)) ggX6_together_X4_daysTillAllRing
theorem dX6_together_0 : decode cX6_together 0 = .ok (.aload_n 0, 1) := by decide +kernel
theorem dX6_together_1 : decode cX6_together 1 = .ok (.getfield 10, 3) := by decide +kernel
theorem dX6_together_4 : decode cX6_together 4 = .ok (.invokevirtual 223, 3) := by decide +kernel
theorem dX6_together_7 : decode cX6_together 7 = .ok (.ireturn, 1) := by decide +kernel
set_option maxRecDepth 20000 in
theorem ggX6_cost_X6_noPerson : GoodIn wsX6_cost wsX6_noPerson := goodIn_r _ [8, 3, 9, 83, 84, 85, 86, 87, 88, 89, 90, 91, 92, 93, 94, 95, 96, 97, 98, 99, 100, 101] (by decide +kernel) (by decide +kernel)
set_option maxRecDepth 20000 in
theorem gX6_cost_X6_noPerson : GoodIn wsX6_cost (wsV RX6 103 RX6 yX6_noPerson wsX6_noPerson) := goodIn_app (goodIn_of _ (by decide +kernel)) ggX6_cost_X6_noPerson
set_option maxRecDepth 20000 in
theorem ggX6_cost_X6_noBell : GoodIn wsX6_cost wsX6_noBell := goodIn_r _ [13, 3, 14, 83, 84, 85, 86, 87, 88, 89, 90, 91, 92, 93, 94, 95, 96, 97, 98, 99, 100, 101] (by decide +kernel) (by decide +kernel)
set_option maxRecDepth 20000 in
theorem gX6_cost_X6_noBell : GoodIn wsX6_cost (wsV RX6 85 RX6 yX6_noBell wsX6_noBell) := goodIn_app (goodIn_of _ (by decide +kernel)) ggX6_cost_X6_noBell
set_option maxRecDepth 20000 in
theorem ggX6_cost_X6_first : GoodIn wsX6_cost wsX6_first := goodIn_r _ [17] (by decide +kernel) (by decide +kernel)
set_option maxRecDepth 20000 in
theorem gX6_cost_X6_first : GoodIn wsX6_cost (va_wsS RX6 66 yX6_first wsX6_first) := goodIn_app (goodIn_of _ (by decide +kernel)) ggX6_cost_X6_first
set_option maxRecDepth 20000 in
theorem ggX6_cost_X6_range : GoodIn wsX6_cost wsX6_range := goodIn_r _ [20] (by decide +kernel) (by decide +kernel)
set_option maxRecDepth 20000 in
theorem gX6_cost_X6_range : GoodIn wsX6_cost (va_wsS RX6 58 yX6_range wsX6_range) := goodIn_app (goodIn_of _ (by decide +kernel)) ggX6_cost_X6_range
set_option maxRecDepth 20000 in
theorem ggX6_cost_X6_refused : GoodIn wsX6_cost wsX6_refused := goodIn_r _ [24, 25, 83, 84, 85, 86, 87, 88, 89, 90, 91] (by decide +kernel) (by decide +kernel)
set_option maxRecDepth 20000 in
theorem gX6_cost_X6_refused : GoodIn wsX6_cost (wsV RX6 70 RX6 yX6_refused wsX6_refused) := goodIn_app (goodIn_of _ (by decide +kernel)) ggX6_cost_X6_refused
set_option maxRecDepth 20000 in
theorem ggX6_cost_X3_daysUnheardBySending : GoodIn wsX6_cost wsX3_daysUnheardBySending := goodIn_r _ [30, 31, 32, 33, 34, 35, 36, 37, 38, 39, 40, 41, 42, 43, 44, 45, 46, 47, 48, 49, 50, 51, 52, 53, 54, 29, 55, 56, 57, 58, 59, 60, 61, 62, 63, 64, 65, 66, 67, 68, 69, 70, 71, 72, 73, 74, 75, 76, 77, 78, 79, 80, 81, 82, 102, 103, 92, 93, 94, 95, 96, 97, 98, 99, 100, 101] (by decide +kernel) (by decide +kernel)
set_option maxRecDepth 20000 in
theorem gX6_cost_X3_daysUnheardBySending : GoodIn wsX6_cost (wsV RX6 227 RX3 yX3_daysUnheardBySending wsX3_daysUnheardBySending) := goodIn_app (goodIn_of _ (by decide +kernel)) ggX6_cost_X3_daysUnheardBySending
theorem dX6_cost_0 : decode cX6_cost 0 = .ok (.aload_n 0, 1) := by decide +kernel
theorem dX6_cost_1 : decode cX6_cost 1 = .ok (.iload_n 1, 1) := by decide +kernel
theorem dX6_cost_2 : decode cX6_cost 2 = .ok (.invokevirtual 103, 3) := by decide +kernel
theorem dX6_cost_5 : decode cX6_cost 5 = .ok (.aload_n 0, 1) := by decide +kernel
theorem dX6_cost_6 : decode cX6_cost 6 = .ok (.iload_n 3, 1) := by decide +kernel
theorem dX6_cost_7 : decode cX6_cost 7 = .ok (.invokevirtual 85, 3) := by decide +kernel
theorem dX6_cost_10 : decode cX6_cost 10 = .ok (.invokestatic 66, 3) := by decide +kernel
theorem dX6_cost_13 : decode cX6_cost 13 = .ok (.istore 4, 2) := by decide +kernel
theorem dX6_cost_15 : decode cX6_cost 15 = .ok (.iload 4, 2) := by decide +kernel
theorem dX6_cost_17 : decode cX6_cost 17 = .ok (.iload_n 2, 1) := by decide +kernel
theorem dX6_cost_18 : decode cX6_cost 18 = .ok (.iconst 1, 1) := by decide +kernel
theorem dX6_cost_19 : decode cX6_cost 19 = .ok (.bipush 9, 2) := by decide +kernel
theorem dX6_cost_21 : decode cX6_cost 21 = .ok (.invokestatic 58, 3) := by decide +kernel
theorem dX6_cost_24 : decode cX6_cost 24 = .ok (.invokestatic 66, 3) := by decide +kernel
theorem dX6_cost_27 : decode cX6_cost 27 = .ok (.istore 4, 2) := by decide +kernel
theorem dX6_cost_29 : decode cX6_cost 29 = .ok (.iload 4, 2) := by decide +kernel
theorem dX6_cost_31 : decode cX6_cost 31 = .ok (.ifCond .eq 13, 3) := by decide +kernel
theorem dX6_cost_34 : decode cX6_cost 34 = .ok (.ldc 226, 2) := by decide +kernel
theorem dX6_cost_36 : decode cX6_cost 36 = .ok (.aload_n 0, 1) := by decide +kernel
theorem dX6_cost_37 : decode cX6_cost 37 = .ok (.iload 4, 2) := by decide +kernel
theorem dX6_cost_39 : decode cX6_cost 39 = .ok (.invokevirtual 70, 3) := by decide +kernel
theorem dX6_cost_42 : decode cX6_cost 42 = .ok (.isub, 1) := by decide +kernel
theorem dX6_cost_43 : decode cX6_cost 43 = .ok (.ireturn, 1) := by decide +kernel
theorem dX6_cost_44 : decode cX6_cost 44 = .ok (.aload_n 0, 1) := by decide +kernel
theorem dX6_cost_45 : decode cX6_cost 45 = .ok (.getfield 50, 3) := by decide +kernel
theorem dX6_cost_48 : decode cX6_cost 48 = .ok (.aload_n 0, 1) := by decide +kernel
theorem dX6_cost_49 : decode cX6_cost 49 = .ok (.getfield 10, 3) := by decide +kernel
theorem dX6_cost_52 : decode cX6_cost 52 = .ok (.iload_n 1, 1) := by decide +kernel
theorem dX6_cost_53 : decode cX6_cost 53 = .ok (.iload_n 2, 1) := by decide +kernel
theorem dX6_cost_54 : decode cX6_cost 54 = .ok (.iload_n 3, 1) := by decide +kernel
theorem dX6_cost_55 : decode cX6_cost 55 = .ok (.invokevirtual 227, 3) := by decide +kernel
theorem dX6_cost_58 : decode cX6_cost 58 = .ok (.ireturn, 1) := by decide +kernel
set_option maxRecDepth 20000 in
theorem ggX6_two_X6_noPerson : GoodIn wsX6_two wsX6_noPerson := goodIn_r _ [7, 2, 8, 98, 99, 100, 101, 102, 103, 104, 105, 106, 107, 108, 109, 110, 111, 112, 113, 114, 115, 116] (by decide +kernel) (by decide +kernel)
set_option maxRecDepth 20000 in
theorem gX6_two_X6_noPerson : GoodIn wsX6_two (wsV RX6 103 RX6 yX6_noPerson wsX6_noPerson) := goodIn_app (goodIn_of _ (by decide +kernel)) ggX6_two_X6_noPerson
set_option maxRecDepth 20000 in
theorem ggX6_two_X6_first : GoodIn wsX6_two wsX6_first := goodIn_r _ [11] (by decide +kernel) (by decide +kernel)
set_option maxRecDepth 20000 in
theorem gX6_two_X6_first : GoodIn wsX6_two (va_wsS RX6 66 yX6_first wsX6_first) := goodIn_app (goodIn_of _ (by decide +kernel)) ggX6_two_X6_first
set_option maxRecDepth 20000 in
theorem ggX6_two_X6_range : GoodIn wsX6_two wsX6_range := goodIn_r _ [14] (by decide +kernel) (by decide +kernel)
set_option maxRecDepth 20000 in
theorem gX6_two_X6_range : GoodIn wsX6_two (va_wsS RX6 58 yX6_range wsX6_range) := goodIn_app (goodIn_of _ (by decide +kernel)) ggX6_two_X6_range
set_option maxRecDepth 20000 in
theorem ggX6_two_X6_refused : GoodIn wsX6_two wsX6_refused := goodIn_r _ [18, 19, 98, 99, 100, 101, 102, 103, 104, 105, 106] (by decide +kernel) (by decide +kernel)
set_option maxRecDepth 20000 in
theorem gX6_two_X6_refused : GoodIn wsX6_two (wsV RX6 70 RX6 yX6_refused wsX6_refused) := goodIn_app (goodIn_of _ (by decide +kernel)) ggX6_two_X6_refused
set_option maxRecDepth 20000 in
theorem ggX6_two_X3_settledPair : GoodIn wsX6_two wsX3_settledPair := goodIn_r _ [24, 25, 26, 27, 28, 29, 30, 31, 32, 33, 34, 35, 36, 37, 38, 39, 40, 41, 42, 43, 44, 45, 46, 47, 48, 49, 50, 51, 52, 53, 54, 55, 56, 57, 58, 59, 60, 61, 62, 63, 64, 65, 66, 67, 68, 69, 70, 71, 72, 73, 74, 75, 76, 77, 78, 79, 80, 81, 82, 83, 84, 85, 86, 87, 88, 89, 90, 91, 92, 93, 94, 95, 96, 97, 117, 118, 107, 108, 109, 110, 111, 112, 113, 114, 115, 116] (by decide +kernel) (by decide +kernel)
set_option maxRecDepth 20000 in
theorem gX6_two_X3_settledPair : GoodIn wsX6_two (wsV RX6 230 RX3 yX3_settledPair wsX3_settledPair) := goodIn_app (goodIn_of _ (by decide +kernel)) ggX6_two_X3_settledPair
theorem dX6_two_0 : decode cX6_two 0 = .ok (.aload_n 0, 1) := by decide +kernel
theorem dX6_two_1 : decode cX6_two 1 = .ok (.iload_n 1, 1) := by decide +kernel
theorem dX6_two_2 : decode cX6_two 2 = .ok (.invokevirtual 103, 3) := by decide +kernel
theorem dX6_two_5 : decode cX6_two 5 = .ok (.aload_n 0, 1) := by decide +kernel
theorem dX6_two_6 : decode cX6_two 6 = .ok (.iload_n 2, 1) := by decide +kernel
theorem dX6_two_7 : decode cX6_two 7 = .ok (.invokevirtual 103, 3) := by decide +kernel
theorem dX6_two_10 : decode cX6_two 10 = .ok (.invokestatic 66, 3) := by decide +kernel
theorem dX6_two_13 : decode cX6_two 13 = .ok (.istore 4, 2) := by decide +kernel
theorem dX6_two_15 : decode cX6_two 15 = .ok (.iload 4, 2) := by decide +kernel
theorem dX6_two_17 : decode cX6_two 17 = .ok (.iload_n 1, 1) := by decide +kernel
theorem dX6_two_18 : decode cX6_two 18 = .ok (.iload_n 2, 1) := by decide +kernel
theorem dX6_two_19 : decode cX6_two 19 = .ok (.if_icmp .ne 7, 3) := by decide +kernel
theorem dX6_two_22 : decode cX6_two 22 = .ok (.iconst (-1), 1) := by decide +kernel
theorem dX6_two_23 : decode cX6_two 23 = .ok (.goto 4, 3) := by decide +kernel
theorem dX6_two_26 : decode cX6_two 26 = .ok (.iconst 0, 1) := by decide +kernel
theorem dX6_two_27 : decode cX6_two 27 = .ok (.invokestatic 66, 3) := by decide +kernel
theorem dX6_two_30 : decode cX6_two 30 = .ok (.istore 4, 2) := by decide +kernel
theorem dX6_two_32 : decode cX6_two 32 = .ok (.iload 4, 2) := by decide +kernel
theorem dX6_two_34 : decode cX6_two 34 = .ok (.iload_n 3, 1) := by decide +kernel
theorem dX6_two_35 : decode cX6_two 35 = .ok (.iconst 1, 1) := by decide +kernel
theorem dX6_two_36 : decode cX6_two 36 = .ok (.bipush 20, 2) := by decide +kernel
theorem dX6_two_38 : decode cX6_two 38 = .ok (.invokestatic 58, 3) := by decide +kernel
theorem dX6_two_41 : decode cX6_two 41 = .ok (.invokestatic 66, 3) := by decide +kernel
theorem dX6_two_44 : decode cX6_two 44 = .ok (.istore 4, 2) := by decide +kernel
theorem dX6_two_46 : decode cX6_two 46 = .ok (.iload 4, 2) := by decide +kernel
theorem dX6_two_48 : decode cX6_two 48 = .ok (.ifCond .eq 10, 3) := by decide +kernel
theorem dX6_two_51 : decode cX6_two 51 = .ok (.aload_n 0, 1) := by decide +kernel
