set_option maxRecDepth 20000 in
theorem gX0_init_X4_init : GoodIn wsX0_init (wsX4_init) := ggX0_init_X4_init
theorem dX0_init_0 : decode cX0_init 0 = .ok (.aload_n 0, 1) := by decide +kernel
theorem dX0_init_1 : decode cX0_init 1 = .ok (.invokespecial 3, 3) := by decide +kernel
theorem dX0_init_4 : decode cX0_init 4 = .ok (.aload_n 0, 1) := by decide +kernel
theorem dX0_init_5 : decode cX0_init 5 = .ok (.bipush 96, 2) := by decide +kernel
theorem dX0_init_7 : decode cX0_init 7 = .ok (.newarray .int, 2) := by decide +kernel
theorem dX0_init_9 : decode cX0_init 9 = .ok (.putfield 9, 3) := by decide +kernel
theorem dX0_init_12 : decode cX0_init 12 = .ok (.aload_n 0, 1) := by decide +kernel
theorem dX0_init_13 : decode cX0_init 13 = .ok (.new 15, 3) := by decide +kernel
theorem dX0_init_16 : decode cX0_init 16 = .ok (.dup, 1) := by decide +kernel
theorem dX0_init_17 : decode cX0_init 17 = .ok (.invokespecial 17, 3) := by decide +kernel
theorem dX0_init_20 : decode cX0_init 20 = .ok (.putfield 18, 3) := by decide +kernel
theorem dX0_init_23 : decode cX0_init 23 = .ok (.return_, 1) := by decide +kernel
theorem dX0_add_0 : decode cX0_add 0 = .ok (.aload_n 0, 1) := by decide +kernel
theorem dX0_add_1 : decode cX0_add 1 = .ok (.getfield 22, 3) := by decide +kernel
theorem dX0_add_4 : decode cX0_add 4 = .ok (.bipush 96, 2) := by decide +kernel
theorem dX0_add_6 : decode cX0_add 6 = .ok (.if_icmp .ge 23, 3) := by decide +kernel
theorem dX0_add_9 : decode cX0_add 9 = .ok (.aload_n 0, 1) := by decide +kernel
theorem dX0_add_10 : decode cX0_add 10 = .ok (.getfield 9, 3) := by decide +kernel
theorem dX0_add_13 : decode cX0_add 13 = .ok (.aload_n 0, 1) := by decide +kernel
theorem dX0_add_14 : decode cX0_add 14 = .ok (.getfield 22, 3) := by decide +kernel
theorem dX0_add_17 : decode cX0_add 17 = .ok (.iload_n 1, 1) := by decide +kernel
theorem dX0_add_18 : decode cX0_add 18 = .ok (.iastore, 1) := by decide +kernel
theorem dX0_add_19 : decode cX0_add 19 = .ok (.aload_n 0, 1) := by decide +kernel
theorem dX0_add_20 : decode cX0_add 20 = .ok (.dup, 1) := by decide +kernel
theorem dX0_add_21 : decode cX0_add 21 = .ok (.getfield 22, 3) := by decide +kernel
theorem dX0_add_24 : decode cX0_add 24 = .ok (.iconst 1, 1) := by decide +kernel
theorem dX0_add_25 : decode cX0_add 25 = .ok (.iadd, 1) := by decide +kernel
theorem dX0_add_26 : decode cX0_add 26 = .ok (.putfield 22, 3) := by decide +kernel
theorem dX0_add_29 : decode cX0_add 29 = .ok (.return_, 1) := by decide +kernel
theorem dX0_forget_0 : decode cX0_forget 0 = .ok (.aload_n 0, 1) := by decide +kernel
theorem dX0_forget_1 : decode cX0_forget 1 = .ok (.iconst 0, 1) := by decide +kernel
theorem dX0_forget_2 : decode cX0_forget 2 = .ok (.putfield 22, 3) := by decide +kernel
theorem dX0_forget_5 : decode cX0_forget 5 = .ok (.return_, 1) := by decide +kernel
set_option maxRecDepth 20000 in
theorem ggX0_tell_X0_faultOfForm : GoodIn wsX0_tell wsX0_faultOfForm := goodIn_r _ [8, 2, 3, 9, 10, 7, 11, 12, 13, 14, 15, 16, 17, 18, 19, 20, 21, 22, 23, 24, 25, 26, 27, 28, 29, 30, 31, 32, 33, 34, 35, 36, 37, 38, 39, 40, 41, 42, 43, 44, 45, 46, 47, 48, 49, 50, 51, 52, 53, 54, 55, 56, 57, 58, 59, 60, 61, 62, 63, 64, 65, 66, 67, 68, 69, 70, 71, 72, 73, 74, 75, 76, 77, 78, 79, 80, 81, 82, 83, 84, 85, 86, 87, 88, 89, 90, 91, 92, 93, 94, 95, 96, 97, 98, 99, 100, 101, 102, 103, 178, 179, 180] (by decide +kernel) (by decide +kernel)
set_option maxRecDepth 20000 in
theorem gX0_tell_X0_faultOfForm : GoodIn wsX0_tell (wsV RX0 26 RX0 yX0_faultOfForm wsX0_faultOfForm) := goodIn_app (goodIn_of _ (by decide +kernel)) ggX0_tell_X0_faultOfForm
set_option maxRecDepth 20000 in
theorem ggX0_tell_X4_become : GoodIn wsX0_tell wsX4_become := goodIn_r _ [108, 109, 110, 111, 112, 113, 114, 115, 116, 117, 118, 119, 120, 121, 122, 181, 182, 183, 184, 185, 186, 187, 188, 189, 190] (by decide +kernel) (by decide +kernel)
set_option maxRecDepth 20000 in
theorem gX0_tell_X4_become : GoodIn wsX0_tell (wsV RX0 30 RX4 yX4_become wsX4_become) := goodIn_app (goodIn_of _ (by decide +kernel)) ggX0_tell_X4_become
set_option maxRecDepth 20000 in
theorem ggX0_tell_X0_state : GoodIn wsX0_tell wsX0_state := goodIn_r _ [126, 1, 127, 128, 129, 7, 130, 2, 3, 131, 132, 133, 134, 135, 136, 137, 107, 138, 109, 110, 115, 12, 13, 14, 15, 16, 17, 18, 19, 20, 21, 22, 23, 24, 25, 26, 27, 28, 29, 30, 31, 32, 33, 34, 35, 36, 37, 38, 39, 40, 41, 42, 43, 44, 45, 46, 47, 48, 49, 50, 51, 52, 53, 54, 55, 56, 57, 58, 59, 60, 61, 62, 63, 64, 65, 66, 67, 68, 69, 70, 71, 72, 73, 74, 75, 76, 77, 78, 79, 80, 81, 82, 83, 84, 85, 86, 87, 88, 89, 90, 91, 92, 93, 94, 95, 96, 97, 98, 99, 100, 101, 102, 103, 139, 140, 141, 142, 116, 117, 118, 119, 120, 143, 144, 145, 146, 147, 148, 149, 150, 151, 152, 153, 154, 155, 156, 157, 158, 159, 160, 161, 162, 163, 164, 165, 166, 167, 168, 169, 170, 171, 172, 173, 174, 175, 121, 122, 176, 177, 178, 179, 180, 181, 182, 183, 184, 185, 186, 187, 188, 189, 190] (by decide +kernel) (by decide +kernel)
set_option maxRecDepth 20000 in
theorem gX0_tell_X0_state : GoodIn wsX0_tell (wsV RX0 34 RX0 yX0_state wsX0_state) := goodIn_app (goodIn_of _ (by decide +kernel)) ggX0_tell_X0_state
theorem dX0_tell_0 : decode cX0_tell 0 = .ok (.aload_n 0, 1) := by decide +kernel
theorem dX0_tell_1 : decode cX0_tell 1 = .ok (.invokevirtual 26, 3) := by decide +kernel
theorem dX0_tell_4 : decode cX0_tell 4 = .ok (.istore_n 2, 1) := by decide +kernel
theorem dX0_tell_5 : decode cX0_tell 5 = .ok (.iload_n 2, 1) := by decide +kernel
theorem dX0_tell_6 : decode cX0_tell 6 = .ok (.ifCond .lt 9, 3) := by decide +kernel
theorem dX0_tell_9 : decode cX0_tell 9 = .ok (.sipush (-1000), 3) := by decide +kernel
theorem dX0_tell_12 : decode cX0_tell 12 = .ok (.iload_n 2, 1) := by decide +kernel
theorem dX0_tell_13 : decode cX0_tell 13 = .ok (.isub, 1) := by decide +kernel
theorem dX0_tell_14 : decode cX0_tell 14 = .ok (.ireturn, 1) := by decide +kernel
theorem dX0_tell_15 : decode cX0_tell 15 = .ok (.aload_n 0, 1) := by decide +kernel
theorem dX0_tell_16 : decode cX0_tell 16 = .ok (.getfield 18, 3) := by decide +kernel
theorem dX0_tell_19 : decode cX0_tell 19 = .ok (.aload_n 1, 1) := by decide +kernel
theorem dX0_tell_20 : decode cX0_tell 20 = .ok (.invokevirtual 30, 3) := by decide +kernel
theorem dX0_tell_23 : decode cX0_tell 23 = .ok (.iconst 0, 1) := by decide +kernel
theorem dX0_tell_24 : decode cX0_tell 24 = .ok (.istore_n 3, 1) := by decide +kernel
theorem dX0_tell_25 : decode cX0_tell 25 = .ok (.iconst 0, 1) := by decide +kernel
theorem dX0_tell_26 : decode cX0_tell 26 = .ok (.istore 4, 2) := by decide +kernel
theorem dX0_tell_28 : decode cX0_tell 28 = .ok (.iload 4, 2) := by decide +kernel
theorem dX0_tell_30 : decode cX0_tell 30 = .ok (.aload_n 0, 1) := by decide +kernel
theorem dX0_tell_31 : decode cX0_tell 31 = .ok (.getfield 22, 3) := by decide +kernel
theorem dX0_tell_34 : decode cX0_tell 34 = .ok (.if_icmp .ge 47, 3) := by decide +kernel
theorem dX0_tell_37 : decode cX0_tell 37 = .ok (.iload 4, 2) := by decide +kernel
theorem dX0_tell_39 : decode cX0_tell 39 = .ok (.ifCond .eq 17, 3) := by decide +kernel
theorem dX0_tell_42 : decode cX0_tell 42 = .ok (.aload_n 0, 1) := by decide +kernel
theorem dX0_tell_43 : decode cX0_tell 43 = .ok (.getfield 9, 3) := by decide +kernel
theorem dX0_tell_46 : decode cX0_tell 46 = .ok (.iload 4, 2) := by decide +kernel
theorem dX0_tell_48 : decode cX0_tell 48 = .ok (.iconst 1, 1) := by decide +kernel
theorem dX0_tell_49 : decode cX0_tell 49 = .ok (.isub, 1) := by decide +kernel
theorem dX0_tell_50 : decode cX0_tell 50 = .ok (.iaload, 1) := by decide +kernel
theorem dX0_tell_51 : decode cX0_tell 51 = .ok (.bipush 59, 2) := by decide +kernel
theorem dX0_tell_53 : decode cX0_tell 53 = .ok (.if_icmp .ne 22, 3) := by decide +kernel
theorem dX0_tell_56 : decode cX0_tell 56 = .ok (.aload_n 0, 1) := by decide +kernel
theorem dX0_tell_57 : decode cX0_tell 57 = .ok (.iload 4, 2) := by decide +kernel
theorem dX0_tell_59 : decode cX0_tell 59 = .ok (.invokevirtual 34, 3) := by decide +kernel
theorem dX0_tell_62 : decode cX0_tell 62 = .ok (.ifCond .ne 10, 3) := by decide +kernel
theorem dX0_tell_65 : decode cX0_tell 65 = .ok (.sipush (-2000), 3) := by decide +kernel
theorem dX0_tell_68 : decode cX0_tell 68 = .ok (.iload 4, 2) := by decide +kernel
theorem dX0_tell_70 : decode cX0_tell 70 = .ok (.isub, 1) := by decide +kernel
theorem dX0_tell_71 : decode cX0_tell 71 = .ok (.ireturn, 1) := by decide +kernel
theorem dX0_tell_72 : decode cX0_tell 72 = .ok (.iinc 3 1, 3) := by decide +kernel
theorem dX0_tell_75 : decode cX0_tell 75 = .ok (.iinc 4 1, 3) := by decide +kernel
theorem dX0_tell_78 : decode cX0_tell 78 = .ok (.goto (-50), 3) := by decide +kernel
theorem dX0_tell_81 : decode cX0_tell 81 = .ok (.aload_n 1, 1) := by decide +kernel
theorem dX0_tell_82 : decode cX0_tell 82 = .ok (.aload_n 0, 1) := by decide +kernel
theorem dX0_tell_83 : decode cX0_tell 83 = .ok (.getfield 18, 3) := by decide +kernel
theorem dX0_tell_86 : decode cX0_tell 86 = .ok (.invokevirtual 30, 3) := by decide +kernel
theorem dX0_tell_89 : decode cX0_tell 89 = .ok (.iload_n 3, 1) := by decide +kernel
theorem dX0_tell_90 : decode cX0_tell 90 = .ok (.ireturn, 1) := by decide +kernel
set_option maxRecDepth 20000 in
theorem ggX0_faultOfForm_X0_digitsBehind : GoodIn wsX0_faultOfForm wsX0_digitsBehind := goodIn_r _ [6] (by decide +kernel) (by decide +kernel)
set_option maxRecDepth 20000 in
theorem gX0_faultOfForm_X0_digitsBehind : GoodIn wsX0_faultOfForm (va_wsS RX0 38 yX0_digitsBehind wsX0_digitsBehind) := goodIn_app (goodIn_of _ (by decide +kernel)) ggX0_faultOfForm_X0_digitsBehind
set_option maxRecDepth 20000 in
theorem ggX0_faultOfForm_X0_kindBy : GoodIn wsX0_faultOfForm wsX0_kindBy := goodIn_r _ [9, 10, 11, 12, 13, 14, 15, 16, 17, 18, 19, 20, 21, 22, 23, 24, 25, 26, 27, 28, 29, 30, 31, 32, 33, 34, 35, 36, 37, 38, 39, 40, 41, 42, 43, 44, 45, 46, 47, 48, 49, 50, 51, 52, 53, 54, 55, 56, 57, 58, 59, 60, 61, 62, 63, 64, 65, 66, 67, 68, 69, 70, 71, 72, 73, 74, 75, 76, 77, 78, 79, 80, 81, 82, 83, 84, 85, 86, 87, 88, 89, 90, 91, 92, 93, 94, 95, 96, 97, 98] (by decide +kernel) (by decide +kernel)
set_option maxRecDepth 20000 in
theorem gX0_faultOfForm_X0_kindBy : GoodIn wsX0_faultOfForm (va_wsS RX0 42 yX0_kindBy wsX0_kindBy) := goodIn_app (goodIn_of _ (by decide +kernel)) ggX0_faultOfForm_X0_kindBy
theorem dX0_faultOfForm_0 : decode cX0_faultOfForm 0 = .ok (.iconst 0, 1) := by decide +kernel
theorem dX0_faultOfForm_1 : decode cX0_faultOfForm 1 = .ok (.istore_n 1, 1) := by decide +kernel
theorem dX0_faultOfForm_2 : decode cX0_faultOfForm 2 = .ok (.iconst 0, 1) := by decide +kernel
theorem dX0_faultOfForm_3 : decode cX0_faultOfForm 3 = .ok (.istore_n 2, 1) := by decide +kernel
theorem dX0_faultOfForm_4 : decode cX0_faultOfForm 4 = .ok (.iconst 0, 1) := by decide +kernel
theorem dX0_faultOfForm_5 : decode cX0_faultOfForm 5 = .ok (.istore_n 3, 1) := by decide +kernel
theorem dX0_faultOfForm_6 : decode cX0_faultOfForm 6 = .ok (.iconst 0, 1) := by decide +kernel
theorem dX0_faultOfForm_7 : decode cX0_faultOfForm 7 = .ok (.istore 4, 2) := by decide +kernel
theorem dX0_faultOfForm_9 : decode cX0_faultOfForm 9 = .ok (.iload 4, 2) := by decide +kernel
theorem dX0_faultOfForm_11 : decode cX0_faultOfForm 11 = .ok (.aload_n 0, 1) := by decide +kernel
theorem dX0_faultOfForm_12 : decode cX0_faultOfForm 12 = .ok (.getfield 22, 3) := by decide +kernel
theorem dX0_faultOfForm_15 : decode cX0_faultOfForm 15 = .ok (.if_icmp .ge 112, 3) := by decide +kernel
theorem dX0_faultOfForm_18 : decode cX0_faultOfForm 18 = .ok (.aload_n 0, 1) := by decide +kernel
theorem dX0_faultOfForm_19 : decode cX0_faultOfForm 19 = .ok (.getfield 9, 3) := by decide +kernel
theorem dX0_faultOfForm_22 : decode cX0_faultOfForm 22 = .ok (.iload 4, 2) := by decide +kernel
theorem dX0_faultOfForm_24 : decode cX0_faultOfForm 24 = .ok (.iaload, 1) := by decide +kernel
theorem dX0_faultOfForm_25 : decode cX0_faultOfForm 25 = .ok (.istore 5, 2) := by decide +kernel
theorem dX0_faultOfForm_27 : decode cX0_faultOfForm 27 = .ok (.iload_n 1, 1) := by decide +kernel
theorem dX0_faultOfForm_28 : decode cX0_faultOfForm 28 = .ok (.ifCond .ne 34, 3) := by decide +kernel
theorem dX0_faultOfForm_31 : decode cX0_faultOfForm 31 = .ok (.iload 5, 2) := by decide +kernel
theorem dX0_faultOfForm_33 : decode cX0_faultOfForm 33 = .ok (.invokestatic 38, 3) := by decide +kernel
theorem dX0_faultOfForm_36 : decode cX0_faultOfForm 36 = .ok (.istore_n 3, 1) := by decide +kernel
theorem dX0_faultOfForm_37 : decode cX0_faultOfForm 37 = .ok (.iload_n 3, 1) := by decide +kernel
theorem dX0_faultOfForm_38 : decode cX0_faultOfForm 38 = .ok (.ifCond .ne 6, 3) := by decide +kernel
theorem dX0_faultOfForm_41 : decode cX0_faultOfForm 41 = .ok (.iload 4, 2) := by decide +kernel
theorem dX0_faultOfForm_43 : decode cX0_faultOfForm 43 = .ok (.ireturn, 1) := by decide +kernel
theorem dX0_faultOfForm_44 : decode cX0_faultOfForm 44 = .ok (.iconst 1, 1) := by decide +kernel
theorem dX0_faultOfForm_45 : decode cX0_faultOfForm 45 = .ok (.istore_n 1, 1) := by decide +kernel
theorem dX0_faultOfForm_46 : decode cX0_faultOfForm 46 = .ok (.iload 5, 2) := by decide +kernel
theorem dX0_faultOfForm_48 : decode cX0_faultOfForm 48 = .ok (.bipush 112, 2) := by decide +kernel
theorem dX0_faultOfForm_50 : decode cX0_faultOfForm 50 = .ok (.if_icmp .ne 7, 3) := by decide +kernel
theorem dX0_faultOfForm_53 : decode cX0_faultOfForm 53 = .ok (.iconst 1, 1) := by decide +kernel
theorem dX0_faultOfForm_54 : decode cX0_faultOfForm 54 = .ok (.goto 4, 3) := by decide +kernel
theorem dX0_faultOfForm_57 : decode cX0_faultOfForm 57 = .ok (.iconst 0, 1) := by decide +kernel
theorem dX0_faultOfForm_58 : decode cX0_faultOfForm 58 = .ok (.istore_n 2, 1) := by decide +kernel
theorem dX0_faultOfForm_59 : decode cX0_faultOfForm 59 = .ok (.goto 62, 3) := by decide +kernel
theorem dX0_faultOfForm_62 : decode cX0_faultOfForm 62 = .ok (.iload_n 2, 1) := by decide +kernel
theorem dX0_faultOfForm_63 : decode cX0_faultOfForm 63 = .ok (.ifCond .eq 19, 3) := by decide +kernel
theorem dX0_faultOfForm_66 : decode cX0_faultOfForm 66 = .ok (.iload 5, 2) := by decide +kernel
theorem dX0_faultOfForm_68 : decode cX0_faultOfForm 68 = .ok (.invokestatic 42, 3) := by decide +kernel
theorem dX0_faultOfForm_71 : decode cX0_faultOfForm 71 = .ok (.ifCond .ge 6, 3) := by decide +kernel
theorem dX0_faultOfForm_74 : decode cX0_faultOfForm 74 = .ok (.iload 4, 2) := by decide +kernel
theorem dX0_faultOfForm_76 : decode cX0_faultOfForm 76 = .ok (.ireturn, 1) := by decide +kernel
theorem dX0_faultOfForm_77 : decode cX0_faultOfForm 77 = .ok (.iconst 0, 1) := by decide +kernel
theorem dX0_faultOfForm_78 : decode cX0_faultOfForm 78 = .ok (.istore_n 2, 1) := by decide +kernel
theorem dX0_faultOfForm_79 : decode cX0_faultOfForm 79 = .ok (.goto 42, 3) := by decide +kernel
theorem dX0_faultOfForm_82 : decode cX0_faultOfForm 82 = .ok (.iload_n 3, 1) := by decide +kernel
theorem dX0_faultOfForm_83 : decode cX0_faultOfForm 83 = .ok (.ifCond .le 26, 3) := by decide +kernel
theorem dX0_faultOfForm_86 : decode cX0_faultOfForm 86 = .ok (.iload 5, 2) := by decide +kernel
theorem dX0_faultOfForm_88 : decode cX0_faultOfForm 88 = .ok (.bipush 48, 2) := by decide +kernel
theorem dX0_faultOfForm_90 : decode cX0_faultOfForm 90 = .ok (.if_icmp .lt 10, 3) := by decide +kernel
theorem dX0_faultOfForm_93 : decode cX0_faultOfForm 93 = .ok (.iload 5, 2) := by decide +kernel
theorem dX0_faultOfForm_95 : decode cX0_faultOfForm 95 = .ok (.bipush 57, 2) := by decide +kernel
theorem dX0_faultOfForm_97 : decode cX0_faultOfForm 97 = .ok (.if_icmp .le 6, 3) := by decide +kernel
theorem dX0_faultOfForm_100 : decode cX0_faultOfForm 100 = .ok (.iload 4, 2) := by decide +kernel
theorem dX0_faultOfForm_102 : decode cX0_faultOfForm 102 = .ok (.ireturn, 1) := by decide +kernel
theorem dX0_faultOfForm_103 : decode cX0_faultOfForm 103 = .ok (.iinc 3 (-1), 3) := by decide +kernel
theorem dX0_faultOfForm_106 : decode cX0_faultOfForm 106 = .ok (.goto 15, 3) := by decide +kernel
theorem dX0_faultOfForm_109 : decode cX0_faultOfForm 109 = .ok (.iload 5, 2) := by decide +kernel
theorem dX0_faultOfForm_111 : decode cX0_faultOfForm 111 = .ok (.bipush 59, 2) := by decide +kernel
theorem dX0_faultOfForm_113 : decode cX0_faultOfForm 113 = .ok (.if_icmp .eq 6, 3) := by decide +kernel
theorem dX0_faultOfForm_116 : decode cX0_faultOfForm 116 = .ok (.iload 4, 2) := by decide +kernel
theorem dX0_faultOfForm_118 : decode cX0_faultOfForm 118 = .ok (.ireturn, 1) := by decide +kernel
theorem dX0_faultOfForm_119 : decode cX0_faultOfForm 119 = .ok (.iconst 0, 1) := by decide +kernel
theorem dX0_faultOfForm_120 : decode cX0_faultOfForm 120 = .ok (.istore_n 1, 1) := by decide +kernel
theorem dX0_faultOfForm_121 : decode cX0_faultOfForm 121 = .ok (.iinc 4 1, 3) := by decide +kernel
theorem dX0_faultOfForm_124 : decode cX0_faultOfForm 124 = .ok (.goto (-115), 3) := by decide +kernel
theorem dX0_faultOfForm_127 : decode cX0_faultOfForm 127 = .ok (.iload_n 1, 1) := by decide +kernel
theorem dX0_faultOfForm_128 : decode cX0_faultOfForm 128 = .ok (.ifCond .ne 10, 3) := by decide +kernel
theorem dX0_faultOfForm_131 : decode cX0_faultOfForm 131 = .ok (.aload_n 0, 1) := by decide +kernel
theorem dX0_faultOfForm_132 : decode cX0_faultOfForm 132 = .ok (.getfield 22, 3) := by decide +kernel
theorem dX0_faultOfForm_135 : decode cX0_faultOfForm 135 = .ok (.ifCond .ne 10, 3) := by decide +kernel
theorem dX0_faultOfForm_138 : decode cX0_faultOfForm 138 = .ok (.aload_n 0, 1) := by decide +kernel
theorem dX0_faultOfForm_139 : decode cX0_faultOfForm 139 = .ok (.getfield 22, 3) := by decide +kernel
theorem dX0_faultOfForm_142 : decode cX0_faultOfForm 142 = .ok (.goto 5, 3) := by decide +kernel
theorem dX0_faultOfForm_145 : decode cX0_faultOfForm 145 = .ok (.bipush (-9), 2) := by decide +kernel
theorem dX0_faultOfForm_147 : decode cX0_faultOfForm 147 = .ok (.ireturn, 1) := by decide +kernel
theorem dX0_digitsBehind_0 : decode cX0_digitsBehind 0 = .ok (.iload_n 0, 1) := by decide +kernel
theorem dX0_digitsBehind_1 : decode cX0_digitsBehind 1 = .ok (.tableswitch 93 98 115 #[87, 93, 89, 91, 93, 89, 93, 93, 93, 93, 93, 93, 93, 93, 87, 93, 93, 87], 87) := by decide +kernel
theorem dX0_digitsBehind_88 : decode cX0_digitsBehind 88 = .ok (.iconst 3, 1) := by decide +kernel
theorem dX0_digitsBehind_89 : decode cX0_digitsBehind 89 = .ok (.ireturn, 1) := by decide +kernel
theorem dX0_digitsBehind_90 : decode cX0_digitsBehind 90 = .ok (.iconst 2, 1) := by decide +kernel
theorem dX0_digitsBehind_91 : decode cX0_digitsBehind 91 = .ok (.ireturn, 1) := by decide +kernel
theorem dX0_digitsBehind_92 : decode cX0_digitsBehind 92 = .ok (.iconst 1, 1) := by decide +kernel
theorem dX0_digitsBehind_93 : decode cX0_digitsBehind 93 = .ok (.ireturn, 1) := by decide +kernel
theorem dX0_digitsBehind_94 : decode cX0_digitsBehind 94 = .ok (.iconst 0, 1) := by decide +kernel
theorem dX0_digitsBehind_95 : decode cX0_digitsBehind 95 = .ok (.ireturn, 1) := by decide +kernel
set_option maxRecDepth 20000 in
theorem ggX0_kindBy_J0_indexOf_0f7a4 : GoodIn wsX0_kindBy wsJ0_indexOf_0f7a4 := goodIn_r _ [5, 6, 7, 8, 4, 9, 10, 11, 12, 13, 14, 15, 16, 17, 18, 19, 20, 21, 22, 23, 24, 25, 26, 27, 28, 29, 30, 31, 32, 33, 34, 35, 36, 37, 38, 39, 40, 41, 42, 43, 44, 45, 46, 47, 48, 49, 50, 51, 52, 53, 54, 55, 56, 57, 58, 59, 60, 61, 62, 63, 64, 65, 66, 67, 68, 69, 70, 71, 72, 73, 74, 75, 76, 77, 78, 79, 80, 81, 82, 83, 84, 85, 86, 87, 88, 89] (by decide +kernel) (by decide +kernel)
set_option maxRecDepth 20000 in
theorem gX0_kindBy_J0_indexOf_0f7a4 : GoodIn wsX0_kindBy (wsV RX0 47 RJ0 yJ0_indexOf_0f7a4 wsJ0_indexOf_0f7a4) := goodIn_app (goodIn_of _ (by decide +kernel)) ggX0_kindBy_J0_indexOf_0f7a4
theorem dX0_kindBy_0 : decode cX0_kindBy 0 = .ok (.ldc 45, 2) := by decide +kernel
theorem dX0_kindBy_2 : decode cX0_kindBy 2 = .ok (.iload_n 0, 1) := by decide +kernel
theorem dX0_kindBy_3 : decode cX0_kindBy 3 = .ok (.i2c, 1) := by decide +kernel
theorem dX0_kindBy_4 : decode cX0_kindBy 4 = .ok (.invokevirtual 47, 3) := by decide +kernel
theorem dX0_kindBy_7 : decode cX0_kindBy 7 = .ok (.ireturn, 1) := by decide +kernel
set_option maxRecDepth 20000 in
theorem ggX0_state_X0_signAt : GoodIn wsX0_state wsX0_signAt := goodIn_r _ [6, 7, 8, 159, 160, 161] (by decide +kernel) (by decide +kernel)
set_option maxRecDepth 20000 in
theorem gX0_state_X0_signAt : GoodIn wsX0_state (wsV RX0 52 RX0 yX0_signAt wsX0_signAt) := goodIn_app (goodIn_of _ (by decide +kernel)) ggX0_state_X0_signAt
set_option maxRecDepth 20000 in
theorem ggX0_state_X0_number : GoodIn wsX0_state wsX0_number := goodIn_r _ [12, 2, 3, 4, 5, 6, 7, 8, 159, 160, 161] (by decide +kernel) (by decide +kernel)
set_option maxRecDepth 20000 in
theorem gX0_state_X0_number : GoodIn wsX0_state (wsV RX0 55 RX0 yX0_number wsX0_number) := goodIn_app (goodIn_of _ (by decide +kernel)) ggX0_state_X0_number
set_option maxRecDepth 20000 in
theorem ggX0_state_X4_addBell : GoodIn wsX0_state wsX4_addBell := goodIn_r _ [17, 18, 19, 20, 162, 163, 164, 165, 166, 167, 168, 169, 170, 171] (by decide +kernel) (by decide +kernel)
set_option maxRecDepth 20000 in
theorem gX0_state_X4_addBell : GoodIn wsX0_state (wsV RX0 59 RX4 yX4_addBell wsX4_addBell) := goodIn_app (goodIn_of _ (by decide +kernel)) ggX0_state_X4_addBell
set_option maxRecDepth 20000 in
theorem ggX0_state_X0_kindBy : GoodIn wsX0_state wsX0_kindBy := goodIn_r _ [23, 24, 25, 26, 27, 28, 29, 30, 31, 32, 33, 34, 35, 36, 37, 38, 39, 40, 41, 42, 43, 44, 45, 46, 47, 48, 49, 50, 51, 52, 53, 54, 55, 56, 57, 58, 59, 60, 61, 62, 63, 64, 65, 66, 67, 68, 69, 70, 71, 72, 73, 74, 75, 76, 77, 78, 79, 80, 81, 82, 83, 84, 85, 86, 87, 88, 89, 90, 91, 92, 93, 94, 95, 96, 97, 98, 99, 100, 101, 102, 103, 104, 105, 106, 107, 108, 109, 110, 111, 112] (by decide +kernel) (by decide +kernel)
set_option maxRecDepth 20000 in
theorem gX0_state_X0_kindBy : GoodIn wsX0_state (va_wsS RX0 42 yX0_kindBy wsX0_kindBy) := goodIn_app (goodIn_of _ (by decide +kernel)) ggX0_state_X0_kindBy
set_option maxRecDepth 20000 in
theorem ggX0_state_X4_addPerson : GoodIn wsX0_state wsX4_addPerson := goodIn_r _ [116, 117, 118, 119, 120, 121, 162, 163, 164, 165, 166, 167, 168, 169, 170, 171] (by decide +kernel) (by decide +kernel)
set_option maxRecDepth 20000 in
theorem gX0_state_X4_addPerson : GoodIn wsX0_state (wsV RX0 63 RX4 yX4_addPerson wsX4_addPerson) := goodIn_app (goodIn_of _ (by decide +kernel)) ggX0_state_X4_addPerson
set_option maxRecDepth 20000 in
theorem ggX0_state_X0_stateAway : GoodIn wsX0_state wsX0_stateAway := goodIn_r _ [125, 1, 126, 127, 159, 160, 161, 162, 163, 164, 165, 166, 167, 168, 169, 170, 171] (by decide +kernel) (by decide +kernel)
set_option maxRecDepth 20000 in
theorem gX0_state_X0_stateAway : GoodIn wsX0_state (wsV RX0 67 RX0 yX0_stateAway wsX0_stateAway) := goodIn_app (goodIn_of _ (by decide +kernel)) ggX0_state_X0_stateAway
set_option maxRecDepth 20000 in
theorem ggX0_state_X0_stateSlept : GoodIn wsX0_state wsX0_stateSlept := goodIn_r _ [131, 1, 126, 132, 159, 160, 161, 162, 163, 164, 165, 166, 167, 168, 169, 170, 171] (by decide +kernel) (by decide +kernel)
set_option maxRecDepth 20000 in
theorem gX0_state_X0_stateSlept : GoodIn wsX0_state (wsV RX0 70 RX0 yX0_stateSlept wsX0_stateSlept) := goodIn_app (goodIn_of _ (by decide +kernel)) ggX0_state_X0_stateSlept
set_option maxRecDepth 20000 in
theorem ggX0_state_X0_stateBeds : GoodIn wsX0_state wsX0_stateBeds := goodIn_r _ [136, 1, 137, 159, 160, 161, 162, 163, 164, 165, 166, 167, 168, 169, 170, 171] (by decide +kernel) (by decide +kernel)
set_option maxRecDepth 20000 in
theorem gX0_state_X0_stateBeds : GoodIn wsX0_state (wsV RX0 73 RX0 yX0_stateBeds wsX0_stateBeds) := goodIn_app (goodIn_of _ (by decide +kernel)) ggX0_state_X0_stateBeds
set_option maxRecDepth 20000 in
theorem ggX0_state_X0_stateDays : GoodIn wsX0_state wsX0_stateDays := goodIn_r _ [141, 1, 142, 143, 144, 145, 16, 146, 147, 148, 149, 150, 117, 121, 151, 152, 153, 154, 155, 156, 120, 157, 53, 54, 55, 158, 57, 58, 159, 160, 161, 162, 163, 164, 165, 166, 167, 168, 169, 170, 171] (by decide +kernel) (by decide +kernel)
set_option maxRecDepth 20000 in
theorem gX0_state_X0_stateDays : GoodIn wsX0_state (wsV RX0 76 RX0 yX0_stateDays wsX0_stateDays) := goodIn_app (goodIn_of _ (by decide +kernel)) ggX0_state_X0_stateDays
theorem dX0_state_0 : decode cX0_state 0 = .ok (.aload_n 0, 1) := by decide +kernel
theorem dX0_state_1 : decode cX0_state 1 = .ok (.iload_n 1, 1) := by decide +kernel
theorem dX0_state_2 : decode cX0_state 2 = .ok (.invokevirtual 52, 3) := by decide +kernel
theorem dX0_state_5 : decode cX0_state 5 = .ok (.lookupswitch 164 #[(98, 51), (101, 151), (103, 109), (112, 75), (115, 130)], 51) := by decide +kernel
theorem dX0_state_56 : decode cX0_state 56 = .ok (.aload_n 0, 1) := by decide +kernel
theorem dX0_state_57 : decode cX0_state 57 = .ok (.getfield 18, 3) := by decide +kernel
theorem dX0_state_60 : decode cX0_state 60 = .ok (.aload_n 0, 1) := by decide +kernel
theorem dX0_state_61 : decode cX0_state 61 = .ok (.iload_n 1, 1) := by decide +kernel
theorem dX0_state_62 : decode cX0_state 62 = .ok (.iconst 1, 1) := by decide +kernel
theorem dX0_state_63 : decode cX0_state 63 = .ok (.iadd, 1) := by decide +kernel
theorem dX0_state_64 : decode cX0_state 64 = .ok (.iconst 2, 1) := by decide +kernel
theorem dX0_state_65 : decode cX0_state 65 = .ok (.invokevirtual 55, 3) := by decide +kernel
theorem dX0_state_68 : decode cX0_state 68 = .ok (.aload_n 0, 1) := by decide +kernel
theorem dX0_state_69 : decode cX0_state 69 = .ok (.iload_n 1, 1) := by decide +kernel
theorem dX0_state_70 : decode cX0_state 70 = .ok (.iconst 3, 1) := by decide +kernel
theorem dX0_state_71 : decode cX0_state 71 = .ok (.iadd, 1) := by decide +kernel
theorem dX0_state_72 : decode cX0_state 72 = .ok (.iconst 1, 1) := by decide +kernel
theorem dX0_state_73 : decode cX0_state 73 = .ok (.invokevirtual 55, 3) := by decide +kernel
theorem dX0_state_76 : decode cX0_state 76 = .ok (.invokevirtual 59, 3) := by decide +kernel
theorem dX0_state_79 : decode cX0_state 79 = .ok (.ireturn, 1) := by decide +kernel
theorem dX0_state_80 : decode cX0_state 80 = .ok (.aload_n 0, 1) := by decide +kernel
theorem dX0_state_81 : decode cX0_state 81 = .ok (.getfield 18, 3) := by decide +kernel
theorem dX0_state_84 : decode cX0_state 84 = .ok (.aload_n 0, 1) := by decide +kernel
theorem dX0_state_85 : decode cX0_state 85 = .ok (.iload_n 1, 1) := by decide +kernel
theorem dX0_state_86 : decode cX0_state 86 = .ok (.iconst 1, 1) := by decide +kernel
theorem dX0_state_87 : decode cX0_state 87 = .ok (.iadd, 1) := by decide +kernel
theorem dX0_state_88 : decode cX0_state 88 = .ok (.invokevirtual 52, 3) := by decide +kernel
theorem dX0_state_91 : decode cX0_state 91 = .ok (.invokestatic 42, 3) := by decide +kernel
theorem dX0_state_94 : decode cX0_state 94 = .ok (.aload_n 0, 1) := by decide +kernel
theorem dX0_state_95 : decode cX0_state 95 = .ok (.iload_n 1, 1) := by decide +kernel
theorem dX0_state_96 : decode cX0_state 96 = .ok (.iconst 2, 1) := by decide +kernel
theorem dX0_state_97 : decode cX0_state 97 = .ok (.iadd, 1) := by decide +kernel
theorem dX0_state_98 : decode cX0_state 98 = .ok (.iconst 1, 1) := by decide +kernel
theorem dX0_state_99 : decode cX0_state 99 = .ok (.invokevirtual 55, 3) := by decide +kernel
theorem dX0_state_102 : decode cX0_state 102 = .ok (.aload_n 0, 1) := by decide +kernel
theorem dX0_state_103 : decode cX0_state 103 = .ok (.iload_n 1, 1) := by decide +kernel
theorem dX0_state_104 : decode cX0_state 104 = .ok (.iconst 3, 1) := by decide +kernel
theorem dX0_state_105 : decode cX0_state 105 = .ok (.iadd, 1) := by decide +kernel
theorem dX0_state_106 : decode cX0_state 106 = .ok (.iconst 2, 1) := by decide +kernel
theorem dX0_state_107 : decode cX0_state 107 = .ok (.invokevirtual 55, 3) := by decide +kernel
theorem dX0_state_110 : decode cX0_state 110 = .ok (.invokevirtual 63, 3) := by decide +kernel
theorem dX0_state_113 : decode cX0_state 113 = .ok (.ireturn, 1) := by decide +kernel
theorem dX0_state_114 : decode cX0_state 114 = .ok (.aload_n 0, 1) := by decide +kernel
theorem dX0_state_115 : decode cX0_state 115 = .ok (.aload_n 0, 1) := by decide +kernel
theorem dX0_state_116 : decode cX0_state 116 = .ok (.iload_n 1, 1) := by decide +kernel
theorem dX0_state_117 : decode cX0_state 117 = .ok (.iconst 1, 1) := by decide +kernel
theorem dX0_state_118 : decode cX0_state 118 = .ok (.iadd, 1) := by decide +kernel
theorem dX0_state_119 : decode cX0_state 119 = .ok (.iconst 1, 1) := by decide +kernel
theorem dX0_state_120 : decode cX0_state 120 = .ok (.invokevirtual 55, 3) := by decide +kernel
theorem dX0_state_123 : decode cX0_state 123 = .ok (.aload_n 0, 1) := by decide +kernel
theorem dX0_state_124 : decode cX0_state 124 = .ok (.iload_n 1, 1) := by decide +kernel
theorem dX0_state_125 : decode cX0_state 125 = .ok (.iconst 2, 1) := by decide +kernel
theorem dX0_state_126 : decode cX0_state 126 = .ok (.iadd, 1) := by decide +kernel
theorem dX0_state_127 : decode cX0_state 127 = .ok (.iconst 1, 1) := by decide +kernel
theorem dX0_state_128 : decode cX0_state 128 = .ok (.invokevirtual 55, 3) := by decide +kernel
theorem dX0_state_131 : decode cX0_state 131 = .ok (.invokevirtual 67, 3) := by decide +kernel
theorem dX0_state_134 : decode cX0_state 134 = .ok (.ireturn, 1) := by decide +kernel
theorem dX0_state_135 : decode cX0_state 135 = .ok (.aload_n 0, 1) := by decide +kernel
theorem dX0_state_136 : decode cX0_state 136 = .ok (.aload_n 0, 1) := by decide +kernel
theorem dX0_state_137 : decode cX0_state 137 = .ok (.iload_n 1, 1) := by decide +kernel
theorem dX0_state_138 : decode cX0_state 138 = .ok (.iconst 1, 1) := by decide +kernel
theorem dX0_state_139 : decode cX0_state 139 = .ok (.iadd, 1) := by decide +kernel
theorem dX0_state_140 : decode cX0_state 140 = .ok (.iconst 1, 1) := by decide +kernel
theorem dX0_state_141 : decode cX0_state 141 = .ok (.invokevirtual 55, 3) := by decide +kernel
theorem dX0_state_144 : decode cX0_state 144 = .ok (.aload_n 0, 1) := by decide +kernel
theorem dX0_state_145 : decode cX0_state 145 = .ok (.iload_n 1, 1) := by decide +kernel
theorem dX0_state_146 : decode cX0_state 146 = .ok (.iconst 2, 1) := by decide +kernel
theorem dX0_state_147 : decode cX0_state 147 = .ok (.iadd, 1) := by decide +kernel
theorem dX0_state_148 : decode cX0_state 148 = .ok (.iconst 2, 1) := by decide +kernel
theorem dX0_state_149 : decode cX0_state 149 = .ok (.invokevirtual 55, 3) := by decide +kernel
theorem dX0_state_152 : decode cX0_state 152 = .ok (.invokevirtual 70, 3) := by decide +kernel
theorem dX0_state_155 : decode cX0_state 155 = .ok (.ireturn, 1) := by decide +kernel
theorem dX0_state_156 : decode cX0_state 156 = .ok (.aload_n 0, 1) := by decide +kernel
theorem dX0_state_157 : decode cX0_state 157 = .ok (.aload_n 0, 1) := by decide +kernel
theorem dX0_state_158 : decode cX0_state 158 = .ok (.iload_n 1, 1) := by decide +kernel
theorem dX0_state_159 : decode cX0_state 159 = .ok (.iconst 1, 1) := by decide +kernel
theorem dX0_state_160 : decode cX0_state 160 = .ok (.iadd, 1) := by decide +kernel
theorem dX0_state_161 : decode cX0_state 161 = .ok (.iconst 1, 1) := by decide +kernel
theorem dX0_state_162 : decode cX0_state 162 = .ok (.invokevirtual 55, 3) := by decide +kernel
theorem dX0_state_165 : decode cX0_state 165 = .ok (.invokevirtual 73, 3) := by decide +kernel
theorem dX0_state_168 : decode cX0_state 168 = .ok (.ireturn, 1) := by decide +kernel
theorem dX0_state_169 : decode cX0_state 169 = .ok (.aload_n 0, 1) := by decide +kernel
theorem dX0_state_170 : decode cX0_state 170 = .ok (.aload_n 0, 1) := by decide +kernel
theorem dX0_state_171 : decode cX0_state 171 = .ok (.iload_n 1, 1) := by decide +kernel
theorem dX0_state_172 : decode cX0_state 172 = .ok (.iconst 1, 1) := by decide +kernel
theorem dX0_state_173 : decode cX0_state 173 = .ok (.iadd, 1) := by decide +kernel
theorem dX0_state_174 : decode cX0_state 174 = .ok (.iconst 2, 1) := by decide +kernel
theorem dX0_state_175 : decode cX0_state 175 = .ok (.invokevirtual 55, 3) := by decide +kernel
theorem dX0_state_178 : decode cX0_state 178 = .ok (.invokevirtual 76, 3) := by decide +kernel
theorem dX0_state_181 : decode cX0_state 181 = .ok (.ireturn, 1) := by decide +kernel
theorem dX0_stateAway_0 : decode cX0_stateAway 0 = .ok (.iload_n 1, 1) := by decide +kernel
theorem dX0_stateAway_1 : decode cX0_stateAway 1 = .ok (.aload_n 0, 1) := by decide +kernel
theorem dX0_stateAway_2 : decode cX0_stateAway 2 = .ok (.getfield 18, 3) := by decide +kernel
theorem dX0_stateAway_5 : decode cX0_stateAway 5 = .ok (.getfield 79, 3) := by decide +kernel
theorem dX0_stateAway_8 : decode cX0_stateAway 8 = .ok (.if_icmp .lt 5, 3) := by decide +kernel
theorem dX0_stateAway_11 : decode cX0_stateAway 11 = .ok (.iconst 0, 1) := by decide +kernel
theorem dX0_stateAway_12 : decode cX0_stateAway 12 = .ok (.ireturn, 1) := by decide +kernel
theorem dX0_stateAway_13 : decode cX0_stateAway 13 = .ok (.aload_n 0, 1) := by decide +kernel
theorem dX0_stateAway_14 : decode cX0_stateAway 14 = .ok (.getfield 18, 3) := by decide +kernel
theorem dX0_stateAway_17 : decode cX0_stateAway 17 = .ok (.getfield 82, 3) := by decide +kernel
theorem dX0_stateAway_20 : decode cX0_stateAway 20 = .ok (.iload_n 1, 1) := by decide +kernel
theorem dX0_stateAway_21 : decode cX0_stateAway 21 = .ok (.iload_n 2, 1) := by decide +kernel
theorem dX0_stateAway_22 : decode cX0_stateAway 22 = .ok (.iastore, 1) := by decide +kernel
theorem dX0_stateAway_23 : decode cX0_stateAway 23 = .ok (.iconst 1, 1) := by decide +kernel
theorem dX0_stateAway_24 : decode cX0_stateAway 24 = .ok (.ireturn, 1) := by decide +kernel
theorem dX0_stateSlept_0 : decode cX0_stateSlept 0 = .ok (.iload_n 1, 1) := by decide +kernel
theorem dX0_stateSlept_1 : decode cX0_stateSlept 1 = .ok (.aload_n 0, 1) := by decide +kernel
theorem dX0_stateSlept_2 : decode cX0_stateSlept 2 = .ok (.getfield 18, 3) := by decide +kernel
theorem dX0_stateSlept_5 : decode cX0_stateSlept 5 = .ok (.getfield 79, 3) := by decide +kernel
theorem dX0_stateSlept_8 : decode cX0_stateSlept 8 = .ok (.if_icmp .lt 5, 3) := by decide +kernel
theorem dX0_stateSlept_11 : decode cX0_stateSlept 11 = .ok (.iconst 0, 1) := by decide +kernel
theorem dX0_stateSlept_12 : decode cX0_stateSlept 12 = .ok (.ireturn, 1) := by decide +kernel
theorem dX0_stateSlept_13 : decode cX0_stateSlept 13 = .ok (.aload_n 0, 1) := by decide +kernel
theorem dX0_stateSlept_14 : decode cX0_stateSlept 14 = .ok (.getfield 18, 3) := by decide +kernel
theorem dX0_stateSlept_17 : decode cX0_stateSlept 17 = .ok (.getfield 85, 3) := by decide +kernel
theorem dX0_stateSlept_20 : decode cX0_stateSlept 20 = .ok (.iload_n 1, 1) := by decide +kernel
theorem dX0_stateSlept_21 : decode cX0_stateSlept 21 = .ok (.iload_n 2, 1) := by decide +kernel
theorem dX0_stateSlept_22 : decode cX0_stateSlept 22 = .ok (.iastore, 1) := by decide +kernel
theorem dX0_stateSlept_23 : decode cX0_stateSlept 23 = .ok (.iconst 1, 1) := by decide +kernel
theorem dX0_stateSlept_24 : decode cX0_stateSlept 24 = .ok (.ireturn, 1) := by decide +kernel
theorem dX0_stateBeds_0 : decode cX0_stateBeds 0 = .ok (.iload_n 1, 1) := by decide +kernel
theorem dX0_stateBeds_1 : decode cX0_stateBeds 1 = .ok (.iconst 1, 1) := by decide +kernel
theorem dX0_stateBeds_2 : decode cX0_stateBeds 2 = .ok (.if_icmp .lt 9, 3) := by decide +kernel
theorem dX0_stateBeds_5 : decode cX0_stateBeds 5 = .ok (.iload_n 1, 1) := by decide +kernel
theorem dX0_stateBeds_6 : decode cX0_stateBeds 6 = .ok (.bipush 8, 2) := by decide +kernel
theorem dX0_stateBeds_8 : decode cX0_stateBeds 8 = .ok (.if_icmp .le 5, 3) := by decide +kernel
theorem dX0_stateBeds_11 : decode cX0_stateBeds 11 = .ok (.iconst 0, 1) := by decide +kernel
theorem dX0_stateBeds_12 : decode cX0_stateBeds 12 = .ok (.ireturn, 1) := by decide +kernel
theorem dX0_stateBeds_13 : decode cX0_stateBeds 13 = .ok (.aload_n 0, 1) := by decide +kernel
theorem dX0_stateBeds_14 : decode cX0_stateBeds 14 = .ok (.getfield 18, 3) := by decide +kernel
theorem dX0_stateBeds_17 : decode cX0_stateBeds 17 = .ok (.iload_n 1, 1) := by decide +kernel
theorem dX0_stateBeds_18 : decode cX0_stateBeds 18 = .ok (.putfield 88, 3) := by decide +kernel
theorem dX0_stateBeds_21 : decode cX0_stateBeds 21 = .ok (.iconst 1, 1) := by decide +kernel
theorem dX0_stateBeds_22 : decode cX0_stateBeds 22 = .ok (.ireturn, 1) := by decide +kernel
set_option maxRecDepth 20000 in
theorem ggX0_stateDays_X4_pass : GoodIn wsX0_stateDays wsX4_pass := goodIn_r _ [7, 8, 9, 10, 6, 11, 12, 13, 14, 15, 16, 17, 18, 19, 20, 21, 22, 23, 24, 25, 26, 27, 31, 32, 33, 34, 35, 36, 37, 38, 39, 40] (by decide +kernel) (by decide +kernel)
set_option maxRecDepth 20000 in
theorem gX0_stateDays_X4_pass : GoodIn wsX0_stateDays (wsV RX0 94 RX4 yX4_pass wsX4_pass) := goodIn_app (goodIn_of _ (by decide +kernel)) ggX0_stateDays_X4_pass
theorem dX0_stateDays_0 : decode cX0_stateDays 0 = .ok (.iload_n 1, 1) := by decide +kernel
theorem dX0_stateDays_1 : decode cX0_stateDays 1 = .ok (.iconst 1, 1) := by decide +kernel
theorem dX0_stateDays_2 : decode cX0_stateDays 2 = .ok (.if_icmp .lt 24, 3) := by decide +kernel
theorem dX0_stateDays_5 : decode cX0_stateDays 5 = .ok (.iload_n 1, 1) := by decide +kernel
theorem dX0_stateDays_6 : decode cX0_stateDays 6 = .ok (.bipush 60, 2) := by decide +kernel
theorem dX0_stateDays_8 : decode cX0_stateDays 8 = .ok (.if_icmp .gt 18, 3) := by decide +kernel
theorem dX0_stateDays_11 : decode cX0_stateDays 11 = .ok (.iload_n 1, 1) := by decide +kernel
theorem dX0_stateDays_12 : decode cX0_stateDays 12 = .ok (.sipush 999, 3) := by decide +kernel
theorem dX0_stateDays_15 : decode cX0_stateDays 15 = .ok (.aload_n 0, 1) := by decide +kernel
theorem dX0_stateDays_16 : decode cX0_stateDays 16 = .ok (.getfield 18, 3) := by decide +kernel
theorem dX0_stateDays_19 : decode cX0_stateDays 19 = .ok (.getfield 91, 3) := by decide +kernel
theorem dX0_stateDays_22 : decode cX0_stateDays 22 = .ok (.isub, 1) := by decide +kernel
theorem dX0_stateDays_23 : decode cX0_stateDays 23 = .ok (.if_icmp .le 5, 3) := by decide +kernel
theorem dX0_stateDays_26 : decode cX0_stateDays 26 = .ok (.iconst 0, 1) := by decide +kernel
theorem dX0_stateDays_27 : decode cX0_stateDays 27 = .ok (.ireturn, 1) := by decide +kernel
theorem dX0_stateDays_28 : decode cX0_stateDays 28 = .ok (.aload_n 0, 1) := by decide +kernel
theorem dX0_stateDays_29 : decode cX0_stateDays 29 = .ok (.getfield 18, 3) := by decide +kernel
theorem dX0_stateDays_32 : decode cX0_stateDays 32 = .ok (.iload_n 1, 1) := by decide +kernel
theorem dX0_stateDays_33 : decode cX0_stateDays 33 = .ok (.invokevirtual 94, 3) := by decide +kernel
theorem dX0_stateDays_36 : decode cX0_stateDays 36 = .ok (.iconst 1, 1) := by decide +kernel
theorem dX0_stateDays_37 : decode cX0_stateDays 37 = .ok (.ireturn, 1) := by decide +kernel
set_option maxRecDepth 20000 in
theorem ggX0_number_X0_signAt : GoodIn wsX0_number wsX0_signAt := goodIn_r _ [5, 6, 7, 8, 9, 10] (by decide +kernel) (by decide +kernel)
set_option maxRecDepth 20000 in
theorem gX0_number_X0_signAt : GoodIn wsX0_number (wsV RX0 52 RX0 yX0_signAt wsX0_signAt) := goodIn_app (goodIn_of _ (by decide +kernel)) ggX0_number_X0_signAt
theorem dX0_number_0 : decode cX0_number 0 = .ok (.iconst 0, 1) := by decide +kernel
theorem dX0_number_1 : decode cX0_number 1 = .ok (.istore_n 3, 1) := by decide +kernel
theorem dX0_number_2 : decode cX0_number 2 = .ok (.iconst 0, 1) := by decide +kernel
theorem dX0_number_3 : decode cX0_number 3 = .ok (.istore 4, 2) := by decide +kernel
theorem dX0_number_5 : decode cX0_number 5 = .ok (.iload 4, 2) := by decide +kernel
theorem dX0_number_7 : decode cX0_number 7 = .ok (.iload_n 2, 1) := by decide +kernel
theorem dX0_number_8 : decode cX0_number 8 = .ok (.if_icmp .ge 26, 3) := by decide +kernel
theorem dX0_number_11 : decode cX0_number 11 = .ok (.bipush 10, 2) := by decide +kernel
theorem dX0_number_13 : decode cX0_number 13 = .ok (.iload_n 3, 1) := by decide +kernel
theorem dX0_number_14 : decode cX0_number 14 = .ok (.imul, 1) := by decide +kernel
theorem dX0_number_15 : decode cX0_number 15 = .ok (.aload_n 0, 1) := by decide +kernel
theorem dX0_number_16 : decode cX0_number 16 = .ok (.iload_n 1, 1) := by decide +kernel
theorem dX0_number_17 : decode cX0_number 17 = .ok (.iload 4, 2) := by decide +kernel
theorem dX0_number_19 : decode cX0_number 19 = .ok (.iadd, 1) := by decide +kernel
theorem dX0_number_20 : decode cX0_number 20 = .ok (.invokevirtual 52, 3) := by decide +kernel
theorem dX0_number_23 : decode cX0_number 23 = .ok (.iadd, 1) := by decide +kernel
theorem dX0_number_24 : decode cX0_number 24 = .ok (.bipush 48, 2) := by decide +kernel
theorem dX0_number_26 : decode cX0_number 26 = .ok (.isub, 1) := by decide +kernel
theorem dX0_number_27 : decode cX0_number 27 = .ok (.istore_n 3, 1) := by decide +kernel
theorem dX0_number_28 : decode cX0_number 28 = .ok (.iinc 4 1, 3) := by decide +kernel
theorem dX0_number_31 : decode cX0_number 31 = .ok (.goto (-26), 3) := by decide +kernel
theorem dX0_number_34 : decode cX0_number 34 = .ok (.iload_n 3, 1) := by decide +kernel
theorem dX0_number_35 : decode cX0_number 35 = .ok (.ireturn, 1) := by decide +kernel
theorem dX0_signAt_0 : decode cX0_signAt 0 = .ok (.iload_n 1, 1) := by decide +kernel
theorem dX0_signAt_1 : decode cX0_signAt 1 = .ok (.ifCond .lt 20, 3) := by decide +kernel
theorem dX0_signAt_4 : decode cX0_signAt 4 = .ok (.iload_n 1, 1) := by decide +kernel
theorem dX0_signAt_5 : decode cX0_signAt 5 = .ok (.aload_n 0, 1) := by decide +kernel
theorem dX0_signAt_6 : decode cX0_signAt 6 = .ok (.getfield 22, 3) := by decide +kernel
theorem dX0_signAt_9 : decode cX0_signAt 9 = .ok (.if_icmp .ge 12, 3) := by decide +kernel
theorem dX0_signAt_12 : decode cX0_signAt 12 = .ok (.aload_n 0, 1) := by decide +kernel
theorem dX0_signAt_13 : decode cX0_signAt 13 = .ok (.getfield 9, 3) := by decide +kernel
theorem dX0_signAt_16 : decode cX0_signAt 16 = .ok (.iload_n 1, 1) := by decide +kernel
theorem dX0_signAt_17 : decode cX0_signAt 17 = .ok (.iaload, 1) := by decide +kernel
theorem dX0_signAt_18 : decode cX0_signAt 18 = .ok (.goto 5, 3) := by decide +kernel
theorem dX0_signAt_21 : decode cX0_signAt 21 = .ok (.bipush 48, 2) := by decide +kernel
theorem dX0_signAt_23 : decode cX0_signAt 23 = .ok (.ireturn, 1) := by decide +kernel
set_option maxRecDepth 20000 in
theorem ggX1_init_X4_init : GoodIn wsX1_init wsX4_init := goodIn_r _ [10, 11, 2, 3, 12, 13, 14, 15, 16, 17, 18, 19, 20, 21, 22, 23, 24, 25, 26, 27, 28, 29] (by decide +kernel) (by decide +kernel)
set_option maxRecDepth 20000 in
theorem gX1_init_X4_init : GoodIn wsX1_init (wsX4_init) := ggX1_init_X4_init
theorem dX1_init_0 : decode cX1_init 0 = .ok (.aload_n 0, 1) := by decide +kernel
theorem dX1_init_1 : decode cX1_init 1 = .ok (.invokespecial 3, 3) := by decide +kernel
theorem dX1_init_4 : decode cX1_init 4 = .ok (.aload_n 0, 1) := by decide +kernel
theorem dX1_init_5 : decode cX1_init 5 = .ok (.new 9, 3) := by decide +kernel
theorem dX1_init_8 : decode cX1_init 8 = .ok (.dup, 1) := by decide +kernel
theorem dX1_init_9 : decode cX1_init 9 = .ok (.invokespecial 11, 3) := by decide +kernel
theorem dX1_init_12 : decode cX1_init 12 = .ok (.putfield 12, 3) := by decide +kernel
theorem dX1_init_15 : decode cX1_init 15 = .ok (.return_, 1) := by decide +kernel
set_option maxRecDepth 20000 in
theorem ggX1_after_X4_become : GoodIn wsX1_after wsX4_become := goodIn_r _ [6, 7, 8, 9, 10, 11, 12, 13, 14, 15, 16, 17, 18, 19, 20, 41, 42, 43, 44, 45, 46, 47, 48, 49, 50] (by decide +kernel) (by decide +kernel)
set_option maxRecDepth 20000 in
theorem gX1_after_X4_become : GoodIn wsX1_after (wsV RX1 18 RX4 yX4_become wsX4_become) := goodIn_app (goodIn_of _ (by decide +kernel)) ggX1_after_X4_become
set_option maxRecDepth 20000 in
theorem ggX1_after_X4_pass : GoodIn wsX1_after wsX4_pass := goodIn_r _ [24, 25, 26, 27, 5, 28, 14, 18, 29, 30, 31, 32, 19, 20, 17, 33, 34, 35, 36, 37, 38, 39, 41, 42, 43, 44, 45, 46, 47, 48, 49, 50] (by decide +kernel) (by decide +kernel)
set_option maxRecDepth 20000 in
theorem gX1_after_X4_pass : GoodIn wsX1_after (wsV RX1 22 RX4 yX4_pass wsX4_pass) := goodIn_app (goodIn_of _ (by decide +kernel)) ggX1_after_X4_pass
theorem dX1_after_0 : decode cX1_after 0 = .ok (.aload_n 0, 1) := by decide +kernel
theorem dX1_after_1 : decode cX1_after 1 = .ok (.getfield 12, 3) := by decide +kernel
theorem dX1_after_4 : decode cX1_after 4 = .ok (.aload_n 1, 1) := by decide +kernel
theorem dX1_after_5 : decode cX1_after 5 = .ok (.invokevirtual 18, 3) := by decide +kernel
theorem dX1_after_8 : decode cX1_after 8 = .ok (.aload_n 0, 1) := by decide +kernel
theorem dX1_after_9 : decode cX1_after 9 = .ok (.getfield 12, 3) := by decide +kernel
theorem dX1_after_12 : decode cX1_after 12 = .ok (.iload_n 2, 1) := by decide +kernel
theorem dX1_after_13 : decode cX1_after 13 = .ok (.invokevirtual 22, 3) := by decide +kernel
theorem dX1_after_16 : decode cX1_after 16 = .ok (.aload_n 0, 1) := by decide +kernel
theorem dX1_after_17 : decode cX1_after 17 = .ok (.getfield 12, 3) := by decide +kernel
theorem dX1_after_20 : decode cX1_after 20 = .ok (.areturn, 1) := by decide +kernel
set_option maxRecDepth 20000 in
theorem ggX1_deafAfter_X4_become : GoodIn wsX1_deafAfter wsX4_become := goodIn_r _ [6, 7, 8, 9, 10, 11, 12, 13, 14, 15, 16, 17, 18, 19, 20, 53, 54, 55, 56, 57, 58, 59, 60, 61, 62] (by decide +kernel) (by decide +kernel)
set_option maxRecDepth 20000 in
theorem gX1_deafAfter_X4_become : GoodIn wsX1_deafAfter (wsV RX1 18 RX4 yX4_become wsX4_become) := goodIn_app (goodIn_of _ (by decide +kernel)) ggX1_deafAfter_X4_become
set_option maxRecDepth 20000 in
theorem ggX1_deafAfter_X4_hearsSome : GoodIn wsX1_deafAfter wsX4_hearsSome := goodIn_r _ [24, 7, 25, 26, 27, 5, 28, 18, 17, 15, 8, 29, 30, 31, 32, 16, 53, 54, 55, 56, 57, 58, 59, 60, 61, 62] (by decide +kernel) (by decide +kernel)
set_option maxRecDepth 20000 in
theorem gX1_deafAfter_X4_hearsSome : GoodIn wsX1_deafAfter (wsV RX1 26 RX4 yX4_hearsSome wsX4_hearsSome) := goodIn_app (goodIn_of _ (by decide +kernel)) ggX1_deafAfter_X4_hearsSome
set_option maxRecDepth 20000 in
theorem ggX1_deafAfter_X4_pass : GoodIn wsX1_deafAfter wsX4_pass := goodIn_r _ [36, 37, 38, 39, 5, 40, 14, 18, 41, 42, 43, 44, 19, 20, 17, 45, 46, 47, 48, 49, 50, 51, 53, 54, 55, 56, 57, 58, 59, 60, 61, 62] (by decide +kernel) (by decide +kernel)
set_option maxRecDepth 20000 in
theorem gX1_deafAfter_X4_pass : GoodIn wsX1_deafAfter (wsV RX1 22 RX4 yX4_pass wsX4_pass) := goodIn_app (goodIn_of _ (by decide +kernel)) ggX1_deafAfter_X4_pass
theorem dX1_deafAfter_0 : decode cX1_deafAfter 0 = .ok (.aload_n 0, 1) := by decide +kernel
theorem dX1_deafAfter_1 : decode cX1_deafAfter 1 = .ok (.getfield 12, 3) := by decide +kernel
theorem dX1_deafAfter_4 : decode cX1_deafAfter 4 = .ok (.aload_n 1, 1) := by decide +kernel
theorem dX1_deafAfter_5 : decode cX1_deafAfter 5 = .ok (.invokevirtual 18, 3) := by decide +kernel
theorem dX1_deafAfter_8 : decode cX1_deafAfter 8 = .ok (.iconst 0, 1) := by decide +kernel
theorem dX1_deafAfter_9 : decode cX1_deafAfter 9 = .ok (.istore_n 3, 1) := by decide +kernel
theorem dX1_deafAfter_10 : decode cX1_deafAfter 10 = .ok (.iload_n 3, 1) := by decide +kernel
theorem dX1_deafAfter_11 : decode cX1_deafAfter 11 = .ok (.bipush 99, 2) := by decide +kernel
theorem dX1_deafAfter_13 : decode cX1_deafAfter 13 = .ok (.if_icmp .gt 30, 3) := by decide +kernel
theorem dX1_deafAfter_16 : decode cX1_deafAfter 16 = .ok (.aload_n 0, 1) := by decide +kernel
theorem dX1_deafAfter_17 : decode cX1_deafAfter 17 = .ok (.getfield 12, 3) := by decide +kernel
theorem dX1_deafAfter_20 : decode cX1_deafAfter 20 = .ok (.iload_n 2, 1) := by decide +kernel
theorem dX1_deafAfter_21 : decode cX1_deafAfter 21 = .ok (.invokevirtual 26, 3) := by decide +kernel
theorem dX1_deafAfter_24 : decode cX1_deafAfter 24 = .ok (.ifCond .ne 5, 3) := by decide +kernel
theorem dX1_deafAfter_27 : decode cX1_deafAfter 27 = .ok (.iload_n 3, 1) := by decide +kernel
theorem dX1_deafAfter_28 : decode cX1_deafAfter 28 = .ok (.ireturn, 1) := by decide +kernel
theorem dX1_deafAfter_29 : decode cX1_deafAfter 29 = .ok (.aload_n 0, 1) := by decide +kernel
theorem dX1_deafAfter_30 : decode cX1_deafAfter 30 = .ok (.getfield 12, 3) := by decide +kernel
theorem dX1_deafAfter_33 : decode cX1_deafAfter 33 = .ok (.iconst 1, 1) := by decide +kernel
theorem dX1_deafAfter_34 : decode cX1_deafAfter 34 = .ok (.invokevirtual 22, 3) := by decide +kernel
theorem dX1_deafAfter_37 : decode cX1_deafAfter 37 = .ok (.iinc 3 1, 3) := by decide +kernel
theorem dX1_deafAfter_40 : decode cX1_deafAfter 40 = .ok (.goto (-30), 3) := by decide +kernel
theorem dX1_deafAfter_43 : decode cX1_deafAfter 43 = .ok (.bipush (-9), 2) := by decide +kernel
theorem dX1_deafAfter_45 : decode cX1_deafAfter 45 = .ok (.ireturn, 1) := by decide +kernel
set_option maxRecDepth 20000 in
theorem ggX1_firstLost_X4_become : GoodIn wsX1_firstLost wsX4_become := goodIn_r _ [6, 7, 8, 9, 10, 11, 12, 13, 14, 15, 16, 17, 18, 19, 20, 60, 61, 62, 63, 64, 65, 66, 67, 68, 69] (by decide +kernel) (by decide +kernel)
set_option maxRecDepth 20000 in
theorem gX1_firstLost_X4_become : GoodIn wsX1_firstLost (wsV RX1 18 RX4 yX4_become wsX4_become) := goodIn_app (goodIn_of _ (by decide +kernel)) ggX1_firstLost_X4_become
set_option maxRecDepth 20000 in
theorem ggX1_firstLost_X4_silentBells : GoodIn wsX1_firstLost wsX4_silentBells := goodIn_r _ [24, 7, 25, 26, 27, 5, 28, 14, 29, 30, 31, 32, 18, 17, 15, 8, 33, 34, 35, 36, 16, 60, 61, 62, 63, 64, 65, 66, 67, 68, 69] (by decide +kernel) (by decide +kernel)
set_option maxRecDepth 20000 in
theorem gX1_firstLost_X4_silentBells : GoodIn wsX1_firstLost (wsV RX1 30 RX4 yX4_silentBells wsX4_silentBells) := goodIn_app (goodIn_of _ (by decide +kernel)) ggX1_firstLost_X4_silentBells
set_option maxRecDepth 20000 in
theorem ggX1_firstLost_X4_pass : GoodIn wsX1_firstLost wsX4_pass := goodIn_r _ [40, 41, 42, 43, 5, 44, 14, 18, 45, 46, 47, 48, 19, 20, 17, 49, 50, 51, 52, 53, 54, 55, 60, 61, 62, 63, 64, 65, 66, 67, 68, 69] (by decide +kernel) (by decide +kernel)
set_option maxRecDepth 20000 in
theorem gX1_firstLost_X4_pass : GoodIn wsX1_firstLost (wsV RX1 22 RX4 yX4_pass wsX4_pass) := goodIn_app (goodIn_of _ (by decide +kernel)) ggX1_firstLost_X4_pass
set_option maxRecDepth 20000 in
theorem ggX1_firstLost_X6_leastBit : GoodIn wsX1_firstLost wsX6_leastBit := goodIn_r _ [58] (by decide +kernel) (by decide +kernel)
set_option maxRecDepth 20000 in
theorem gX1_firstLost_X6_leastBit_n34 : GoodIn wsX1_firstLost (wsX6_leastBit) := ggX1_firstLost_X6_leastBit
theorem dX1_firstLost_0 : decode cX1_firstLost 0 = .ok (.aload_n 0, 1) := by decide +kernel
theorem dX1_firstLost_1 : decode cX1_firstLost 1 = .ok (.getfield 12, 3) := by decide +kernel
theorem dX1_firstLost_4 : decode cX1_firstLost 4 = .ok (.aload_n 1, 1) := by decide +kernel
theorem dX1_firstLost_5 : decode cX1_firstLost 5 = .ok (.invokevirtual 18, 3) := by decide +kernel
theorem dX1_firstLost_8 : decode cX1_firstLost 8 = .ok (.aload_n 0, 1) := by decide +kernel
theorem dX1_firstLost_9 : decode cX1_firstLost 9 = .ok (.getfield 12, 3) := by decide +kernel
theorem dX1_firstLost_12 : decode cX1_firstLost 12 = .ok (.invokevirtual 30, 3) := by decide +kernel
theorem dX1_firstLost_15 : decode cX1_firstLost 15 = .ok (.istore_n 3, 1) := by decide +kernel
theorem dX1_firstLost_16 : decode cX1_firstLost 16 = .ok (.iconst 1, 1) := by decide +kernel
theorem dX1_firstLost_17 : decode cX1_firstLost 17 = .ok (.istore 4, 2) := by decide +kernel
theorem dX1_firstLost_19 : decode cX1_firstLost 19 = .ok (.iload 4, 2) := by decide +kernel
theorem dX1_firstLost_21 : decode cX1_firstLost 21 = .ok (.bipush 99, 2) := by decide +kernel
theorem dX1_firstLost_23 : decode cX1_firstLost 23 = .ok (.if_icmp .gt 50, 3) := by decide +kernel
theorem dX1_firstLost_26 : decode cX1_firstLost 26 = .ok (.aload_n 0, 1) := by decide +kernel
theorem dX1_firstLost_27 : decode cX1_firstLost 27 = .ok (.getfield 12, 3) := by decide +kernel
theorem dX1_firstLost_30 : decode cX1_firstLost 30 = .ok (.iconst 1, 1) := by decide +kernel
theorem dX1_firstLost_31 : decode cX1_firstLost 31 = .ok (.invokevirtual 22, 3) := by decide +kernel
theorem dX1_firstLost_34 : decode cX1_firstLost 34 = .ok (.aload_n 0, 1) := by decide +kernel
theorem dX1_firstLost_35 : decode cX1_firstLost 35 = .ok (.getfield 12, 3) := by decide +kernel
theorem dX1_firstLost_38 : decode cX1_firstLost 38 = .ok (.invokevirtual 30, 3) := by decide +kernel
theorem dX1_firstLost_41 : decode cX1_firstLost 41 = .ok (.iload_n 3, 1) := by decide +kernel
theorem dX1_firstLost_42 : decode cX1_firstLost 42 = .ok (.iconst (-1), 1) := by decide +kernel
theorem dX1_firstLost_43 : decode cX1_firstLost 43 = .ok (.ixor, 1) := by decide +kernel
theorem dX1_firstLost_44 : decode cX1_firstLost 44 = .ok (.iand, 1) := by decide +kernel
theorem dX1_firstLost_45 : decode cX1_firstLost 45 = .ok (.istore 5, 2) := by decide +kernel
theorem dX1_firstLost_47 : decode cX1_firstLost 47 = .ok (.iload 5, 2) := by decide +kernel
theorem dX1_firstLost_49 : decode cX1_firstLost 49 = .ok (.ifCond .eq 18, 3) := by decide +kernel
theorem dX1_firstLost_52 : decode cX1_firstLost 52 = .ok (.iload_n 2, 1) := by decide +kernel
theorem dX1_firstLost_53 : decode cX1_firstLost 53 = .ok (.ifCond .eq 11, 3) := by decide +kernel
theorem dX1_firstLost_56 : decode cX1_firstLost 56 = .ok (.iload 5, 2) := by decide +kernel
theorem dX1_firstLost_58 : decode cX1_firstLost 58 = .ok (.invokestatic 34, 3) := by decide +kernel
theorem dX1_firstLost_61 : decode cX1_firstLost 61 = .ok (.goto 5, 3) := by decide +kernel
theorem dX1_firstLost_64 : decode cX1_firstLost 64 = .ok (.iload 4, 2) := by decide +kernel
theorem dX1_firstLost_66 : decode cX1_firstLost 66 = .ok (.ireturn, 1) := by decide +kernel
theorem dX1_firstLost_67 : decode cX1_firstLost 67 = .ok (.iinc 4 1, 3) := by decide +kernel
theorem dX1_firstLost_70 : decode cX1_firstLost 70 = .ok (.goto (-51), 3) := by decide +kernel
theorem dX1_firstLost_73 : decode cX1_firstLost 73 = .ok (.bipush (-9), 2) := by decide +kernel
theorem dX1_firstLost_75 : decode cX1_firstLost 75 = .ok (.ireturn, 1) := by decide +kernel
set_option maxRecDepth 20000 in
theorem ggX1_rightDays_X4_become : GoodIn wsX1_rightDays wsX4_become := goodIn_r _ [6, 7, 8, 9, 10, 11, 12, 13, 14, 15, 16, 17, 18, 19, 20, 69, 70, 71, 72, 73, 74, 75, 76, 77, 78] (by decide +kernel) (by decide +kernel)
set_option maxRecDepth 20000 in
theorem gX1_rightDays_X4_become : GoodIn wsX1_rightDays (wsV RX1 18 RX4 yX4_become wsX4_become) := goodIn_app (goodIn_of _ (by decide +kernel)) ggX1_rightDays_X4_become
set_option maxRecDepth 20000 in
theorem ggX1_rightDays_X4_passCountingRight : GoodIn wsX1_rightDays wsX4_passCountingRight := goodIn_r _ [24, 8, 25, 26, 27, 5, 28, 29, 30, 31, 32, 14, 18, 33, 34, 35, 36, 19, 20, 17, 37, 38, 39, 40, 41, 42, 43, 44, 45, 46, 47, 13, 48, 49, 50, 51, 52, 53, 54, 55, 15, 56, 57, 58, 59, 16, 60, 61, 62, 63, 64, 65, 66, 67, 69, 70, 71, 72, 73, 74, 75, 76, 77, 78] (by decide +kernel) (by decide +kernel)
set_option maxRecDepth 20000 in
theorem gX1_rightDays_X4_passCountingRight : GoodIn wsX1_rightDays (wsV RX1 38 RX4 yX4_passCountingRight wsX4_passCountingRight) := goodIn_app (goodIn_of _ (by decide +kernel)) ggX1_rightDays_X4_passCountingRight
theorem dX1_rightDays_0 : decode cX1_rightDays 0 = .ok (.aload_n 0, 1) := by decide +kernel
theorem dX1_rightDays_1 : decode cX1_rightDays 1 = .ok (.getfield 12, 3) := by decide +kernel
theorem dX1_rightDays_4 : decode cX1_rightDays 4 = .ok (.aload_n 1, 1) := by decide +kernel
theorem dX1_rightDays_5 : decode cX1_rightDays 5 = .ok (.invokevirtual 18, 3) := by decide +kernel
theorem dX1_rightDays_8 : decode cX1_rightDays 8 = .ok (.aload_n 0, 1) := by decide +kernel
theorem dX1_rightDays_9 : decode cX1_rightDays 9 = .ok (.getfield 12, 3) := by decide +kernel
theorem dX1_rightDays_12 : decode cX1_rightDays 12 = .ok (.iload_n 2, 1) := by decide +kernel
theorem dX1_rightDays_13 : decode cX1_rightDays 13 = .ok (.iload_n 2, 1) := by decide +kernel
theorem dX1_rightDays_14 : decode cX1_rightDays 14 = .ok (.iconst 1, 1) := by decide +kernel
theorem dX1_rightDays_15 : decode cX1_rightDays 15 = .ok (.iadd, 1) := by decide +kernel
theorem dX1_rightDays_16 : decode cX1_rightDays 16 = .ok (.iload_n 3, 1) := by decide +kernel
theorem dX1_rightDays_17 : decode cX1_rightDays 17 = .ok (.invokevirtual 38, 3) := by decide +kernel
theorem dX1_rightDays_20 : decode cX1_rightDays 20 = .ok (.ireturn, 1) := by decide +kernel
set_option maxRecDepth 20000 in
theorem ggX1_unheardDays_X4_become : GoodIn wsX1_unheardDays wsX4_become := goodIn_r _ [6, 7, 8, 9, 10, 11, 12, 13, 14, 15, 16, 17, 18, 19, 20, 57, 58, 59, 60, 61, 62, 63, 64, 65, 66] (by decide +kernel) (by decide +kernel)
set_option maxRecDepth 20000 in
theorem gX1_unheardDays_X4_become : GoodIn wsX1_unheardDays (wsV RX1 18 RX4 yX4_become wsX4_become) := goodIn_app (goodIn_of _ (by decide +kernel)) ggX1_unheardDays_X4_become
set_option maxRecDepth 20000 in
theorem ggX1_unheardDays_X4_pass : GoodIn wsX1_unheardDays wsX4_pass := goodIn_r _ [24, 25, 26, 27, 5, 28, 14, 18, 29, 30, 31, 32, 19, 20, 17, 33, 34, 35, 36, 37, 38, 39, 57, 58, 59, 60, 61, 62, 63, 64, 65, 66] (by decide +kernel) (by decide +kernel)
set_option maxRecDepth 20000 in
theorem gX1_unheardDays_X4_pass : GoodIn wsX1_unheardDays (wsV RX1 22 RX4 yX4_pass wsX4_pass) := goodIn_app (goodIn_of _ (by decide +kernel)) ggX1_unheardDays_X4_pass
set_option maxRecDepth 20000 in
theorem ggX1_unheardDays_X4_isRinging : GoodIn wsX1_unheardDays wsX4_isRinging := goodIn_r _ [43, 13, 19, 57, 58, 59, 60, 61, 62, 63, 64, 65, 66] (by decide +kernel) (by decide +kernel)
set_option maxRecDepth 20000 in
theorem gX1_unheardDays_X4_isRinging : GoodIn wsX1_unheardDays (wsV RX1 42 RX4 yX4_isRinging wsX4_isRinging) := goodIn_app (goodIn_of _ (by decide +kernel)) ggX1_unheardDays_X4_isRinging
set_option maxRecDepth 20000 in
theorem ggX1_unheardDays_X4_hearersOf : GoodIn wsX1_unheardDays wsX4_hearersOf := goodIn_r _ [47, 14, 48, 49, 50, 5, 51, 18, 17, 15, 8, 52, 53, 54, 55, 16, 57, 58, 59, 60, 61, 62, 63, 64, 65, 66] (by decide +kernel) (by decide +kernel)
set_option maxRecDepth 20000 in
theorem gX1_unheardDays_X4_hearersOf : GoodIn wsX1_unheardDays (wsV RX1 45 RX4 yX4_hearersOf wsX4_hearersOf) := goodIn_app (goodIn_of _ (by decide +kernel)) ggX1_unheardDays_X4_hearersOf
theorem dX1_unheardDays_0 : decode cX1_unheardDays 0 = .ok (.aload_n 0, 1) := by decide +kernel
theorem dX1_unheardDays_1 : decode cX1_unheardDays 1 = .ok (.getfield 12, 3) := by decide +kernel
theorem dX1_unheardDays_4 : decode cX1_unheardDays 4 = .ok (.aload_n 1, 1) := by decide +kernel
theorem dX1_unheardDays_5 : decode cX1_unheardDays 5 = .ok (.invokevirtual 18, 3) := by decide +kernel
theorem dX1_unheardDays_8 : decode cX1_unheardDays 8 = .ok (.iconst 0, 1) := by decide +kernel
theorem dX1_unheardDays_9 : decode cX1_unheardDays 9 = .ok (.istore 4, 2) := by decide +kernel
theorem dX1_unheardDays_11 : decode cX1_unheardDays 11 = .ok (.iconst 1, 1) := by decide +kernel
theorem dX1_unheardDays_12 : decode cX1_unheardDays 12 = .ok (.istore 5, 2) := by decide +kernel
theorem dX1_unheardDays_14 : decode cX1_unheardDays 14 = .ok (.iload 5, 2) := by decide +kernel
theorem dX1_unheardDays_16 : decode cX1_unheardDays 16 = .ok (.iload_n 3, 1) := by decide +kernel
theorem dX1_unheardDays_17 : decode cX1_unheardDays 17 = .ok (.if_icmp .gt 42, 3) := by decide +kernel
theorem dX1_unheardDays_20 : decode cX1_unheardDays 20 = .ok (.aload_n 0, 1) := by decide +kernel
theorem dX1_unheardDays_21 : decode cX1_unheardDays 21 = .ok (.getfield 12, 3) := by decide +kernel
theorem dX1_unheardDays_24 : decode cX1_unheardDays 24 = .ok (.iconst 1, 1) := by decide +kernel
theorem dX1_unheardDays_25 : decode cX1_unheardDays 25 = .ok (.invokevirtual 22, 3) := by decide +kernel
theorem dX1_unheardDays_28 : decode cX1_unheardDays 28 = .ok (.aload_n 0, 1) := by decide +kernel
theorem dX1_unheardDays_29 : decode cX1_unheardDays 29 = .ok (.getfield 12, 3) := by decide +kernel
theorem dX1_unheardDays_32 : decode cX1_unheardDays 32 = .ok (.iload_n 2, 1) := by decide +kernel
theorem dX1_unheardDays_33 : decode cX1_unheardDays 33 = .ok (.invokevirtual 42, 3) := by decide +kernel
theorem dX1_unheardDays_36 : decode cX1_unheardDays 36 = .ok (.ifCond .eq 17, 3) := by decide +kernel
theorem dX1_unheardDays_39 : decode cX1_unheardDays 39 = .ok (.aload_n 0, 1) := by decide +kernel
theorem dX1_unheardDays_40 : decode cX1_unheardDays 40 = .ok (.getfield 12, 3) := by decide +kernel
theorem dX1_unheardDays_43 : decode cX1_unheardDays 43 = .ok (.iload_n 2, 1) := by decide +kernel
theorem dX1_unheardDays_44 : decode cX1_unheardDays 44 = .ok (.invokevirtual 45, 3) := by decide +kernel
theorem dX1_unheardDays_47 : decode cX1_unheardDays 47 = .ok (.ifCond .ne 6, 3) := by decide +kernel
theorem dX1_unheardDays_50 : decode cX1_unheardDays 50 = .ok (.iinc 4 1, 3) := by decide +kernel
theorem dX1_unheardDays_53 : decode cX1_unheardDays 53 = .ok (.iinc 5 1, 3) := by decide +kernel
theorem dX1_unheardDays_56 : decode cX1_unheardDays 56 = .ok (.goto (-42), 3) := by decide +kernel
theorem dX1_unheardDays_59 : decode cX1_unheardDays 59 = .ok (.iload 4, 2) := by decide +kernel
theorem dX1_unheardDays_61 : decode cX1_unheardDays 61 = .ok (.ireturn, 1) := by decide +kernel
set_option maxRecDepth 20000 in
theorem ggX1_longestRight_X4_become : GoodIn wsX1_longestRight wsX4_become := goodIn_r _ [7, 8, 9, 10, 11, 12, 13, 14, 15, 16, 17, 18, 19, 20, 21, 62, 63, 64, 65, 66, 67, 68, 69, 70, 71] (by decide +kernel) (by decide +kernel)
set_option maxRecDepth 20000 in
theorem gX1_longestRight_X4_become : GoodIn wsX1_longestRight (wsV RX1 18 RX4 yX4_become wsX4_become) := goodIn_app (goodIn_of _ (by decide +kernel)) ggX1_longestRight_X4_become
set_option maxRecDepth 20000 in
theorem ggX1_longestRight_X4_hearsIt : GoodIn wsX1_longestRight wsX4_hearsIt := goodIn_r _ [25, 19, 18, 16, 9, 26, 27, 28, 6, 29, 17, 62, 63, 64, 65, 66, 67, 68, 69, 70, 71] (by decide +kernel) (by decide +kernel)
set_option maxRecDepth 20000 in
theorem gX1_longestRight_X4_hearsIt : GoodIn wsX1_longestRight (wsV RX1 52 RX4 yX4_hearsIt wsX4_hearsIt) := goodIn_app (goodIn_of _ (by decide +kernel)) ggX1_longestRight_X4_hearsIt
set_option maxRecDepth 20000 in
theorem ggX1_longestRight_X4_hoursLater : GoodIn wsX1_longestRight wsX4_hoursLater := goodIn_r _ [33, 16, 17, 62, 63, 64, 65, 66, 67, 68, 69, 70, 71] (by decide +kernel) (by decide +kernel)
set_option maxRecDepth 20000 in
theorem gX1_longestRight_X4_hoursLater : GoodIn wsX1_longestRight (wsV RX1 56 RX4 yX4_hoursLater wsX4_hoursLater) := goodIn_app (goodIn_of _ (by decide +kernel)) ggX1_longestRight_X4_hoursLater
set_option maxRecDepth 20000 in
theorem ggX1_longestRight_X4_pass : GoodIn wsX1_longestRight wsX4_pass := goodIn_r _ [37, 38, 39, 40, 6, 41, 15, 19, 42, 43, 44, 45, 20, 21, 18, 46, 47, 48, 49, 50, 51, 52, 62, 63, 64, 65, 66, 67, 68, 69, 70, 71] (by decide +kernel) (by decide +kernel)
set_option maxRecDepth 20000 in
theorem gX1_longestRight_X4_pass : GoodIn wsX1_longestRight (wsV RX1 22 RX4 yX4_pass wsX4_pass) := goodIn_app (goodIn_of _ (by decide +kernel)) ggX1_longestRight_X4_pass
set_option maxRecDepth 20000 in
theorem ggX1_longestRight_X4_hearersOf : GoodIn wsX1_longestRight wsX4_hearersOf := goodIn_r _ [56, 15, 57, 23, 24, 6, 25, 19, 18, 16, 9, 26, 27, 28, 29, 17, 62, 63, 64, 65, 66, 67, 68, 69, 70, 71] (by decide +kernel) (by decide +kernel)
set_option maxRecDepth 20000 in
theorem gX1_longestRight_X4_hearersOf : GoodIn wsX1_longestRight (wsV RX1 45 RX4 yX4_hearersOf wsX4_hearersOf) := goodIn_app (goodIn_of _ (by decide +kernel)) ggX1_longestRight_X4_hearersOf
set_option maxRecDepth 20000 in
theorem ggX1_longestRight_X6_leastBit : GoodIn wsX1_longestRight wsX6_leastBit := goodIn_r _ [60] (by decide +kernel) (by decide +kernel)
set_option maxRecDepth 20000 in
theorem gX1_longestRight_X6_leastBit_n34 : GoodIn wsX1_longestRight (wsX6_leastBit) := ggX1_longestRight_X6_leastBit
theorem dX1_longestRight_0 : decode cX1_longestRight 0 = .ok (.aload_n 0, 1) := by decide +kernel
theorem dX1_longestRight_1 : decode cX1_longestRight 1 = .ok (.getfield 12, 3) := by decide +kernel
theorem dX1_longestRight_4 : decode cX1_longestRight 4 = .ok (.aload_n 1, 1) := by decide +kernel
theorem dX1_longestRight_5 : decode cX1_longestRight 5 = .ok (.invokevirtual 18, 3) := by decide +kernel
theorem dX1_longestRight_8 : decode cX1_longestRight 8 = .ok (.iconst 0, 1) := by decide +kernel
theorem dX1_longestRight_9 : decode cX1_longestRight 9 = .ok (.istore_n 3, 1) := by decide +kernel
theorem dX1_longestRight_10 : decode cX1_longestRight 10 = .ok (.iconst 0, 1) := by decide +kernel
theorem dX1_longestRight_11 : decode cX1_longestRight 11 = .ok (.istore 4, 2) := by decide +kernel
theorem dX1_longestRight_13 : decode cX1_longestRight 13 = .ok (.iload 4, 2) := by decide +kernel
theorem dX1_longestRight_15 : decode cX1_longestRight 15 = .ok (.aload_n 0, 1) := by decide +kernel
theorem dX1_longestRight_16 : decode cX1_longestRight 16 = .ok (.getfield 12, 3) := by decide +kernel
theorem dX1_longestRight_19 : decode cX1_longestRight 19 = .ok (.getfield 48, 3) := by decide +kernel
theorem dX1_longestRight_22 : decode cX1_longestRight 22 = .ok (.if_icmp .ge 41, 3) := by decide +kernel
theorem dX1_longestRight_25 : decode cX1_longestRight 25 = .ok (.aload_n 0, 1) := by decide +kernel
theorem dX1_longestRight_26 : decode cX1_longestRight 26 = .ok (.getfield 12, 3) := by decide +kernel
theorem dX1_longestRight_29 : decode cX1_longestRight 29 = .ok (.iload 4, 2) := by decide +kernel
theorem dX1_longestRight_31 : decode cX1_longestRight 31 = .ok (.iload_n 2, 1) := by decide +kernel
theorem dX1_longestRight_32 : decode cX1_longestRight 32 = .ok (.invokevirtual 52, 3) := by decide +kernel
theorem dX1_longestRight_35 : decode cX1_longestRight 35 = .ok (.ifCond .eq 22, 3) := by decide +kernel
theorem dX1_longestRight_38 : decode cX1_longestRight 38 = .ok (.aload_n 0, 1) := by decide +kernel
theorem dX1_longestRight_39 : decode cX1_longestRight 39 = .ok (.getfield 12, 3) := by decide +kernel
theorem dX1_longestRight_42 : decode cX1_longestRight 42 = .ok (.iload 4, 2) := by decide +kernel
theorem dX1_longestRight_44 : decode cX1_longestRight 44 = .ok (.invokevirtual 56, 3) := by decide +kernel
theorem dX1_longestRight_47 : decode cX1_longestRight 47 = .ok (.ifCond .ne 10, 3) := by decide +kernel
theorem dX1_longestRight_50 : decode cX1_longestRight 50 = .ok (.iload_n 3, 1) := by decide +kernel
theorem dX1_longestRight_51 : decode cX1_longestRight 51 = .ok (.iconst 1, 1) := by decide +kernel
theorem dX1_longestRight_52 : decode cX1_longestRight 52 = .ok (.iload 4, 2) := by decide +kernel
theorem dX1_longestRight_54 : decode cX1_longestRight 54 = .ok (.ishl, 1) := by decide +kernel
theorem dX1_longestRight_55 : decode cX1_longestRight 55 = .ok (.ior, 1) := by decide +kernel
theorem dX1_longestRight_56 : decode cX1_longestRight 56 = .ok (.istore_n 3, 1) := by decide +kernel
theorem dX1_longestRight_57 : decode cX1_longestRight 57 = .ok (.iinc 4 1, 3) := by decide +kernel
theorem dX1_longestRight_60 : decode cX1_longestRight 60 = .ok (.goto (-47), 3) := by decide +kernel
theorem dX1_longestRight_63 : decode cX1_longestRight 63 = .ok (.iconst 1, 1) := by decide +kernel
theorem dX1_longestRight_64 : decode cX1_longestRight 64 = .ok (.istore 4, 2) := by decide +kernel
theorem dX1_longestRight_66 : decode cX1_longestRight 66 = .ok (.iload 4, 2) := by decide +kernel
theorem dX1_longestRight_68 : decode cX1_longestRight 68 = .ok (.bipush 99, 2) := by decide +kernel
theorem dX1_longestRight_70 : decode cX1_longestRight 70 = .ok (.if_icmp .gt 40, 3) := by decide +kernel
theorem dX1_longestRight_73 : decode cX1_longestRight 73 = .ok (.aload_n 0, 1) := by decide +kernel
theorem dX1_longestRight_74 : decode cX1_longestRight 74 = .ok (.getfield 12, 3) := by decide +kernel
theorem dX1_longestRight_77 : decode cX1_longestRight 77 = .ok (.iconst 1, 1) := by decide +kernel
theorem dX1_longestRight_78 : decode cX1_longestRight 78 = .ok (.invokevirtual 22, 3) := by decide +kernel
theorem dX1_longestRight_81 : decode cX1_longestRight 81 = .ok (.iload_n 3, 1) := by decide +kernel
theorem dX1_longestRight_82 : decode cX1_longestRight 82 = .ok (.aload_n 0, 1) := by decide +kernel
theorem dX1_longestRight_83 : decode cX1_longestRight 83 = .ok (.getfield 12, 3) := by decide +kernel
theorem dX1_longestRight_86 : decode cX1_longestRight 86 = .ok (.iload_n 2, 1) := by decide +kernel
theorem dX1_longestRight_87 : decode cX1_longestRight 87 = .ok (.invokevirtual 45, 3) := by decide +kernel
theorem dX1_longestRight_90 : decode cX1_longestRight 90 = .ok (.iand, 1) := by decide +kernel
theorem dX1_longestRight_91 : decode cX1_longestRight 91 = .ok (.istore 5, 2) := by decide +kernel
theorem dX1_longestRight_93 : decode cX1_longestRight 93 = .ok (.iload 5, 2) := by decide +kernel
theorem dX1_longestRight_95 : decode cX1_longestRight 95 = .ok (.ifCond .ne 6, 3) := by decide +kernel
theorem dX1_longestRight_98 : decode cX1_longestRight 98 = .ok (.goto 12, 3) := by decide +kernel
theorem dX1_longestRight_101 : decode cX1_longestRight 101 = .ok (.iload 5, 2) := by decide +kernel
theorem dX1_longestRight_103 : decode cX1_longestRight 103 = .ok (.istore_n 3, 1) := by decide +kernel
theorem dX1_longestRight_104 : decode cX1_longestRight 104 = .ok (.iinc 4 1, 3) := by decide +kernel
theorem dX1_longestRight_107 : decode cX1_longestRight 107 = .ok (.goto (-41), 3) := by decide +kernel
theorem dX1_longestRight_110 : decode cX1_longestRight 110 = .ok (.iload_n 3, 1) := by decide +kernel
theorem dX1_longestRight_111 : decode cX1_longestRight 111 = .ok (.invokestatic 34, 3) := by decide +kernel
theorem dX1_longestRight_114 : decode cX1_longestRight 114 = .ok (.ireturn, 1) := by decide +kernel
set_option maxRecDepth 20000 in
theorem ggX1_lastDeaf_X4_become : GoodIn wsX1_lastDeaf wsX4_become := goodIn_r _ [6, 7, 8, 9, 10, 11, 12, 13, 14, 15, 16, 17, 18, 19, 20, 60, 61, 62, 63, 64, 65, 66, 67, 68, 69] (by decide +kernel) (by decide +kernel)
set_option maxRecDepth 20000 in
theorem gX1_lastDeaf_X4_become : GoodIn wsX1_lastDeaf (wsV RX1 18 RX4 yX4_become wsX4_become) := goodIn_app (goodIn_of _ (by decide +kernel)) ggX1_lastDeaf_X4_become
set_option maxRecDepth 20000 in
theorem ggX1_lastDeaf_X4_hearersOfSome : GoodIn wsX1_lastDeaf wsX4_hearersOfSome := goodIn_r _ [24, 14, 25, 26, 27, 5, 28, 7, 29, 30, 31, 32, 18, 17, 15, 8, 33, 34, 35, 36, 16, 60, 61, 62, 63, 64, 65, 66, 67, 68, 69] (by decide +kernel) (by decide +kernel)
set_option maxRecDepth 20000 in
theorem gX1_lastDeaf_X4_hearersOfSome : GoodIn wsX1_lastDeaf (wsV RX1 59 RX4 yX4_hearersOfSome wsX4_hearersOfSome) := goodIn_app (goodIn_of _ (by decide +kernel)) ggX1_lastDeaf_X4_hearersOfSome
set_option maxRecDepth 20000 in
theorem ggX1_lastDeaf_X4_pass : GoodIn wsX1_lastDeaf wsX4_pass := goodIn_r _ [40, 41, 42, 43, 5, 44, 14, 18, 45, 46, 47, 48, 19, 20, 17, 49, 50, 51, 52, 53, 54, 55, 60, 61, 62, 63, 64, 65, 66, 67, 68, 69] (by decide +kernel) (by decide +kernel)
set_option maxRecDepth 20000 in
theorem gX1_lastDeaf_X4_pass : GoodIn wsX1_lastDeaf (wsV RX1 22 RX4 yX4_pass wsX4_pass) := goodIn_app (goodIn_of _ (by decide +kernel)) ggX1_lastDeaf_X4_pass
set_option maxRecDepth 20000 in
theorem ggX1_lastDeaf_X6_leastBit : GoodIn wsX1_lastDeaf wsX6_leastBit := goodIn_r _ [58] (by decide +kernel) (by decide +kernel)
set_option maxRecDepth 20000 in
theorem gX1_lastDeaf_X6_leastBit_n34 : GoodIn wsX1_lastDeaf (wsX6_leastBit) := ggX1_lastDeaf_X6_leastBit
theorem dX1_lastDeaf_0 : decode cX1_lastDeaf 0 = .ok (.aload_n 0, 1) := by decide +kernel
theorem dX1_lastDeaf_1 : decode cX1_lastDeaf 1 = .ok (.getfield 12, 3) := by decide +kernel
theorem dX1_lastDeaf_4 : decode cX1_lastDeaf 4 = .ok (.aload_n 1, 1) := by decide +kernel
theorem dX1_lastDeaf_5 : decode cX1_lastDeaf 5 = .ok (.invokevirtual 18, 3) := by decide +kernel
theorem dX1_lastDeaf_8 : decode cX1_lastDeaf 8 = .ok (.aload_n 0, 1) := by decide +kernel
theorem dX1_lastDeaf_9 : decode cX1_lastDeaf 9 = .ok (.getfield 12, 3) := by decide +kernel
theorem dX1_lastDeaf_12 : decode cX1_lastDeaf 12 = .ok (.invokevirtual 59, 3) := by decide +kernel
theorem dX1_lastDeaf_15 : decode cX1_lastDeaf 15 = .ok (.istore_n 2, 1) := by decide +kernel
theorem dX1_lastDeaf_16 : decode cX1_lastDeaf 16 = .ok (.iconst 1, 1) := by decide +kernel
theorem dX1_lastDeaf_17 : decode cX1_lastDeaf 17 = .ok (.istore_n 3, 1) := by decide +kernel
theorem dX1_lastDeaf_18 : decode cX1_lastDeaf 18 = .ok (.iload_n 3, 1) := by decide +kernel
theorem dX1_lastDeaf_19 : decode cX1_lastDeaf 19 = .ok (.bipush 99, 2) := by decide +kernel
theorem dX1_lastDeaf_21 : decode cX1_lastDeaf 21 = .ok (.if_icmp .gt 39, 3) := by decide +kernel
theorem dX1_lastDeaf_24 : decode cX1_lastDeaf 24 = .ok (.aload_n 0, 1) := by decide +kernel
theorem dX1_lastDeaf_25 : decode cX1_lastDeaf 25 = .ok (.getfield 12, 3) := by decide +kernel
theorem dX1_lastDeaf_28 : decode cX1_lastDeaf 28 = .ok (.iconst 1, 1) := by decide +kernel
theorem dX1_lastDeaf_29 : decode cX1_lastDeaf 29 = .ok (.invokevirtual 22, 3) := by decide +kernel
theorem dX1_lastDeaf_32 : decode cX1_lastDeaf 32 = .ok (.iload_n 2, 1) := by decide +kernel
theorem dX1_lastDeaf_33 : decode cX1_lastDeaf 33 = .ok (.aload_n 0, 1) := by decide +kernel
theorem dX1_lastDeaf_34 : decode cX1_lastDeaf 34 = .ok (.getfield 12, 3) := by decide +kernel
theorem dX1_lastDeaf_37 : decode cX1_lastDeaf 37 = .ok (.invokevirtual 59, 3) := by decide +kernel
theorem dX1_lastDeaf_40 : decode cX1_lastDeaf 40 = .ok (.iand, 1) := by decide +kernel
theorem dX1_lastDeaf_41 : decode cX1_lastDeaf 41 = .ok (.istore 4, 2) := by decide +kernel
theorem dX1_lastDeaf_43 : decode cX1_lastDeaf 43 = .ok (.iload 4, 2) := by decide +kernel
theorem dX1_lastDeaf_45 : decode cX1_lastDeaf 45 = .ok (.ifCond .ne 6, 3) := by decide +kernel
theorem dX1_lastDeaf_48 : decode cX1_lastDeaf 48 = .ok (.goto 12, 3) := by decide +kernel
theorem dX1_lastDeaf_51 : decode cX1_lastDeaf 51 = .ok (.iload 4, 2) := by decide +kernel
theorem dX1_lastDeaf_53 : decode cX1_lastDeaf 53 = .ok (.istore_n 2, 1) := by decide +kernel
theorem dX1_lastDeaf_54 : decode cX1_lastDeaf 54 = .ok (.iinc 3 1, 3) := by decide +kernel
theorem dX1_lastDeaf_57 : decode cX1_lastDeaf 57 = .ok (.goto (-39), 3) := by decide +kernel
theorem dX1_lastDeaf_60 : decode cX1_lastDeaf 60 = .ok (.iload_n 2, 1) := by decide +kernel
theorem dX1_lastDeaf_61 : decode cX1_lastDeaf 61 = .ok (.invokestatic 34, 3) := by decide +kernel
theorem dX1_lastDeaf_64 : decode cX1_lastDeaf 64 = .ok (.ireturn, 1) := by decide +kernel
set_option maxRecDepth 20000 in
theorem ggX1_clearWays_X4_become : GoodIn wsX1_clearWays wsX4_become := goodIn_r _ [6, 7, 8, 9, 10, 11, 12, 13, 14, 15, 16, 17, 18, 19, 20, 56, 57, 58, 59, 60, 61, 62, 63, 64, 65] (by decide +kernel) (by decide +kernel)
set_option maxRecDepth 20000 in
theorem gX1_clearWays_X4_become : GoodIn wsX1_clearWays (wsV RX1 18 RX4 yX4_become wsX4_become) := goodIn_app (goodIn_of _ (by decide +kernel)) ggX1_clearWays_X4_become
set_option maxRecDepth 20000 in
theorem ggX1_clearWays_X4_hearersOf : GoodIn wsX1_clearWays wsX4_hearersOf := goodIn_r _ [24, 14, 25, 26, 27, 5, 28, 18, 17, 15, 8, 29, 30, 31, 32, 16, 56, 57, 58, 59, 60, 61, 62, 63, 64, 65] (by decide +kernel) (by decide +kernel)
set_option maxRecDepth 20000 in
theorem gX1_clearWays_X4_hearersOf : GoodIn wsX1_clearWays (wsV RX1 45 RX4 yX4_hearersOf wsX4_hearersOf) := goodIn_app (goodIn_of _ (by decide +kernel)) ggX1_clearWays_X4_hearersOf
set_option maxRecDepth 20000 in
theorem ggX1_clearWays_X6_power : GoodIn wsX1_clearWays wsX6_power := goodIn_r _ [35] (by decide +kernel) (by decide +kernel)
set_option maxRecDepth 20000 in
theorem gX1_clearWays_X6_power_n62 : GoodIn wsX1_clearWays (wsX6_power) := ggX1_clearWays_X6_power
set_option maxRecDepth 20000 in
theorem ggX1_clearWays_X4_pass : GoodIn wsX1_clearWays wsX4_pass := goodIn_r _ [39, 40, 41, 42, 5, 43, 14, 18, 44, 45, 46, 47, 19, 20, 17, 48, 49, 50, 51, 52, 53, 54, 56, 57, 58, 59, 60, 61, 62, 63, 64, 65] (by decide +kernel) (by decide +kernel)
set_option maxRecDepth 20000 in
theorem gX1_clearWays_X4_pass : GoodIn wsX1_clearWays (wsV RX1 22 RX4 yX4_pass wsX4_pass) := goodIn_app (goodIn_of _ (by decide +kernel)) ggX1_clearWays_X4_pass
theorem dX1_clearWays_0 : decode cX1_clearWays 0 = .ok (.aload_n 0, 1) := by decide +kernel
theorem dX1_clearWays_1 : decode cX1_clearWays 1 = .ok (.getfield 12, 3) := by decide +kernel
theorem dX1_clearWays_4 : decode cX1_clearWays 4 = .ok (.aload_n 1, 1) := by decide +kernel
theorem dX1_clearWays_5 : decode cX1_clearWays 5 = .ok (.invokevirtual 18, 3) := by decide +kernel
theorem dX1_clearWays_8 : decode cX1_clearWays 8 = .ok (.lconst 0, 1) := by decide +kernel
theorem dX1_clearWays_9 : decode cX1_clearWays 9 = .ok (.lstore 5, 2) := by decide +kernel
theorem dX1_clearWays_11 : decode cX1_clearWays 11 = .ok (.lconst 1, 1) := by decide +kernel
theorem dX1_clearWays_12 : decode cX1_clearWays 12 = .ok (.lstore 7, 2) := by decide +kernel
theorem dX1_clearWays_14 : decode cX1_clearWays 14 = .ok (.iconst 0, 1) := by decide +kernel
theorem dX1_clearWays_15 : decode cX1_clearWays 15 = .ok (.istore 9, 2) := by decide +kernel
theorem dX1_clearWays_17 : decode cX1_clearWays 17 = .ok (.iload 9, 2) := by decide +kernel
theorem dX1_clearWays_19 : decode cX1_clearWays 19 = .ok (.iload_n 3, 1) := by decide +kernel
theorem dX1_clearWays_20 : decode cX1_clearWays 20 = .ok (.if_icmp .gt 61, 3) := by decide +kernel
theorem dX1_clearWays_23 : decode cX1_clearWays 23 = .ok (.aload_n 0, 1) := by decide +kernel
theorem dX1_clearWays_24 : decode cX1_clearWays 24 = .ok (.getfield 12, 3) := by decide +kernel
theorem dX1_clearWays_27 : decode cX1_clearWays 27 = .ok (.iload_n 2, 1) := by decide +kernel
theorem dX1_clearWays_28 : decode cX1_clearWays 28 = .ok (.invokevirtual 45, 3) := by decide +kernel
theorem dX1_clearWays_31 : decode cX1_clearWays 31 = .ok (.ifCond .eq 20, 3) := by decide +kernel
theorem dX1_clearWays_34 : decode cX1_clearWays 34 = .ok (.lload 5, 2) := by decide +kernel
theorem dX1_clearWays_36 : decode cX1_clearWays 36 = .ok (.lload 7, 2) := by decide +kernel
theorem dX1_clearWays_38 : decode cX1_clearWays 38 = .ok (.iload 4, 2) := by decide +kernel
theorem dX1_clearWays_40 : decode cX1_clearWays 40 = .ok (.iconst 1, 1) := by decide +kernel
theorem dX1_clearWays_41 : decode cX1_clearWays 41 = .ok (.isub, 1) := by decide +kernel
theorem dX1_clearWays_42 : decode cX1_clearWays 42 = .ok (.iload 9, 2) := by decide +kernel
theorem dX1_clearWays_44 : decode cX1_clearWays 44 = .ok (.invokestatic 62, 3) := by decide +kernel
theorem dX1_clearWays_47 : decode cX1_clearWays 47 = .ok (.lmul, 1) := by decide +kernel
theorem dX1_clearWays_48 : decode cX1_clearWays 48 = .ok (.ladd, 1) := by decide +kernel
theorem dX1_clearWays_49 : decode cX1_clearWays 49 = .ok (.lstore 5, 2) := by decide +kernel
theorem dX1_clearWays_51 : decode cX1_clearWays 51 = .ok (.lload 7, 2) := by decide +kernel
theorem dX1_clearWays_53 : decode cX1_clearWays 53 = .ok (.iload_n 3, 1) := by decide +kernel
theorem dX1_clearWays_54 : decode cX1_clearWays 54 = .ok (.iload 9, 2) := by decide +kernel
theorem dX1_clearWays_56 : decode cX1_clearWays 56 = .ok (.isub, 1) := by decide +kernel
theorem dX1_clearWays_57 : decode cX1_clearWays 57 = .ok (.i2l, 1) := by decide +kernel
theorem dX1_clearWays_58 : decode cX1_clearWays 58 = .ok (.lmul, 1) := by decide +kernel
theorem dX1_clearWays_59 : decode cX1_clearWays 59 = .ok (.iload 9, 2) := by decide +kernel
theorem dX1_clearWays_61 : decode cX1_clearWays 61 = .ok (.iconst 1, 1) := by decide +kernel
theorem dX1_clearWays_62 : decode cX1_clearWays 62 = .ok (.iadd, 1) := by decide +kernel
theorem dX1_clearWays_63 : decode cX1_clearWays 63 = .ok (.i2l, 1) := by decide +kernel
theorem dX1_clearWays_64 : decode cX1_clearWays 64 = .ok (.ldiv, 1) := by decide +kernel
theorem dX1_clearWays_65 : decode cX1_clearWays 65 = .ok (.lstore 7, 2) := by decide +kernel
theorem dX1_clearWays_67 : decode cX1_clearWays 67 = .ok (.aload_n 0, 1) := by decide +kernel
theorem dX1_clearWays_68 : decode cX1_clearWays 68 = .ok (.getfield 12, 3) := by decide +kernel
theorem dX1_clearWays_71 : decode cX1_clearWays 71 = .ok (.iconst 1, 1) := by decide +kernel
theorem dX1_clearWays_72 : decode cX1_clearWays 72 = .ok (.invokevirtual 22, 3) := by decide +kernel
theorem dX1_clearWays_75 : decode cX1_clearWays 75 = .ok (.iinc 9 1, 3) := by decide +kernel
theorem dX1_clearWays_78 : decode cX1_clearWays 78 = .ok (.goto (-61), 3) := by decide +kernel
theorem dX1_clearWays_81 : decode cX1_clearWays 81 = .ok (.lload 5, 2) := by decide +kernel
theorem dX1_clearWays_83 : decode cX1_clearWays 83 = .ok (.lreturn, 1) := by decide +kernel
set_option maxRecDepth 20000 in
theorem ggX1_kindsBy_X4_become : GoodIn wsX1_kindsBy wsX4_become := goodIn_r _ [8, 9, 10, 11, 12, 13, 14, 15, 16, 17, 18, 19, 20, 21, 22, 77, 78, 79, 80, 81, 82, 83, 84, 85, 86] (by decide +kernel) (by decide +kernel)
set_option maxRecDepth 20000 in
theorem gX1_kindsBy_X4_become : GoodIn wsX1_kindsBy (wsV RX1 18 RX4 yX4_become wsX4_become) := goodIn_app (goodIn_of _ (by decide +kernel)) ggX1_kindsBy_X4_become
set_option maxRecDepth 20000 in
theorem ggX1_kindsBy_X4_makeKind : GoodIn wsX1_kindsBy wsX4_makeKind := goodIn_r _ [26, 17, 18, 77, 78, 79, 80, 81, 82, 83, 84, 85, 86] (by decide +kernel) (by decide +kernel)
set_option maxRecDepth 20000 in
theorem gX1_kindsBy_X4_makeKind : GoodIn wsX1_kindsBy (wsV RX1 75 RX4 yX4_makeKind wsX4_makeKind) := goodIn_app (goodIn_of _ (by decide +kernel)) ggX1_kindsBy_X4_makeKind
set_option maxRecDepth 20000 in
theorem ggX1_kindsBy_X1_wordOn : GoodIn wsX1_kindsBy wsX1_wordOn := goodIn_r _ [31, 1, 32, 33, 34, 7, 35, 20, 19, 17, 10, 36, 37, 38, 39, 18, 40, 41, 42, 43, 44, 45, 46, 47, 74, 77, 78, 79, 80, 81, 82, 83, 84, 85, 86] (by decide +kernel) (by decide +kernel)
set_option maxRecDepth 20000 in
theorem gX1_kindsBy_X1_wordOn : GoodIn wsX1_kindsBy (wsV RX1 79 RX1 yX1_wordOn wsX1_wordOn) := goodIn_app (goodIn_of _ (by decide +kernel)) ggX1_kindsBy_X1_wordOn
set_option maxRecDepth 20000 in
theorem ggX1_kindsBy_X2_at : GoodIn wsX1_kindsBy wsX2_at := goodIn_r _ [52, 53, 54, 75, 76] (by decide +kernel) (by decide +kernel)
set_option maxRecDepth 20000 in
theorem gX1_kindsBy_X2_at : GoodIn wsX1_kindsBy (wsV RX1 83 RX2 yX2_at wsX2_at) := goodIn_app (goodIn_of _ (by decide +kernel)) ggX1_kindsBy_X2_at
set_option maxRecDepth 20000 in
theorem ggX1_kindsBy_X4_pass : GoodIn wsX1_kindsBy wsX4_pass := goodIn_r _ [58, 59, 60, 61, 7, 62, 16, 20, 63, 64, 65, 66, 21, 22, 19, 67, 68, 69, 70, 71, 72, 73, 77, 78, 79, 80, 81, 82, 83, 84, 85, 86] (by decide +kernel) (by decide +kernel)
set_option maxRecDepth 20000 in
theorem gX1_kindsBy_X4_pass : GoodIn wsX1_kindsBy (wsV RX1 22 RX4 yX4_pass wsX4_pass) := goodIn_app (goodIn_of _ (by decide +kernel)) ggX1_kindsBy_X4_pass
theorem dX1_kindsBy_0 : decode cX1_kindsBy 0 = .ok (.aload_n 0, 1) := by decide +kernel
theorem dX1_kindsBy_1 : decode cX1_kindsBy 1 = .ok (.getfield 12, 3) := by decide +kernel
theorem dX1_kindsBy_4 : decode cX1_kindsBy 4 = .ok (.aload_n 1, 1) := by decide +kernel
theorem dX1_kindsBy_5 : decode cX1_kindsBy 5 = .ok (.invokevirtual 18, 3) := by decide +kernel
theorem dX1_kindsBy_8 : decode cX1_kindsBy 8 = .ok (.bipush 63, 2) := by decide +kernel
theorem dX1_kindsBy_10 : decode cX1_kindsBy 10 = .ok (.istore 5, 2) := by decide +kernel
theorem dX1_kindsBy_12 : decode cX1_kindsBy 12 = .ok (.iconst 0, 1) := by decide +kernel
theorem dX1_kindsBy_13 : decode cX1_kindsBy 13 = .ok (.istore 6, 2) := by decide +kernel
theorem dX1_kindsBy_15 : decode cX1_kindsBy 15 = .ok (.iload 6, 2) := by decide +kernel
theorem dX1_kindsBy_17 : decode cX1_kindsBy 17 = .ok (.aload 4, 2) := by decide +kernel
theorem dX1_kindsBy_19 : decode cX1_kindsBy 19 = .ok (.getfield 66, 3) := by decide +kernel
theorem dX1_kindsBy_22 : decode cX1_kindsBy 22 = .ok (.if_icmp .ge 76, 3) := by decide +kernel
theorem dX1_kindsBy_25 : decode cX1_kindsBy 25 = .ok (.iconst 0, 1) := by decide +kernel
theorem dX1_kindsBy_26 : decode cX1_kindsBy 26 = .ok (.istore 7, 2) := by decide +kernel
theorem dX1_kindsBy_28 : decode cX1_kindsBy 28 = .ok (.iload 7, 2) := by decide +kernel
theorem dX1_kindsBy_30 : decode cX1_kindsBy 30 = .ok (.bipush 6, 2) := by decide +kernel
theorem dX1_kindsBy_32 : decode cX1_kindsBy 32 = .ok (.if_icmp .ge 52, 3) := by decide +kernel
theorem dX1_kindsBy_35 : decode cX1_kindsBy 35 = .ok (.aload_n 0, 1) := by decide +kernel
theorem dX1_kindsBy_36 : decode cX1_kindsBy 36 = .ok (.getfield 12, 3) := by decide +kernel
theorem dX1_kindsBy_39 : decode cX1_kindsBy 39 = .ok (.iload_n 2, 1) := by decide +kernel
theorem dX1_kindsBy_40 : decode cX1_kindsBy 40 = .ok (.iload 7, 2) := by decide +kernel
theorem dX1_kindsBy_42 : decode cX1_kindsBy 42 = .ok (.aload_n 1, 1) := by decide +kernel
theorem dX1_kindsBy_43 : decode cX1_kindsBy 43 = .ok (.getfield 71, 3) := by decide +kernel
theorem dX1_kindsBy_46 : decode cX1_kindsBy 46 = .ok (.iload_n 2, 1) := by decide +kernel
theorem dX1_kindsBy_47 : decode cX1_kindsBy 47 = .ok (.iaload, 1) := by decide +kernel
theorem dX1_kindsBy_48 : decode cX1_kindsBy 48 = .ok (.invokevirtual 75, 3) := by decide +kernel
theorem dX1_kindsBy_51 : decode cX1_kindsBy 51 = .ok (.aload_n 0, 1) := by decide +kernel
theorem dX1_kindsBy_52 : decode cX1_kindsBy 52 = .ok (.iload_n 2, 1) := by decide +kernel
theorem dX1_kindsBy_53 : decode cX1_kindsBy 53 = .ok (.iload_n 3, 1) := by decide +kernel
theorem dX1_kindsBy_54 : decode cX1_kindsBy 54 = .ok (.invokevirtual 79, 3) := by decide +kernel
theorem dX1_kindsBy_57 : decode cX1_kindsBy 57 = .ok (.aload 4, 2) := by decide +kernel
theorem dX1_kindsBy_59 : decode cX1_kindsBy 59 = .ok (.iload 6, 2) := by decide +kernel
theorem dX1_kindsBy_61 : decode cX1_kindsBy 61 = .ok (.invokevirtual 83, 3) := by decide +kernel
theorem dX1_kindsBy_64 : decode cX1_kindsBy 64 = .ok (.if_icmp .eq 14, 3) := by decide +kernel
theorem dX1_kindsBy_67 : decode cX1_kindsBy 67 = .ok (.iload 5, 2) := by decide +kernel
theorem dX1_kindsBy_69 : decode cX1_kindsBy 69 = .ok (.iconst 1, 1) := by decide +kernel
theorem dX1_kindsBy_70 : decode cX1_kindsBy 70 = .ok (.iload 7, 2) := by decide +kernel
theorem dX1_kindsBy_72 : decode cX1_kindsBy 72 = .ok (.ishl, 1) := by decide +kernel
theorem dX1_kindsBy_73 : decode cX1_kindsBy 73 = .ok (.iconst (-1), 1) := by decide +kernel
theorem dX1_kindsBy_74 : decode cX1_kindsBy 74 = .ok (.ixor, 1) := by decide +kernel
theorem dX1_kindsBy_75 : decode cX1_kindsBy 75 = .ok (.iand, 1) := by decide +kernel
theorem dX1_kindsBy_76 : decode cX1_kindsBy 76 = .ok (.istore 5, 2) := by decide +kernel
theorem dX1_kindsBy_78 : decode cX1_kindsBy 78 = .ok (.iinc 7 1, 3) := by decide +kernel
theorem dX1_kindsBy_81 : decode cX1_kindsBy 81 = .ok (.goto (-53), 3) := by decide +kernel
theorem dX1_kindsBy_84 : decode cX1_kindsBy 84 = .ok (.aload_n 0, 1) := by decide +kernel
theorem dX1_kindsBy_85 : decode cX1_kindsBy 85 = .ok (.getfield 12, 3) := by decide +kernel
theorem dX1_kindsBy_88 : decode cX1_kindsBy 88 = .ok (.iconst 1, 1) := by decide +kernel
theorem dX1_kindsBy_89 : decode cX1_kindsBy 89 = .ok (.invokevirtual 22, 3) := by decide +kernel
theorem dX1_kindsBy_92 : decode cX1_kindsBy 92 = .ok (.iinc 6 1, 3) := by decide +kernel
theorem dX1_kindsBy_95 : decode cX1_kindsBy 95 = .ok (.goto (-80), 3) := by decide +kernel
theorem dX1_kindsBy_98 : decode cX1_kindsBy 98 = .ok (.iload 5, 2) := by decide +kernel
theorem dX1_kindsBy_100 : decode cX1_kindsBy 100 = .ok (.ireturn, 1) := by decide +kernel
set_option maxRecDepth 20000 in
theorem ggX1_figuresBy_X4_become : GoodIn wsX1_figuresBy wsX4_become := goodIn_r _ [8, 9, 10, 11, 12, 13, 14, 15, 16, 17, 18, 19, 20, 21, 22, 77, 78, 79, 80, 81, 82, 83, 84, 85, 86] (by decide +kernel) (by decide +kernel)
set_option maxRecDepth 20000 in
theorem gX1_figuresBy_X4_become : GoodIn wsX1_figuresBy (wsV RX1 18 RX4 yX4_become wsX4_become) := goodIn_app (goodIn_of _ (by decide +kernel)) ggX1_figuresBy_X4_become
set_option maxRecDepth 20000 in
theorem ggX1_figuresBy_X4_makeKind : GoodIn wsX1_figuresBy wsX4_makeKind := goodIn_r _ [26, 17, 18, 77, 78, 79, 80, 81, 82, 83, 84, 85, 86] (by decide +kernel) (by decide +kernel)
set_option maxRecDepth 20000 in
theorem gX1_figuresBy_X4_makeKind : GoodIn wsX1_figuresBy (wsV RX1 75 RX4 yX4_makeKind wsX4_makeKind) := goodIn_app (goodIn_of _ (by decide +kernel)) ggX1_figuresBy_X4_makeKind
set_option maxRecDepth 20000 in
theorem ggX1_figuresBy_X1_wordOn : GoodIn wsX1_figuresBy wsX1_wordOn := goodIn_r _ [31, 1, 32, 33, 34, 7, 35, 20, 19, 17, 10, 36, 37, 38, 39, 18, 40, 41, 42, 43, 44, 45, 46, 47, 74, 77, 78, 79, 80, 81, 82, 83, 84, 85, 86] (by decide +kernel) (by decide +kernel)
set_option maxRecDepth 20000 in
theorem gX1_figuresBy_X1_wordOn : GoodIn wsX1_figuresBy (wsV RX1 79 RX1 yX1_wordOn wsX1_wordOn) := goodIn_app (goodIn_of _ (by decide +kernel)) ggX1_figuresBy_X1_wordOn
set_option maxRecDepth 20000 in
theorem ggX1_figuresBy_X2_at : GoodIn wsX1_figuresBy wsX2_at := goodIn_r _ [52, 53, 54, 75, 76] (by decide +kernel) (by decide +kernel)
set_option maxRecDepth 20000 in
theorem gX1_figuresBy_X2_at : GoodIn wsX1_figuresBy (wsV RX1 83 RX2 yX2_at wsX2_at) := goodIn_app (goodIn_of _ (by decide +kernel)) ggX1_figuresBy_X2_at
set_option maxRecDepth 20000 in
theorem ggX1_figuresBy_X4_pass : GoodIn wsX1_figuresBy wsX4_pass := goodIn_r _ [58, 59, 60, 61, 7, 62, 16, 20, 63, 64, 65, 66, 21, 22, 19, 67, 68, 69, 70, 71, 72, 73, 77, 78, 79, 80, 81, 82, 83, 84, 85, 86] (by decide +kernel) (by decide +kernel)
set_option maxRecDepth 20000 in
theorem gX1_figuresBy_X4_pass : GoodIn wsX1_figuresBy (wsV RX1 22 RX4 yX4_pass wsX4_pass) := goodIn_app (goodIn_of _ (by decide +kernel)) ggX1_figuresBy_X4_pass
theorem dX1_figuresBy_0 : decode cX1_figuresBy 0 = .ok (.aload_n 0, 1) := by decide +kernel
theorem dX1_figuresBy_1 : decode cX1_figuresBy 1 = .ok (.getfield 12, 3) := by decide +kernel
theorem dX1_figuresBy_4 : decode cX1_figuresBy 4 = .ok (.aload_n 1, 1) := by decide +kernel
theorem dX1_figuresBy_5 : decode cX1_figuresBy 5 = .ok (.invokevirtual 18, 3) := by decide +kernel
theorem dX1_figuresBy_8 : decode cX1_figuresBy 8 = .ok (.sipush 1023, 3) := by decide +kernel
theorem dX1_figuresBy_11 : decode cX1_figuresBy 11 = .ok (.istore 5, 2) := by decide +kernel
theorem dX1_figuresBy_13 : decode cX1_figuresBy 13 = .ok (.iconst 0, 1) := by decide +kernel
theorem dX1_figuresBy_14 : decode cX1_figuresBy 14 = .ok (.istore 6, 2) := by decide +kernel
theorem dX1_figuresBy_16 : decode cX1_figuresBy 16 = .ok (.iload 6, 2) := by decide +kernel
theorem dX1_figuresBy_18 : decode cX1_figuresBy 18 = .ok (.aload 4, 2) := by decide +kernel
theorem dX1_figuresBy_20 : decode cX1_figuresBy 20 = .ok (.getfield 66, 3) := by decide +kernel
theorem dX1_figuresBy_23 : decode cX1_figuresBy 23 = .ok (.if_icmp .ge 76, 3) := by decide +kernel
theorem dX1_figuresBy_26 : decode cX1_figuresBy 26 = .ok (.iconst 0, 1) := by decide +kernel
theorem dX1_figuresBy_27 : decode cX1_figuresBy 27 = .ok (.istore 7, 2) := by decide +kernel
theorem dX1_figuresBy_29 : decode cX1_figuresBy 29 = .ok (.iload 7, 2) := by decide +kernel
theorem dX1_figuresBy_31 : decode cX1_figuresBy 31 = .ok (.bipush 9, 2) := by decide +kernel
theorem dX1_figuresBy_33 : decode cX1_figuresBy 33 = .ok (.if_icmp .gt 52, 3) := by decide +kernel
theorem dX1_figuresBy_36 : decode cX1_figuresBy 36 = .ok (.aload_n 0, 1) := by decide +kernel
theorem dX1_figuresBy_37 : decode cX1_figuresBy 37 = .ok (.getfield 12, 3) := by decide +kernel
theorem dX1_figuresBy_40 : decode cX1_figuresBy 40 = .ok (.iload_n 2, 1) := by decide +kernel
theorem dX1_figuresBy_41 : decode cX1_figuresBy 41 = .ok (.aload_n 1, 1) := by decide +kernel
theorem dX1_figuresBy_42 : decode cX1_figuresBy 42 = .ok (.getfield 86, 3) := by decide +kernel
theorem dX1_figuresBy_45 : decode cX1_figuresBy 45 = .ok (.iload_n 2, 1) := by decide +kernel
theorem dX1_figuresBy_46 : decode cX1_figuresBy 46 = .ok (.iaload, 1) := by decide +kernel
theorem dX1_figuresBy_47 : decode cX1_figuresBy 47 = .ok (.iload 7, 2) := by decide +kernel
theorem dX1_figuresBy_49 : decode cX1_figuresBy 49 = .ok (.invokevirtual 75, 3) := by decide +kernel
theorem dX1_figuresBy_52 : decode cX1_figuresBy 52 = .ok (.aload_n 0, 1) := by decide +kernel
theorem dX1_figuresBy_53 : decode cX1_figuresBy 53 = .ok (.iload_n 2, 1) := by decide +kernel
theorem dX1_figuresBy_54 : decode cX1_figuresBy 54 = .ok (.iload_n 3, 1) := by decide +kernel
theorem dX1_figuresBy_55 : decode cX1_figuresBy 55 = .ok (.invokevirtual 79, 3) := by decide +kernel
theorem dX1_figuresBy_58 : decode cX1_figuresBy 58 = .ok (.aload 4, 2) := by decide +kernel
theorem dX1_figuresBy_60 : decode cX1_figuresBy 60 = .ok (.iload 6, 2) := by decide +kernel
theorem dX1_figuresBy_62 : decode cX1_figuresBy 62 = .ok (.invokevirtual 83, 3) := by decide +kernel
theorem dX1_figuresBy_65 : decode cX1_figuresBy 65 = .ok (.if_icmp .eq 14, 3) := by decide +kernel
theorem dX1_figuresBy_68 : decode cX1_figuresBy 68 = .ok (.iload 5, 2) := by decide +kernel
theorem dX1_figuresBy_70 : decode cX1_figuresBy 70 = .ok (.iconst 1, 1) := by decide +kernel
theorem dX1_figuresBy_71 : decode cX1_figuresBy 71 = .ok (.iload 7, 2) := by decide +kernel
theorem dX1_figuresBy_73 : decode cX1_figuresBy 73 = .ok (.ishl, 1) := by decide +kernel
theorem dX1_figuresBy_74 : decode cX1_figuresBy 74 = .ok (.iconst (-1), 1) := by decide +kernel
theorem dX1_figuresBy_75 : decode cX1_figuresBy 75 = .ok (.ixor, 1) := by decide +kernel
theorem dX1_figuresBy_76 : decode cX1_figuresBy 76 = .ok (.iand, 1) := by decide +kernel
theorem dX1_figuresBy_77 : decode cX1_figuresBy 77 = .ok (.istore 5, 2) := by decide +kernel
theorem dX1_figuresBy_79 : decode cX1_figuresBy 79 = .ok (.iinc 7 1, 3) := by decide +kernel
theorem dX1_figuresBy_82 : decode cX1_figuresBy 82 = .ok (.goto (-53), 3) := by decide +kernel
theorem dX1_figuresBy_85 : decode cX1_figuresBy 85 = .ok (.aload_n 0, 1) := by decide +kernel
theorem dX1_figuresBy_86 : decode cX1_figuresBy 86 = .ok (.getfield 12, 3) := by decide +kernel
theorem dX1_figuresBy_89 : decode cX1_figuresBy 89 = .ok (.iconst 1, 1) := by decide +kernel
theorem dX1_figuresBy_90 : decode cX1_figuresBy 90 = .ok (.invokevirtual 22, 3) := by decide +kernel
theorem dX1_figuresBy_93 : decode cX1_figuresBy 93 = .ok (.iinc 6 1, 3) := by decide +kernel
theorem dX1_figuresBy_96 : decode cX1_figuresBy 96 = .ok (.goto (-80), 3) := by decide +kernel
theorem dX1_figuresBy_99 : decode cX1_figuresBy 99 = .ok (.iload 5, 2) := by decide +kernel
theorem dX1_figuresBy_101 : decode cX1_figuresBy 101 = .ok (.ireturn, 1) := by decide +kernel
set_option maxRecDepth 20000 in
theorem ggX1_wordOn_X4_hearsIt : GoodIn wsX1_wordOn wsX4_hearsIt := goodIn_r _ [6, 7, 8, 9, 10, 11, 12, 13, 5, 14, 15, 25, 26, 27, 28, 29, 30, 31, 32, 33, 34] (by decide +kernel) (by decide +kernel)
set_option maxRecDepth 20000 in
theorem gX1_wordOn_X4_hearsIt : GoodIn wsX1_wordOn (wsV RX1 52 RX4 yX4_hearsIt wsX4_hearsIt) := goodIn_app (goodIn_of _ (by decide +kernel)) ggX1_wordOn_X4_hearsIt
set_option maxRecDepth 20000 in
theorem ggX1_wordOn_X4_hourBy : GoodIn wsX1_wordOn wsX4_hourBy := goodIn_r _ [19, 10, 20, 21, 22, 5, 23, 9, 15, 25, 26, 27, 28, 29, 30, 31, 32, 33, 34] (by decide +kernel) (by decide +kernel)
set_option maxRecDepth 20000 in
theorem gX1_wordOn_X4_hourBy : GoodIn wsX1_wordOn (wsV RX1 89 RX4 yX4_hourBy wsX4_hourBy) := goodIn_app (goodIn_of _ (by decide +kernel)) ggX1_wordOn_X4_hourBy
theorem dX1_wordOn_0 : decode cX1_wordOn 0 = .ok (.aload_n 0, 1) := by decide +kernel
theorem dX1_wordOn_1 : decode cX1_wordOn 1 = .ok (.getfield 12, 3) := by decide +kernel
theorem dX1_wordOn_4 : decode cX1_wordOn 4 = .ok (.iload_n 1, 1) := by decide +kernel
theorem dX1_wordOn_5 : decode cX1_wordOn 5 = .ok (.iload_n 2, 1) := by decide +kernel
theorem dX1_wordOn_6 : decode cX1_wordOn 6 = .ok (.invokevirtual 52, 3) := by decide +kernel
theorem dX1_wordOn_9 : decode cX1_wordOn 9 = .ok (.ifCond .eq 15, 3) := by decide +kernel
theorem dX1_wordOn_12 : decode cX1_wordOn 12 = .ok (.aload_n 0, 1) := by decide +kernel
theorem dX1_wordOn_13 : decode cX1_wordOn 13 = .ok (.getfield 12, 3) := by decide +kernel
theorem dX1_wordOn_16 : decode cX1_wordOn 16 = .ok (.iload_n 1, 1) := by decide +kernel
theorem dX1_wordOn_17 : decode cX1_wordOn 17 = .ok (.iload_n 2, 1) := by decide +kernel
theorem dX1_wordOn_18 : decode cX1_wordOn 18 = .ok (.invokevirtual 89, 3) := by decide +kernel
theorem dX1_wordOn_21 : decode cX1_wordOn 21 = .ok (.goto 5, 3) := by decide +kernel
theorem dX1_wordOn_24 : decode cX1_wordOn 24 = .ok (.bipush 99, 2) := by decide +kernel
theorem dX1_wordOn_26 : decode cX1_wordOn 26 = .ok (.ireturn, 1) := by decide +kernel
set_option maxRecDepth 20000 in
theorem ggX1_firstUntrue_X4_become : GoodIn wsX1_firstUntrue wsX4_become := goodIn_r _ [7, 8, 9, 10, 11, 12, 13, 14, 15, 16, 17, 18, 19, 20, 21, 74, 75, 76, 77, 78, 79, 80, 81, 82, 83] (by decide +kernel) (by decide +kernel)
set_option maxRecDepth 20000 in
theorem gX1_firstUntrue_X4_become : GoodIn wsX1_firstUntrue (wsV RX1 18 RX4 yX4_become wsX4_become) := goodIn_app (goodIn_of _ (by decide +kernel)) ggX1_firstUntrue_X4_become
set_option maxRecDepth 20000 in
theorem ggX1_firstUntrue_X4_hearersOfSome : GoodIn wsX1_firstUntrue wsX4_hearersOfSome := goodIn_r _ [25, 15, 26, 27, 28, 6, 29, 8, 30, 31, 32, 33, 19, 18, 16, 9, 34, 35, 36, 37, 17, 74, 75, 76, 77, 78, 79, 80, 81, 82, 83] (by decide +kernel) (by decide +kernel)
set_option maxRecDepth 20000 in
theorem gX1_firstUntrue_X4_hearersOfSome : GoodIn wsX1_firstUntrue (wsV RX1 59 RX4 yX4_hearersOfSome wsX4_hearersOfSome) := goodIn_app (goodIn_of _ (by decide +kernel)) ggX1_firstUntrue_X4_hearersOfSome
set_option maxRecDepth 20000 in
theorem ggX1_firstUntrue_J6_bitCount_0f7a4 : GoodIn wsX1_firstUntrue wsJ6_bitCount_0f7a4 := goodIn_r _ [41, 42, 43, 44] (by decide +kernel) (by decide +kernel)
set_option maxRecDepth 20000 in
theorem gX1_firstUntrue_J6_bitCount_0f7a4 : GoodIn wsX1_firstUntrue (va_wsS RX1 92 yJ6_bitCount_0f7a4 wsJ6_bitCount_0f7a4) := goodIn_app (goodIn_of _ (by decide +kernel)) ggX1_firstUntrue_J6_bitCount_0f7a4
set_option maxRecDepth 20000 in
theorem ggX1_firstUntrue_X2_at : GoodIn wsX1_firstUntrue wsX2_at := goodIn_r _ [49, 50, 51, 72, 73] (by decide +kernel) (by decide +kernel)
set_option maxRecDepth 20000 in
theorem gX1_firstUntrue_X2_at : GoodIn wsX1_firstUntrue (wsV RX1 83 RX2 yX2_at wsX2_at) := goodIn_app (goodIn_of _ (by decide +kernel)) ggX1_firstUntrue_X2_at
set_option maxRecDepth 20000 in
theorem ggX1_firstUntrue_X4_pass : GoodIn wsX1_firstUntrue wsX4_pass := goodIn_r _ [55, 56, 57, 58, 6, 59, 15, 19, 60, 61, 62, 63, 20, 21, 18, 64, 65, 66, 67, 68, 69, 70, 74, 75, 76, 77, 78, 79, 80, 81, 82, 83] (by decide +kernel) (by decide +kernel)
set_option maxRecDepth 20000 in
theorem gX1_firstUntrue_X4_pass : GoodIn wsX1_firstUntrue (wsV RX1 22 RX4 yX4_pass wsX4_pass) := goodIn_app (goodIn_of _ (by decide +kernel)) ggX1_firstUntrue_X4_pass
theorem dX1_firstUntrue_0 : decode cX1_firstUntrue 0 = .ok (.aload_n 0, 1) := by decide +kernel
theorem dX1_firstUntrue_1 : decode cX1_firstUntrue 1 = .ok (.getfield 12, 3) := by decide +kernel
theorem dX1_firstUntrue_4 : decode cX1_firstUntrue 4 = .ok (.aload_n 1, 1) := by decide +kernel
theorem dX1_firstUntrue_5 : decode cX1_firstUntrue 5 = .ok (.invokevirtual 18, 3) := by decide +kernel
theorem dX1_firstUntrue_8 : decode cX1_firstUntrue 8 = .ok (.iconst 0, 1) := by decide +kernel
theorem dX1_firstUntrue_9 : decode cX1_firstUntrue 9 = .ok (.istore_n 3, 1) := by decide +kernel
theorem dX1_firstUntrue_10 : decode cX1_firstUntrue 10 = .ok (.iload_n 3, 1) := by decide +kernel
theorem dX1_firstUntrue_11 : decode cX1_firstUntrue 11 = .ok (.aload_n 2, 1) := by decide +kernel
theorem dX1_firstUntrue_12 : decode cX1_firstUntrue 12 = .ok (.getfield 66, 3) := by decide +kernel
theorem dX1_firstUntrue_15 : decode cX1_firstUntrue 15 = .ok (.if_icmp .ge 37, 3) := by decide +kernel
theorem dX1_firstUntrue_18 : decode cX1_firstUntrue 18 = .ok (.aload_n 0, 1) := by decide +kernel
theorem dX1_firstUntrue_19 : decode cX1_firstUntrue 19 = .ok (.getfield 12, 3) := by decide +kernel
theorem dX1_firstUntrue_22 : decode cX1_firstUntrue 22 = .ok (.invokevirtual 59, 3) := by decide +kernel
theorem dX1_firstUntrue_25 : decode cX1_firstUntrue 25 = .ok (.invokestatic 92, 3) := by decide +kernel
theorem dX1_firstUntrue_28 : decode cX1_firstUntrue 28 = .ok (.aload_n 2, 1) := by decide +kernel
theorem dX1_firstUntrue_29 : decode cX1_firstUntrue 29 = .ok (.iload_n 3, 1) := by decide +kernel
theorem dX1_firstUntrue_30 : decode cX1_firstUntrue 30 = .ok (.invokevirtual 83, 3) := by decide +kernel
theorem dX1_firstUntrue_33 : decode cX1_firstUntrue 33 = .ok (.if_icmp .eq 5, 3) := by decide +kernel
theorem dX1_firstUntrue_36 : decode cX1_firstUntrue 36 = .ok (.iload_n 3, 1) := by decide +kernel
theorem dX1_firstUntrue_37 : decode cX1_firstUntrue 37 = .ok (.ireturn, 1) := by decide +kernel
theorem dX1_firstUntrue_38 : decode cX1_firstUntrue 38 = .ok (.aload_n 0, 1) := by decide +kernel
theorem dX1_firstUntrue_39 : decode cX1_firstUntrue 39 = .ok (.getfield 12, 3) := by decide +kernel
theorem dX1_firstUntrue_42 : decode cX1_firstUntrue 42 = .ok (.iconst 1, 1) := by decide +kernel
theorem dX1_firstUntrue_43 : decode cX1_firstUntrue 43 = .ok (.invokevirtual 22, 3) := by decide +kernel
theorem dX1_firstUntrue_46 : decode cX1_firstUntrue 46 = .ok (.iinc 3 1, 3) := by decide +kernel
theorem dX1_firstUntrue_49 : decode cX1_firstUntrue 49 = .ok (.goto (-39), 3) := by decide +kernel
theorem dX1_firstUntrue_52 : decode cX1_firstUntrue 52 = .ok (.bipush (-9), 2) := by decide +kernel
theorem dX1_firstUntrue_54 : decode cX1_firstUntrue 54 = .ok (.ireturn, 1) := by decide +kernel
set_option maxRecDepth 20000 in
theorem ggX1_townsByLot_X4_become : GoodIn wsX1_townsByLot wsX4_become := goodIn_r _ [11, 12, 13, 14, 15, 16, 17, 18, 19, 20, 21, 22, 23, 24, 25, 73, 74, 75, 76, 77, 78, 79, 80, 81, 82] (by decide +kernel) (by decide +kernel)
set_option maxRecDepth 20000 in
theorem gX1_townsByLot_X4_become : GoodIn wsX1_townsByLot (wsV RX1 18 RX4 yX4_become wsX4_become) := goodIn_app (goodIn_of _ (by decide +kernel)) ggX1_townsByLot_X4_become
set_option maxRecDepth 20000 in
theorem ggX1_townsByLot_X4_pass : GoodIn wsX1_townsByLot wsX4_pass := goodIn_r _ [29, 30, 31, 32, 10, 33, 19, 23, 34, 35, 36, 37, 24, 25, 22, 38, 39, 40, 41, 42, 43, 44, 73, 74, 75, 76, 77, 78, 79, 80, 81, 82] (by decide +kernel) (by decide +kernel)
set_option maxRecDepth 20000 in
theorem gX1_townsByLot_X4_pass : GoodIn wsX1_townsByLot (wsV RX1 22 RX4 yX4_pass wsX4_pass) := goodIn_app (goodIn_of _ (by decide +kernel)) ggX1_townsByLot_X4_pass
set_option maxRecDepth 20000 in
theorem ggX1_townsByLot_X4_hearersOfSome : GoodIn wsX1_townsByLot wsX4_hearersOfSome := goodIn_r _ [48, 19, 49, 50, 51, 10, 52, 12, 53, 54, 55, 56, 23, 22, 20, 13, 57, 58, 59, 60, 21, 73, 74, 75, 76, 77, 78, 79, 80, 81, 82] (by decide +kernel) (by decide +kernel)
set_option maxRecDepth 20000 in
theorem gX1_townsByLot_X4_hearersOfSome : GoodIn wsX1_townsByLot (wsV RX1 59 RX4 yX4_hearersOfSome wsX4_hearersOfSome) := goodIn_app (goodIn_of _ (by decide +kernel)) ggX1_townsByLot_X4_hearersOfSome
set_option maxRecDepth 20000 in
theorem ggX1_townsByLot_J6_bitCount_0f7a4 : GoodIn wsX1_townsByLot wsJ6_bitCount_0f7a4 := goodIn_r _ [64, 65, 66, 67] (by decide +kernel) (by decide +kernel)
set_option maxRecDepth 20000 in
theorem gX1_townsByLot_J6_bitCount_0f7a4 : GoodIn wsX1_townsByLot (va_wsS RX1 92 yJ6_bitCount_0f7a4 wsJ6_bitCount_0f7a4) := goodIn_app (goodIn_of _ (by decide +kernel)) ggX1_townsByLot_J6_bitCount_0f7a4
set_option maxRecDepth 20000 in
theorem ggX1_townsByLot_X4_allSlept : GoodIn wsX1_townsByLot wsX4_allSlept := goodIn_r _ [71, 19, 22, 73, 74, 75, 76, 77, 78, 79, 80, 81, 82] (by decide +kernel) (by decide +kernel)
set_option maxRecDepth 20000 in
theorem gX1_townsByLot_X4_allSlept : GoodIn wsX1_townsByLot (wsV RX1 103 RX4 yX4_allSlept wsX4_allSlept) := goodIn_app (goodIn_of _ (by decide +kernel)) ggX1_townsByLot_X4_allSlept
theorem dX1_townsByLot_0 : decode cX1_townsByLot 0 = .ok (.iload_n 3, 1) := by decide +kernel
theorem dX1_townsByLot_1 : decode cX1_townsByLot 1 = .ok (.istore 5, 2) := by decide +kernel
theorem dX1_townsByLot_3 : decode cX1_townsByLot 3 = .ok (.iconst 0, 1) := by decide +kernel
theorem dX1_townsByLot_4 : decode cX1_townsByLot 4 = .ok (.istore 6, 2) := by decide +kernel
theorem dX1_townsByLot_6 : decode cX1_townsByLot 6 = .ok (.iconst 0, 1) := by decide +kernel
theorem dX1_townsByLot_7 : decode cX1_townsByLot 7 = .ok (.istore 7, 2) := by decide +kernel
theorem dX1_townsByLot_9 : decode cX1_townsByLot 9 = .ok (.iload 7, 2) := by decide +kernel
theorem dX1_townsByLot_11 : decode cX1_townsByLot 11 = .ok (.iload_n 2, 1) := by decide +kernel
theorem dX1_townsByLot_12 : decode cX1_townsByLot 12 = .ok (.if_icmp .ge 109, 3) := by decide +kernel
theorem dX1_townsByLot_15 : decode cX1_townsByLot 15 = .ok (.aload_n 0, 1) := by decide +kernel
theorem dX1_townsByLot_16 : decode cX1_townsByLot 16 = .ok (.getfield 12, 3) := by decide +kernel
theorem dX1_townsByLot_19 : decode cX1_townsByLot 19 = .ok (.aload_n 1, 1) := by decide +kernel
theorem dX1_townsByLot_20 : decode cX1_townsByLot 20 = .ok (.invokevirtual 18, 3) := by decide +kernel
theorem dX1_townsByLot_23 : decode cX1_townsByLot 23 = .ok (.iconst 0, 1) := by decide +kernel
theorem dX1_townsByLot_24 : decode cX1_townsByLot 24 = .ok (.istore 8, 2) := by decide +kernel
theorem dX1_townsByLot_26 : decode cX1_townsByLot 26 = .ok (.iload 8, 2) := by decide +kernel
theorem dX1_townsByLot_28 : decode cX1_townsByLot 28 = .ok (.aload_n 0, 1) := by decide +kernel
theorem dX1_townsByLot_29 : decode cX1_townsByLot 29 = .ok (.getfield 12, 3) := by decide +kernel
theorem dX1_townsByLot_32 : decode cX1_townsByLot 32 = .ok (.getfield 48, 3) := by decide +kernel
theorem dX1_townsByLot_35 : decode cX1_townsByLot 35 = .ok (.if_icmp .ge 41, 3) := by decide +kernel
theorem dX1_townsByLot_38 : decode cX1_townsByLot 38 = .ok (.iload 5, 2) := by decide +kernel
theorem dX1_townsByLot_40 : decode cX1_townsByLot 40 = .ok (.ldc 97, 2) := by decide +kernel
theorem dX1_townsByLot_42 : decode cX1_townsByLot 42 = .ok (.imul, 1) := by decide +kernel
theorem dX1_townsByLot_43 : decode cX1_townsByLot 43 = .ok (.ldc 98, 2) := by decide +kernel
theorem dX1_townsByLot_45 : decode cX1_townsByLot 45 = .ok (.iadd, 1) := by decide +kernel
theorem dX1_townsByLot_46 : decode cX1_townsByLot 46 = .ok (.istore 5, 2) := by decide +kernel
theorem dX1_townsByLot_48 : decode cX1_townsByLot 48 = .ok (.aload_n 0, 1) := by decide +kernel
theorem dX1_townsByLot_49 : decode cX1_townsByLot 49 = .ok (.getfield 12, 3) := by decide +kernel
theorem dX1_townsByLot_52 : decode cX1_townsByLot 52 = .ok (.getfield 99, 3) := by decide +kernel
theorem dX1_townsByLot_55 : decode cX1_townsByLot 55 = .ok (.iload 8, 2) := by decide +kernel
theorem dX1_townsByLot_57 : decode cX1_townsByLot 57 = .ok (.iload 5, 2) := by decide +kernel
theorem dX1_townsByLot_59 : decode cX1_townsByLot 59 = .ok (.ldc 102, 2) := by decide +kernel
theorem dX1_townsByLot_61 : decode cX1_townsByLot 61 = .ok (.iand, 1) := by decide +kernel
theorem dX1_townsByLot_62 : decode cX1_townsByLot 62 = .ok (.sipush 256, 3) := by decide +kernel
theorem dX1_townsByLot_65 : decode cX1_townsByLot 65 = .ok (.idiv, 1) := by decide +kernel
theorem dX1_townsByLot_66 : decode cX1_townsByLot 66 = .ok (.bipush 20, 2) := by decide +kernel
theorem dX1_townsByLot_68 : decode cX1_townsByLot 68 = .ok (.irem, 1) := by decide +kernel
theorem dX1_townsByLot_69 : decode cX1_townsByLot 69 = .ok (.iastore, 1) := by decide +kernel
theorem dX1_townsByLot_70 : decode cX1_townsByLot 70 = .ok (.iinc 8 1, 3) := by decide +kernel
theorem dX1_townsByLot_73 : decode cX1_townsByLot 73 = .ok (.goto (-47), 3) := by decide +kernel
theorem dX1_townsByLot_76 : decode cX1_townsByLot 76 = .ok (.aload_n 0, 1) := by decide +kernel
theorem dX1_townsByLot_77 : decode cX1_townsByLot 77 = .ok (.getfield 12, 3) := by decide +kernel
theorem dX1_townsByLot_80 : decode cX1_townsByLot 80 = .ok (.bipush 10, 2) := by decide +kernel
theorem dX1_townsByLot_82 : decode cX1_townsByLot 82 = .ok (.invokevirtual 22, 3) := by decide +kernel
theorem dX1_townsByLot_85 : decode cX1_townsByLot 85 = .ok (.iload 6, 2) := by decide +kernel
theorem dX1_townsByLot_87 : decode cX1_townsByLot 87 = .ok (.iload 4, 2) := by decide +kernel
theorem dX1_townsByLot_89 : decode cX1_townsByLot 89 = .ok (.ifCond .eq 16, 3) := by decide +kernel
theorem dX1_townsByLot_92 : decode cX1_townsByLot 92 = .ok (.aload_n 0, 1) := by decide +kernel
theorem dX1_townsByLot_93 : decode cX1_townsByLot 93 = .ok (.getfield 12, 3) := by decide +kernel
theorem dX1_townsByLot_96 : decode cX1_townsByLot 96 = .ok (.invokevirtual 59, 3) := by decide +kernel
theorem dX1_townsByLot_99 : decode cX1_townsByLot 99 = .ok (.invokestatic 92, 3) := by decide +kernel
theorem dX1_townsByLot_102 : decode cX1_townsByLot 102 = .ok (.goto 10, 3) := by decide +kernel
theorem dX1_townsByLot_105 : decode cX1_townsByLot 105 = .ok (.aload_n 0, 1) := by decide +kernel
theorem dX1_townsByLot_106 : decode cX1_townsByLot 106 = .ok (.getfield 12, 3) := by decide +kernel
theorem dX1_townsByLot_109 : decode cX1_townsByLot 109 = .ok (.invokevirtual 103, 3) := by decide +kernel
theorem dX1_townsByLot_112 : decode cX1_townsByLot 112 = .ok (.iadd, 1) := by decide +kernel
theorem dX1_townsByLot_113 : decode cX1_townsByLot 113 = .ok (.istore 6, 2) := by decide +kernel
theorem dX1_townsByLot_115 : decode cX1_townsByLot 115 = .ok (.iinc 7 1, 3) := by decide +kernel
theorem dX1_townsByLot_118 : decode cX1_townsByLot 118 = .ok (.goto (-109), 3) := by decide +kernel
theorem dX1_townsByLot_121 : decode cX1_townsByLot 121 = .ok (.iload 6, 2) := by decide +kernel
theorem dX1_townsByLot_123 : decode cX1_townsByLot 123 = .ok (.ireturn, 1) := by decide +kernel
theorem dX2_init_0 : decode cX2_init 0 = .ok (.aload_n 0, 1) := by decide +kernel
theorem dX2_init_1 : decode cX2_init 1 = .ok (.invokespecial 3, 3) := by decide +kernel
theorem dX2_init_4 : decode cX2_init 4 = .ok (.aload_n 0, 1) := by decide +kernel
theorem dX2_init_5 : decode cX2_init 5 = .ok (.bipush 16, 2) := by decide +kernel
theorem dX2_init_7 : decode cX2_init 7 = .ok (.newarray .int, 2) := by decide +kernel
theorem dX2_init_9 : decode cX2_init 9 = .ok (.putfield 9, 3) := by decide +kernel
theorem dX2_init_12 : decode cX2_init 12 = .ok (.return_, 1) := by decide +kernel
theorem dX2_add_0 : decode cX2_add 0 = .ok (.aload_n 0, 1) := by decide +kernel
theorem dX2_add_1 : decode cX2_add 1 = .ok (.getfield 15, 3) := by decide +kernel
theorem dX2_add_4 : decode cX2_add 4 = .ok (.bipush 16, 2) := by decide +kernel
theorem dX2_add_6 : decode cX2_add 6 = .ok (.if_icmp .ge 23, 3) := by decide +kernel
theorem dX2_add_9 : decode cX2_add 9 = .ok (.aload_n 0, 1) := by decide +kernel
theorem dX2_add_10 : decode cX2_add 10 = .ok (.getfield 9, 3) := by decide +kernel
theorem dX2_add_13 : decode cX2_add 13 = .ok (.aload_n 0, 1) := by decide +kernel
theorem dX2_add_14 : decode cX2_add 14 = .ok (.getfield 15, 3) := by decide +kernel
theorem dX2_add_17 : decode cX2_add 17 = .ok (.iload_n 1, 1) := by decide +kernel
theorem dX2_add_18 : decode cX2_add 18 = .ok (.iastore, 1) := by decide +kernel
theorem dX2_add_19 : decode cX2_add 19 = .ok (.aload_n 0, 1) := by decide +kernel
theorem dX2_add_20 : decode cX2_add 20 = .ok (.dup, 1) := by decide +kernel
theorem dX2_add_21 : decode cX2_add 21 = .ok (.getfield 15, 3) := by decide +kernel
theorem dX2_add_24 : decode cX2_add 24 = .ok (.iconst 1, 1) := by decide +kernel
theorem dX2_add_25 : decode cX2_add 25 = .ok (.iadd, 1) := by decide +kernel
theorem dX2_add_26 : decode cX2_add 26 = .ok (.putfield 15, 3) := by decide +kernel
theorem dX2_add_29 : decode cX2_add 29 = .ok (.return_, 1) := by decide +kernel
theorem dX2_forget_0 : decode cX2_forget 0 = .ok (.aload_n 0, 1) := by decide +kernel
theorem dX2_forget_1 : decode cX2_forget 1 = .ok (.iconst 0, 1) := by decide +kernel
theorem dX2_forget_2 : decode cX2_forget 2 = .ok (.putfield 15, 3) := by decide +kernel
theorem dX2_forget_5 : decode cX2_forget 5 = .ok (.return_, 1) := by decide +kernel
theorem dX2_at_0 : decode cX2_at 0 = .ok (.iload_n 1, 1) := by decide +kernel
theorem dX2_at_1 : decode cX2_at 1 = .ok (.ifCond .lt 20, 3) := by decide +kernel
theorem dX2_at_4 : decode cX2_at 4 = .ok (.iload_n 1, 1) := by decide +kernel
theorem dX2_at_5 : decode cX2_at 5 = .ok (.aload_n 0, 1) := by decide +kernel
theorem dX2_at_6 : decode cX2_at 6 = .ok (.getfield 15, 3) := by decide +kernel
theorem dX2_at_9 : decode cX2_at 9 = .ok (.if_icmp .ge 12, 3) := by decide +kernel
theorem dX2_at_12 : decode cX2_at 12 = .ok (.aload_n 0, 1) := by decide +kernel
theorem dX2_at_13 : decode cX2_at 13 = .ok (.getfield 9, 3) := by decide +kernel
theorem dX2_at_16 : decode cX2_at 16 = .ok (.iload_n 1, 1) := by decide +kernel
theorem dX2_at_17 : decode cX2_at 17 = .ok (.iaload, 1) := by decide +kernel
theorem dX2_at_18 : decode cX2_at 18 = .ok (.goto 5, 3) := by decide +kernel
theorem dX2_at_21 : decode cX2_at 21 = .ok (.bipush (-9), 2) := by decide +kernel
theorem dX2_at_23 : decode cX2_at 23 = .ok (.ireturn, 1) := by decide +kernel
set_option maxRecDepth 20000 in
theorem ggX3_init_X4_init : GoodIn wsX3_init wsX4_init := goodIn_r _ [12, 13, 2, 3, 8, 14, 15, 16, 17, 18, 19, 20, 21, 22, 23, 24, 25, 26, 27, 28, 29, 30] (by decide +kernel) (by decide +kernel)
set_option maxRecDepth 20000 in
theorem gX3_init_X4_init : GoodIn wsX3_init (wsX4_init) := ggX3_init_X4_init
theorem dX3_init_0 : decode cX3_init 0 = .ok (.aload_n 0, 1) := by decide +kernel
theorem dX3_init_1 : decode cX3_init 1 = .ok (.invokespecial 3, 3) := by decide +kernel
theorem dX3_init_4 : decode cX3_init 4 = .ok (.aload_n 0, 1) := by decide +kernel
theorem dX3_init_5 : decode cX3_init 5 = .ok (.new 9, 3) := by decide +kernel
theorem dX3_init_8 : decode cX3_init 8 = .ok (.dup, 1) := by decide +kernel
theorem dX3_init_9 : decode cX3_init 9 = .ok (.invokespecial 11, 3) := by decide +kernel
theorem dX3_init_12 : decode cX3_init 12 = .ok (.putfield 12, 3) := by decide +kernel
theorem dX3_init_15 : decode cX3_init 15 = .ok (.aload_n 0, 1) := by decide +kernel
theorem dX3_init_16 : decode cX3_init 16 = .ok (.iconst 4, 1) := by decide +kernel
theorem dX3_init_17 : decode cX3_init 17 = .ok (.newarray .int, 2) := by decide +kernel
theorem dX3_init_19 : decode cX3_init 19 = .ok (.putfield 18, 3) := by decide +kernel
theorem dX3_init_22 : decode cX3_init 22 = .ok (.return_, 1) := by decide +kernel
set_option maxRecDepth 20000 in
theorem ggX3_whomToSend_X4_become : GoodIn wsX3_whomToSend wsX4_become := goodIn_r _ [8, 9, 10, 11, 12, 13, 14, 15, 16, 17, 18, 19, 20, 21, 22, 72, 73, 74, 75, 76, 77, 78, 79, 80, 81] (by decide +kernel) (by decide +kernel)
set_option maxRecDepth 20000 in
theorem gX3_whomToSend_X4_become : GoodIn wsX3_whomToSend (wsV RX3 22 RX4 yX4_become wsX4_become) := goodIn_app (goodIn_of _ (by decide +kernel)) ggX3_whomToSend_X4_become
set_option maxRecDepth 20000 in
theorem ggX3_whomToSend_X4_passCountingRight : GoodIn wsX3_whomToSend wsX4_passCountingRight := goodIn_r _ [26, 10, 27, 28, 29, 7, 30, 31, 32, 33, 34, 16, 20, 35, 36, 37, 38, 21, 22, 19, 39, 40, 41, 42, 43, 44, 45, 46, 47, 48, 49, 15, 50, 51, 52, 53, 54, 55, 56, 57, 17, 58, 59, 60, 61, 18, 62, 63, 64, 65, 66, 67, 68, 69, 72, 73, 74, 75, 76, 77, 78, 79, 80, 81] (by decide +kernel) (by decide +kernel)
set_option maxRecDepth 20000 in
theorem gX3_whomToSend_X4_passCountingRight : GoodIn wsX3_whomToSend (wsV RX3 26 RX4 yX4_passCountingRight wsX4_passCountingRight) := goodIn_app (goodIn_of _ (by decide +kernel)) ggX3_whomToSend_X4_passCountingRight
theorem dX3_whomToSend_0 : decode cX3_whomToSend 0 = .ok (.aload_n 0, 1) := by decide +kernel
theorem dX3_whomToSend_1 : decode cX3_whomToSend 1 = .ok (.getfield 12, 3) := by decide +kernel
theorem dX3_whomToSend_4 : decode cX3_whomToSend 4 = .ok (.aload_n 1, 1) := by decide +kernel
theorem dX3_whomToSend_5 : decode cX3_whomToSend 5 = .ok (.invokevirtual 22, 3) := by decide +kernel
theorem dX3_whomToSend_8 : decode cX3_whomToSend 8 = .ok (.aload_n 0, 1) := by decide +kernel
theorem dX3_whomToSend_9 : decode cX3_whomToSend 9 = .ok (.getfield 12, 3) := by decide +kernel
theorem dX3_whomToSend_12 : decode cX3_whomToSend 12 = .ok (.iload_n 2, 1) := by decide +kernel
theorem dX3_whomToSend_13 : decode cX3_whomToSend 13 = .ok (.iload_n 2, 1) := by decide +kernel
theorem dX3_whomToSend_14 : decode cX3_whomToSend 14 = .ok (.iconst 1, 1) := by decide +kernel
theorem dX3_whomToSend_15 : decode cX3_whomToSend 15 = .ok (.iadd, 1) := by decide +kernel
theorem dX3_whomToSend_16 : decode cX3_whomToSend 16 = .ok (.iload 4, 2) := by decide +kernel
theorem dX3_whomToSend_18 : decode cX3_whomToSend 18 = .ok (.invokevirtual 26, 3) := by decide +kernel
theorem dX3_whomToSend_21 : decode cX3_whomToSend 21 = .ok (.istore 5, 2) := by decide +kernel
theorem dX3_whomToSend_23 : decode cX3_whomToSend 23 = .ok (.bipush (-9), 2) := by decide +kernel
theorem dX3_whomToSend_25 : decode cX3_whomToSend 25 = .ok (.istore 6, 2) := by decide +kernel
theorem dX3_whomToSend_27 : decode cX3_whomToSend 27 = .ok (.iconst 0, 1) := by decide +kernel
theorem dX3_whomToSend_28 : decode cX3_whomToSend 28 = .ok (.istore 7, 2) := by decide +kernel
theorem dX3_whomToSend_30 : decode cX3_whomToSend 30 = .ok (.iload 7, 2) := by decide +kernel
theorem dX3_whomToSend_32 : decode cX3_whomToSend 32 = .ok (.aload_n 1, 1) := by decide +kernel
theorem dX3_whomToSend_33 : decode cX3_whomToSend 33 = .ok (.getfield 30, 3) := by decide +kernel
theorem dX3_whomToSend_36 : decode cX3_whomToSend 36 = .ok (.if_icmp .ge 58, 3) := by decide +kernel
theorem dX3_whomToSend_39 : decode cX3_whomToSend 39 = .ok (.aload_n 0, 1) := by decide +kernel
theorem dX3_whomToSend_40 : decode cX3_whomToSend 40 = .ok (.getfield 12, 3) := by decide +kernel
theorem dX3_whomToSend_43 : decode cX3_whomToSend 43 = .ok (.aload_n 1, 1) := by decide +kernel
theorem dX3_whomToSend_44 : decode cX3_whomToSend 44 = .ok (.invokevirtual 22, 3) := by decide +kernel
theorem dX3_whomToSend_47 : decode cX3_whomToSend 47 = .ok (.aload_n 0, 1) := by decide +kernel
theorem dX3_whomToSend_48 : decode cX3_whomToSend 48 = .ok (.getfield 12, 3) := by decide +kernel
theorem dX3_whomToSend_51 : decode cX3_whomToSend 51 = .ok (.getfield 34, 3) := by decide +kernel
theorem dX3_whomToSend_54 : decode cX3_whomToSend 54 = .ok (.iload 7, 2) := by decide +kernel
theorem dX3_whomToSend_56 : decode cX3_whomToSend 56 = .ok (.iload_n 3, 1) := by decide +kernel
theorem dX3_whomToSend_57 : decode cX3_whomToSend 57 = .ok (.iastore, 1) := by decide +kernel
theorem dX3_whomToSend_58 : decode cX3_whomToSend 58 = .ok (.aload_n 0, 1) := by decide +kernel
theorem dX3_whomToSend_59 : decode cX3_whomToSend 59 = .ok (.getfield 12, 3) := by decide +kernel
theorem dX3_whomToSend_62 : decode cX3_whomToSend 62 = .ok (.iload_n 2, 1) := by decide +kernel
theorem dX3_whomToSend_63 : decode cX3_whomToSend 63 = .ok (.iload_n 2, 1) := by decide +kernel
theorem dX3_whomToSend_64 : decode cX3_whomToSend 64 = .ok (.iconst 1, 1) := by decide +kernel
theorem dX3_whomToSend_65 : decode cX3_whomToSend 65 = .ok (.iadd, 1) := by decide +kernel
theorem dX3_whomToSend_66 : decode cX3_whomToSend 66 = .ok (.iload 4, 2) := by decide +kernel
theorem dX3_whomToSend_68 : decode cX3_whomToSend 68 = .ok (.invokevirtual 26, 3) := by decide +kernel
theorem dX3_whomToSend_71 : decode cX3_whomToSend 71 = .ok (.istore 8, 2) := by decide +kernel
theorem dX3_whomToSend_73 : decode cX3_whomToSend 73 = .ok (.iload 8, 2) := by decide +kernel
theorem dX3_whomToSend_75 : decode cX3_whomToSend 75 = .ok (.iload 5, 2) := by decide +kernel
theorem dX3_whomToSend_77 : decode cX3_whomToSend 77 = .ok (.if_icmp .le 11, 3) := by decide +kernel
theorem dX3_whomToSend_80 : decode cX3_whomToSend 80 = .ok (.iload 8, 2) := by decide +kernel
theorem dX3_whomToSend_82 : decode cX3_whomToSend 82 = .ok (.istore 5, 2) := by decide +kernel
theorem dX3_whomToSend_84 : decode cX3_whomToSend 84 = .ok (.iload 7, 2) := by decide +kernel
theorem dX3_whomToSend_86 : decode cX3_whomToSend 86 = .ok (.istore 6, 2) := by decide +kernel
theorem dX3_whomToSend_88 : decode cX3_whomToSend 88 = .ok (.iinc 7 1, 3) := by decide +kernel
theorem dX3_whomToSend_91 : decode cX3_whomToSend 91 = .ok (.goto (-61), 3) := by decide +kernel
theorem dX3_whomToSend_94 : decode cX3_whomToSend 94 = .ok (.iload 6, 2) := by decide +kernel
theorem dX3_whomToSend_96 : decode cX3_whomToSend 96 = .ok (.ireturn, 1) := by decide +kernel
set_option maxRecDepth 20000 in
theorem ggX3_bestNights_X4_become : GoodIn wsX3_bestNights wsX4_become := goodIn_r _ [8, 9, 10, 11, 12, 13, 14, 15, 16, 17, 18, 19, 20, 21, 22, 72, 73, 74, 75, 76, 77, 78, 79, 80, 81] (by decide +kernel) (by decide +kernel)
set_option maxRecDepth 20000 in
theorem gX3_bestNights_X4_become : GoodIn wsX3_bestNights (wsV RX3 22 RX4 yX4_become wsX4_become) := goodIn_app (goodIn_of _ (by decide +kernel)) ggX3_bestNights_X4_become
set_option maxRecDepth 20000 in
theorem ggX3_bestNights_X4_passCountingRight : GoodIn wsX3_bestNights wsX4_passCountingRight := goodIn_r _ [26, 10, 27, 28, 29, 7, 30, 31, 32, 33, 34, 16, 20, 35, 36, 37, 38, 21, 22, 19, 39, 40, 41, 42, 43, 44, 45, 46, 47, 48, 49, 15, 50, 51, 52, 53, 54, 55, 56, 57, 17, 58, 59, 60, 61, 18, 62, 63, 64, 65, 66, 67, 68, 69, 72, 73, 74, 75, 76, 77, 78, 79, 80, 81] (by decide +kernel) (by decide +kernel)
set_option maxRecDepth 20000 in
theorem gX3_bestNights_X4_passCountingRight : GoodIn wsX3_bestNights (wsV RX3 26 RX4 yX4_passCountingRight wsX4_passCountingRight) := goodIn_app (goodIn_of _ (by decide +kernel)) ggX3_bestNights_X4_passCountingRight
theorem dX3_bestNights_0 : decode cX3_bestNights 0 = .ok (.aload_n 0, 1) := by decide +kernel
theorem dX3_bestNights_1 : decode cX3_bestNights 1 = .ok (.getfield 12, 3) := by decide +kernel
theorem dX3_bestNights_4 : decode cX3_bestNights 4 = .ok (.aload_n 1, 1) := by decide +kernel
theorem dX3_bestNights_5 : decode cX3_bestNights 5 = .ok (.invokevirtual 22, 3) := by decide +kernel
theorem dX3_bestNights_8 : decode cX3_bestNights 8 = .ok (.aload_n 0, 1) := by decide +kernel
theorem dX3_bestNights_9 : decode cX3_bestNights 9 = .ok (.getfield 12, 3) := by decide +kernel
theorem dX3_bestNights_12 : decode cX3_bestNights 12 = .ok (.iconst 0, 1) := by decide +kernel
theorem dX3_bestNights_13 : decode cX3_bestNights 13 = .ok (.aload_n 1, 1) := by decide +kernel
theorem dX3_bestNights_14 : decode cX3_bestNights 14 = .ok (.getfield 37, 3) := by decide +kernel
theorem dX3_bestNights_17 : decode cX3_bestNights 17 = .ok (.iload_n 3, 1) := by decide +kernel
theorem dX3_bestNights_18 : decode cX3_bestNights 18 = .ok (.invokevirtual 26, 3) := by decide +kernel
theorem dX3_bestNights_21 : decode cX3_bestNights 21 = .ok (.istore 4, 2) := by decide +kernel
theorem dX3_bestNights_23 : decode cX3_bestNights 23 = .ok (.bipush (-9), 2) := by decide +kernel
theorem dX3_bestNights_25 : decode cX3_bestNights 25 = .ok (.istore 5, 2) := by decide +kernel
theorem dX3_bestNights_27 : decode cX3_bestNights 27 = .ok (.iconst 1, 1) := by decide +kernel
theorem dX3_bestNights_28 : decode cX3_bestNights 28 = .ok (.istore 6, 2) := by decide +kernel
theorem dX3_bestNights_30 : decode cX3_bestNights 30 = .ok (.iload 6, 2) := by decide +kernel
theorem dX3_bestNights_32 : decode cX3_bestNights 32 = .ok (.bipush 9, 2) := by decide +kernel
theorem dX3_bestNights_34 : decode cX3_bestNights 34 = .ok (.if_icmp .gt 58, 3) := by decide +kernel
theorem dX3_bestNights_37 : decode cX3_bestNights 37 = .ok (.aload_n 0, 1) := by decide +kernel
theorem dX3_bestNights_38 : decode cX3_bestNights 38 = .ok (.getfield 12, 3) := by decide +kernel
theorem dX3_bestNights_41 : decode cX3_bestNights 41 = .ok (.aload_n 1, 1) := by decide +kernel
theorem dX3_bestNights_42 : decode cX3_bestNights 42 = .ok (.invokevirtual 22, 3) := by decide +kernel
theorem dX3_bestNights_45 : decode cX3_bestNights 45 = .ok (.aload_n 0, 1) := by decide +kernel
theorem dX3_bestNights_46 : decode cX3_bestNights 46 = .ok (.getfield 12, 3) := by decide +kernel
theorem dX3_bestNights_49 : decode cX3_bestNights 49 = .ok (.getfield 34, 3) := by decide +kernel
theorem dX3_bestNights_52 : decode cX3_bestNights 52 = .ok (.iload_n 2, 1) := by decide +kernel
theorem dX3_bestNights_53 : decode cX3_bestNights 53 = .ok (.iload 6, 2) := by decide +kernel
theorem dX3_bestNights_55 : decode cX3_bestNights 55 = .ok (.iastore, 1) := by decide +kernel
theorem dX3_bestNights_56 : decode cX3_bestNights 56 = .ok (.aload_n 0, 1) := by decide +kernel
theorem dX3_bestNights_57 : decode cX3_bestNights 57 = .ok (.getfield 12, 3) := by decide +kernel
theorem dX3_bestNights_60 : decode cX3_bestNights 60 = .ok (.iconst 0, 1) := by decide +kernel
theorem dX3_bestNights_61 : decode cX3_bestNights 61 = .ok (.aload_n 1, 1) := by decide +kernel
theorem dX3_bestNights_62 : decode cX3_bestNights 62 = .ok (.getfield 37, 3) := by decide +kernel
theorem dX3_bestNights_65 : decode cX3_bestNights 65 = .ok (.iload_n 3, 1) := by decide +kernel
theorem dX3_bestNights_66 : decode cX3_bestNights 66 = .ok (.invokevirtual 26, 3) := by decide +kernel
theorem dX3_bestNights_69 : decode cX3_bestNights 69 = .ok (.istore 7, 2) := by decide +kernel
theorem dX3_bestNights_71 : decode cX3_bestNights 71 = .ok (.iload 7, 2) := by decide +kernel
theorem dX3_bestNights_73 : decode cX3_bestNights 73 = .ok (.iload 4, 2) := by decide +kernel
theorem dX3_bestNights_75 : decode cX3_bestNights 75 = .ok (.if_icmp .le 11, 3) := by decide +kernel
theorem dX3_bestNights_78 : decode cX3_bestNights 78 = .ok (.iload 7, 2) := by decide +kernel
theorem dX3_bestNights_80 : decode cX3_bestNights 80 = .ok (.istore 4, 2) := by decide +kernel
theorem dX3_bestNights_82 : decode cX3_bestNights 82 = .ok (.iload 6, 2) := by decide +kernel
theorem dX3_bestNights_84 : decode cX3_bestNights 84 = .ok (.istore 5, 2) := by decide +kernel
theorem dX3_bestNights_86 : decode cX3_bestNights 86 = .ok (.iinc 6 1, 3) := by decide +kernel
theorem dX3_bestNights_89 : decode cX3_bestNights 89 = .ok (.goto (-59), 3) := by decide +kernel
theorem dX3_bestNights_92 : decode cX3_bestNights 92 = .ok (.iload 5, 2) := by decide +kernel
theorem dX3_bestNights_94 : decode cX3_bestNights 94 = .ok (.ireturn, 1) := by decide +kernel
set_option maxRecDepth 20000 in
theorem ggX3_fewestToSend_J6_bitCount_0f7a4 : GoodIn wsX3_fewestToSend wsJ6_bitCount_0f7a4 := goodIn_r _ [5, 6, 7, 8] (by decide +kernel) (by decide +kernel)
set_option maxRecDepth 20000 in
theorem gX3_fewestToSend_J6_bitCount_0f7a4 : GoodIn wsX3_fewestToSend (va_wsS RX3 40 yJ6_bitCount_0f7a4 wsJ6_bitCount_0f7a4) := goodIn_app (goodIn_of _ (by decide +kernel)) ggX3_fewestToSend_J6_bitCount_0f7a4
set_option maxRecDepth 20000 in
theorem ggX3_fewestToSend_X3_isAllHeardWithout : GoodIn wsX3_fewestToSend wsX3_isAllHeardWithout := goodIn_r _ [13, 14, 1, 15, 16, 17, 18, 19, 20, 21, 22, 23, 24, 25, 26, 27, 28, 29, 30, 31, 32, 33, 34, 35, 36, 37, 38, 39, 40, 41, 42, 43, 44, 45, 46, 47, 48, 49, 50, 51, 52, 53, 54, 55, 56, 57, 58, 59, 60, 61, 62, 63, 64, 65, 66, 67, 68, 69, 80, 81, 70, 71, 72, 73, 74, 75, 76, 77, 78, 79] (by decide +kernel) (by decide +kernel)
set_option maxRecDepth 20000 in
theorem gX3_fewestToSend_X3_isAllHeardWithout : GoodIn wsX3_fewestToSend (wsV RX3 46 RX3 yX3_isAllHeardWithout wsX3_isAllHeardWithout) := goodIn_app (goodIn_of _ (by decide +kernel)) ggX3_fewestToSend_X3_isAllHeardWithout
theorem dX3_fewestToSend_0 : decode cX3_fewestToSend 0 = .ok (.bipush (-9), 2) := by decide +kernel
theorem dX3_fewestToSend_2 : decode cX3_fewestToSend 2 = .ok (.istore_n 3, 1) := by decide +kernel
theorem dX3_fewestToSend_3 : decode cX3_fewestToSend 3 = .ok (.bipush 9, 2) := by decide +kernel
theorem dX3_fewestToSend_5 : decode cX3_fewestToSend 5 = .ok (.istore 4, 2) := by decide +kernel
theorem dX3_fewestToSend_7 : decode cX3_fewestToSend 7 = .ok (.iconst 0, 1) := by decide +kernel
theorem dX3_fewestToSend_8 : decode cX3_fewestToSend 8 = .ok (.istore 5, 2) := by decide +kernel
theorem dX3_fewestToSend_10 : decode cX3_fewestToSend 10 = .ok (.iload 5, 2) := by decide +kernel
theorem dX3_fewestToSend_12 : decode cX3_fewestToSend 12 = .ok (.iconst 1, 1) := by decide +kernel
theorem dX3_fewestToSend_13 : decode cX3_fewestToSend 13 = .ok (.aload_n 1, 1) := by decide +kernel
theorem dX3_fewestToSend_14 : decode cX3_fewestToSend 14 = .ok (.getfield 30, 3) := by decide +kernel
theorem dX3_fewestToSend_17 : decode cX3_fewestToSend 17 = .ok (.ishl, 1) := by decide +kernel
theorem dX3_fewestToSend_18 : decode cX3_fewestToSend 18 = .ok (.if_icmp .ge 40, 3) := by decide +kernel
theorem dX3_fewestToSend_21 : decode cX3_fewestToSend 21 = .ok (.iload 5, 2) := by decide +kernel
theorem dX3_fewestToSend_23 : decode cX3_fewestToSend 23 = .ok (.invokestatic 40, 3) := by decide +kernel
theorem dX3_fewestToSend_26 : decode cX3_fewestToSend 26 = .ok (.iload 4, 2) := by decide +kernel
theorem dX3_fewestToSend_28 : decode cX3_fewestToSend 28 = .ok (.if_icmp .ge 24, 3) := by decide +kernel
theorem dX3_fewestToSend_31 : decode cX3_fewestToSend 31 = .ok (.aload_n 0, 1) := by decide +kernel
theorem dX3_fewestToSend_32 : decode cX3_fewestToSend 32 = .ok (.aload_n 1, 1) := by decide +kernel
theorem dX3_fewestToSend_33 : decode cX3_fewestToSend 33 = .ok (.iload 5, 2) := by decide +kernel
theorem dX3_fewestToSend_35 : decode cX3_fewestToSend 35 = .ok (.iload_n 2, 1) := by decide +kernel
theorem dX3_fewestToSend_36 : decode cX3_fewestToSend 36 = .ok (.invokevirtual 46, 3) := by decide +kernel
theorem dX3_fewestToSend_39 : decode cX3_fewestToSend 39 = .ok (.ifCond .eq 13, 3) := by decide +kernel
theorem dX3_fewestToSend_42 : decode cX3_fewestToSend 42 = .ok (.iload 5, 2) := by decide +kernel
theorem dX3_fewestToSend_44 : decode cX3_fewestToSend 44 = .ok (.invokestatic 40, 3) := by decide +kernel
theorem dX3_fewestToSend_47 : decode cX3_fewestToSend 47 = .ok (.istore 4, 2) := by decide +kernel
theorem dX3_fewestToSend_49 : decode cX3_fewestToSend 49 = .ok (.iload 5, 2) := by decide +kernel
theorem dX3_fewestToSend_51 : decode cX3_fewestToSend 51 = .ok (.istore_n 3, 1) := by decide +kernel
theorem dX3_fewestToSend_52 : decode cX3_fewestToSend 52 = .ok (.iinc 5 1, 3) := by decide +kernel
theorem dX3_fewestToSend_55 : decode cX3_fewestToSend 55 = .ok (.goto (-45), 3) := by decide +kernel
theorem dX3_fewestToSend_58 : decode cX3_fewestToSend 58 = .ok (.iload_n 3, 1) := by decide +kernel
theorem dX3_fewestToSend_59 : decode cX3_fewestToSend 59 = .ok (.ireturn, 1) := by decide +kernel
set_option maxRecDepth 20000 in
theorem ggX3_isAllHeardWithout_X4_become : GoodIn wsX3_isAllHeardWithout wsX4_become := goodIn_r _ [8, 9, 10, 11, 12, 13, 14, 15, 16, 17, 18, 19, 20, 21, 22, 60, 61, 62, 63, 64, 65, 66, 67, 68, 69] (by decide +kernel) (by decide +kernel)
set_option maxRecDepth 20000 in
theorem gX3_isAllHeardWithout_X4_become : GoodIn wsX3_isAllHeardWithout (wsV RX3 22 RX4 yX4_become wsX4_become) := goodIn_app (goodIn_of _ (by decide +kernel)) ggX3_isAllHeardWithout_X4_become
set_option maxRecDepth 20000 in
theorem ggX3_isAllHeardWithout_X4_pass : GoodIn wsX3_isAllHeardWithout wsX4_pass := goodIn_r _ [26, 27, 28, 29, 7, 30, 16, 20, 31, 32, 33, 34, 21, 22, 19, 35, 36, 37, 38, 39, 40, 41, 60, 61, 62, 63, 64, 65, 66, 67, 68, 69] (by decide +kernel) (by decide +kernel)
set_option maxRecDepth 20000 in
theorem gX3_isAllHeardWithout_X4_pass : GoodIn wsX3_isAllHeardWithout (wsV RX3 50 RX4 yX4_pass wsX4_pass) := goodIn_app (goodIn_of _ (by decide +kernel)) ggX3_isAllHeardWithout_X4_pass
set_option maxRecDepth 20000 in
theorem ggX3_isAllHeardWithout_X4_silentBells : GoodIn wsX3_isAllHeardWithout wsX4_silentBells := goodIn_r _ [45, 9, 46, 47, 48, 7, 49, 16, 50, 51, 52, 53, 20, 19, 17, 10, 54, 55, 56, 57, 18, 60, 61, 62, 63, 64, 65, 66, 67, 68, 69] (by decide +kernel) (by decide +kernel)
set_option maxRecDepth 20000 in
theorem gX3_isAllHeardWithout_X4_silentBells : GoodIn wsX3_isAllHeardWithout (wsV RX3 54 RX4 yX4_silentBells wsX4_silentBells) := goodIn_app (goodIn_of _ (by decide +kernel)) ggX3_isAllHeardWithout_X4_silentBells
theorem dX3_isAllHeardWithout_0 : decode cX3_isAllHeardWithout 0 = .ok (.aload_n 0, 1) := by decide +kernel
theorem dX3_isAllHeardWithout_1 : decode cX3_isAllHeardWithout 1 = .ok (.getfield 12, 3) := by decide +kernel
theorem dX3_isAllHeardWithout_4 : decode cX3_isAllHeardWithout 4 = .ok (.aload_n 1, 1) := by decide +kernel
theorem dX3_isAllHeardWithout_5 : decode cX3_isAllHeardWithout 5 = .ok (.invokevirtual 22, 3) := by decide +kernel
theorem dX3_isAllHeardWithout_8 : decode cX3_isAllHeardWithout 8 = .ok (.iconst 0, 1) := by decide +kernel
theorem dX3_isAllHeardWithout_9 : decode cX3_isAllHeardWithout 9 = .ok (.istore 4, 2) := by decide +kernel
theorem dX3_isAllHeardWithout_11 : decode cX3_isAllHeardWithout 11 = .ok (.iload 4, 2) := by decide +kernel
theorem dX3_isAllHeardWithout_13 : decode cX3_isAllHeardWithout 13 = .ok (.aload_n 1, 1) := by decide +kernel
theorem dX3_isAllHeardWithout_14 : decode cX3_isAllHeardWithout 14 = .ok (.getfield 30, 3) := by decide +kernel
theorem dX3_isAllHeardWithout_17 : decode cX3_isAllHeardWithout 17 = .ok (.if_icmp .ge 29, 3) := by decide +kernel
theorem dX3_isAllHeardWithout_20 : decode cX3_isAllHeardWithout 20 = .ok (.iload_n 2, 1) := by decide +kernel
theorem dX3_isAllHeardWithout_21 : decode cX3_isAllHeardWithout 21 = .ok (.iload 4, 2) := by decide +kernel
theorem dX3_isAllHeardWithout_23 : decode cX3_isAllHeardWithout 23 = .ok (.ishr, 1) := by decide +kernel
theorem dX3_isAllHeardWithout_24 : decode cX3_isAllHeardWithout 24 = .ok (.iconst 1, 1) := by decide +kernel
theorem dX3_isAllHeardWithout_25 : decode cX3_isAllHeardWithout 25 = .ok (.iand, 1) := by decide +kernel
theorem dX3_isAllHeardWithout_26 : decode cX3_isAllHeardWithout 26 = .ok (.ifCond .eq 14, 3) := by decide +kernel
theorem dX3_isAllHeardWithout_29 : decode cX3_isAllHeardWithout 29 = .ok (.aload_n 0, 1) := by decide +kernel
theorem dX3_isAllHeardWithout_30 : decode cX3_isAllHeardWithout 30 = .ok (.getfield 12, 3) := by decide +kernel
theorem dX3_isAllHeardWithout_33 : decode cX3_isAllHeardWithout 33 = .ok (.getfield 34, 3) := by decide +kernel
theorem dX3_isAllHeardWithout_36 : decode cX3_isAllHeardWithout 36 = .ok (.iload 4, 2) := by decide +kernel
theorem dX3_isAllHeardWithout_38 : decode cX3_isAllHeardWithout 38 = .ok (.iconst 5, 1) := by decide +kernel
theorem dX3_isAllHeardWithout_39 : decode cX3_isAllHeardWithout 39 = .ok (.iastore, 1) := by decide +kernel
theorem dX3_isAllHeardWithout_40 : decode cX3_isAllHeardWithout 40 = .ok (.iinc 4 1, 3) := by decide +kernel
theorem dX3_isAllHeardWithout_43 : decode cX3_isAllHeardWithout 43 = .ok (.goto (-32), 3) := by decide +kernel
theorem dX3_isAllHeardWithout_46 : decode cX3_isAllHeardWithout 46 = .ok (.aload_n 0, 1) := by decide +kernel
theorem dX3_isAllHeardWithout_47 : decode cX3_isAllHeardWithout 47 = .ok (.getfield 12, 3) := by decide +kernel
theorem dX3_isAllHeardWithout_50 : decode cX3_isAllHeardWithout 50 = .ok (.iload_n 3, 1) := by decide +kernel
theorem dX3_isAllHeardWithout_51 : decode cX3_isAllHeardWithout 51 = .ok (.invokevirtual 50, 3) := by decide +kernel
theorem dX3_isAllHeardWithout_54 : decode cX3_isAllHeardWithout 54 = .ok (.aload_n 0, 1) := by decide +kernel
theorem dX3_isAllHeardWithout_55 : decode cX3_isAllHeardWithout 55 = .ok (.getfield 12, 3) := by decide +kernel
theorem dX3_isAllHeardWithout_58 : decode cX3_isAllHeardWithout 58 = .ok (.invokevirtual 54, 3) := by decide +kernel
theorem dX3_isAllHeardWithout_61 : decode cX3_isAllHeardWithout 61 = .ok (.ifCond .ne 7, 3) := by decide +kernel
theorem dX3_isAllHeardWithout_64 : decode cX3_isAllHeardWithout 64 = .ok (.iconst 1, 1) := by decide +kernel
theorem dX3_isAllHeardWithout_65 : decode cX3_isAllHeardWithout 65 = .ok (.goto 4, 3) := by decide +kernel
theorem dX3_isAllHeardWithout_68 : decode cX3_isAllHeardWithout 68 = .ok (.iconst 0, 1) := by decide +kernel
theorem dX3_isAllHeardWithout_69 : decode cX3_isAllHeardWithout 69 = .ok (.ireturn, 1) := by decide +kernel
set_option maxRecDepth 20000 in
theorem ggX3_fewestBeds_X4_become : GoodIn wsX3_fewestBeds wsX4_become := goodIn_r _ [7, 8, 9, 10, 11, 12, 13, 14, 15, 16, 17, 18, 19, 20, 21, 59, 60, 61, 62, 63, 64, 65, 66, 67, 68] (by decide +kernel) (by decide +kernel)
set_option maxRecDepth 20000 in
theorem gX3_fewestBeds_X4_become : GoodIn wsX3_fewestBeds (wsV RX3 22 RX4 yX4_become wsX4_become) := goodIn_app (goodIn_of _ (by decide +kernel)) ggX3_fewestBeds_X4_become
set_option maxRecDepth 20000 in
theorem ggX3_fewestBeds_X4_pass : GoodIn wsX3_fewestBeds wsX4_pass := goodIn_r _ [25, 26, 27, 28, 6, 29, 15, 19, 30, 31, 32, 33, 20, 21, 18, 34, 35, 36, 37, 38, 39, 40, 59, 60, 61, 62, 63, 64, 65, 66, 67, 68] (by decide +kernel) (by decide +kernel)
set_option maxRecDepth 20000 in
theorem gX3_fewestBeds_X4_pass : GoodIn wsX3_fewestBeds (wsV RX3 50 RX4 yX4_pass wsX4_pass) := goodIn_app (goodIn_of _ (by decide +kernel)) ggX3_fewestBeds_X4_pass
set_option maxRecDepth 20000 in
theorem ggX3_fewestBeds_X4_silentBells : GoodIn wsX3_fewestBeds wsX4_silentBells := goodIn_r _ [44, 8, 45, 46, 47, 6, 48, 15, 49, 50, 51, 52, 19, 18, 16, 9, 53, 54, 55, 56, 17, 59, 60, 61, 62, 63, 64, 65, 66, 67, 68] (by decide +kernel) (by decide +kernel)
set_option maxRecDepth 20000 in
theorem gX3_fewestBeds_X4_silentBells : GoodIn wsX3_fewestBeds (wsV RX3 54 RX4 yX4_silentBells wsX4_silentBells) := goodIn_app (goodIn_of _ (by decide +kernel)) ggX3_fewestBeds_X4_silentBells
theorem dX3_fewestBeds_0 : decode cX3_fewestBeds 0 = .ok (.iconst 1, 1) := by decide +kernel
theorem dX3_fewestBeds_1 : decode cX3_fewestBeds 1 = .ok (.istore_n 3, 1) := by decide +kernel
theorem dX3_fewestBeds_2 : decode cX3_fewestBeds 2 = .ok (.iload_n 3, 1) := by decide +kernel
theorem dX3_fewestBeds_3 : decode cX3_fewestBeds 3 = .ok (.bipush 8, 2) := by decide +kernel
theorem dX3_fewestBeds_5 : decode cX3_fewestBeds 5 = .ok (.if_icmp .gt 45, 3) := by decide +kernel
theorem dX3_fewestBeds_8 : decode cX3_fewestBeds 8 = .ok (.aload_n 0, 1) := by decide +kernel
theorem dX3_fewestBeds_9 : decode cX3_fewestBeds 9 = .ok (.getfield 12, 3) := by decide +kernel
theorem dX3_fewestBeds_12 : decode cX3_fewestBeds 12 = .ok (.aload_n 1, 1) := by decide +kernel
theorem dX3_fewestBeds_13 : decode cX3_fewestBeds 13 = .ok (.invokevirtual 22, 3) := by decide +kernel
theorem dX3_fewestBeds_16 : decode cX3_fewestBeds 16 = .ok (.aload_n 0, 1) := by decide +kernel
theorem dX3_fewestBeds_17 : decode cX3_fewestBeds 17 = .ok (.getfield 12, 3) := by decide +kernel
theorem dX3_fewestBeds_20 : decode cX3_fewestBeds 20 = .ok (.iload_n 3, 1) := by decide +kernel
theorem dX3_fewestBeds_21 : decode cX3_fewestBeds 21 = .ok (.putfield 58, 3) := by decide +kernel
theorem dX3_fewestBeds_24 : decode cX3_fewestBeds 24 = .ok (.aload_n 0, 1) := by decide +kernel
theorem dX3_fewestBeds_25 : decode cX3_fewestBeds 25 = .ok (.getfield 12, 3) := by decide +kernel
theorem dX3_fewestBeds_28 : decode cX3_fewestBeds 28 = .ok (.iload_n 2, 1) := by decide +kernel
theorem dX3_fewestBeds_29 : decode cX3_fewestBeds 29 = .ok (.invokevirtual 50, 3) := by decide +kernel
theorem dX3_fewestBeds_32 : decode cX3_fewestBeds 32 = .ok (.aload_n 0, 1) := by decide +kernel
theorem dX3_fewestBeds_33 : decode cX3_fewestBeds 33 = .ok (.getfield 12, 3) := by decide +kernel
theorem dX3_fewestBeds_36 : decode cX3_fewestBeds 36 = .ok (.invokevirtual 54, 3) := by decide +kernel
theorem dX3_fewestBeds_39 : decode cX3_fewestBeds 39 = .ok (.ifCond .ne 5, 3) := by decide +kernel
theorem dX3_fewestBeds_42 : decode cX3_fewestBeds 42 = .ok (.iload_n 3, 1) := by decide +kernel
theorem dX3_fewestBeds_43 : decode cX3_fewestBeds 43 = .ok (.ireturn, 1) := by decide +kernel
theorem dX3_fewestBeds_44 : decode cX3_fewestBeds 44 = .ok (.iinc 3 1, 3) := by decide +kernel
theorem dX3_fewestBeds_47 : decode cX3_fewestBeds 47 = .ok (.goto (-45), 3) := by decide +kernel
theorem dX3_fewestBeds_50 : decode cX3_fewestBeds 50 = .ok (.bipush (-9), 2) := by decide +kernel
theorem dX3_fewestBeds_52 : decode cX3_fewestBeds 52 = .ok (.ireturn, 1) := by decide +kernel
set_option maxRecDepth 20000 in
theorem ggX3_daysUnheardBySending_X4_become : GoodIn wsX3_daysUnheardBySending wsX4_become := goodIn_r _ [7, 8, 9, 10, 11, 12, 13, 14, 15, 16, 17, 18, 19, 20, 21, 56, 57, 58, 59, 60, 61, 62, 63, 64, 65] (by decide +kernel) (by decide +kernel)
set_option maxRecDepth 20000 in
theorem gX3_daysUnheardBySending_X4_become : GoodIn wsX3_daysUnheardBySending (wsV RX3 22 RX4 yX4_become wsX4_become) := goodIn_app (goodIn_of _ (by decide +kernel)) ggX3_daysUnheardBySending_X4_become
set_option maxRecDepth 20000 in
theorem ggX3_daysUnheardBySending_X3_daysHeard : GoodIn wsX3_daysUnheardBySending wsX3_daysHeard := goodIn_r _ [26, 1, 27, 28, 29, 6, 30, 31, 32, 33, 34, 15, 19, 35, 36, 37, 38, 20, 21, 18, 39, 40, 41, 42, 43, 44, 45, 46, 47, 48, 49, 16, 9, 50, 51, 52, 53, 17, 54, 55, 56, 57, 58, 59, 60, 61, 62, 63, 64, 65] (by decide +kernel) (by decide +kernel)
set_option maxRecDepth 20000 in
theorem gX3_daysUnheardBySending_X3_daysHeard : GoodIn wsX3_daysUnheardBySending (wsV RX3 61 RX3 yX3_daysHeard wsX3_daysHeard) := goodIn_app (goodIn_of _ (by decide +kernel)) ggX3_daysUnheardBySending_X3_daysHeard
theorem dX3_daysUnheardBySending_0 : decode cX3_daysUnheardBySending 0 = .ok (.aload_n 0, 1) := by decide +kernel
theorem dX3_daysUnheardBySending_1 : decode cX3_daysUnheardBySending 1 = .ok (.getfield 12, 3) := by decide +kernel
theorem dX3_daysUnheardBySending_4 : decode cX3_daysUnheardBySending 4 = .ok (.aload_n 1, 1) := by decide +kernel
theorem dX3_daysUnheardBySending_5 : decode cX3_daysUnheardBySending 5 = .ok (.invokevirtual 22, 3) := by decide +kernel
theorem dX3_daysUnheardBySending_8 : decode cX3_daysUnheardBySending 8 = .ok (.aload_n 0, 1) := by decide +kernel
theorem dX3_daysUnheardBySending_9 : decode cX3_daysUnheardBySending 9 = .ok (.iload_n 2, 1) := by decide +kernel
theorem dX3_daysUnheardBySending_10 : decode cX3_daysUnheardBySending 10 = .ok (.iload 4, 2) := by decide +kernel
theorem dX3_daysUnheardBySending_12 : decode cX3_daysUnheardBySending 12 = .ok (.invokevirtual 61, 3) := by decide +kernel
theorem dX3_daysUnheardBySending_15 : decode cX3_daysUnheardBySending 15 = .ok (.istore 5, 2) := by decide +kernel
theorem dX3_daysUnheardBySending_17 : decode cX3_daysUnheardBySending 17 = .ok (.aload_n 0, 1) := by decide +kernel
theorem dX3_daysUnheardBySending_18 : decode cX3_daysUnheardBySending 18 = .ok (.getfield 12, 3) := by decide +kernel
theorem dX3_daysUnheardBySending_21 : decode cX3_daysUnheardBySending 21 = .ok (.aload_n 1, 1) := by decide +kernel
theorem dX3_daysUnheardBySending_22 : decode cX3_daysUnheardBySending 22 = .ok (.invokevirtual 22, 3) := by decide +kernel
theorem dX3_daysUnheardBySending_25 : decode cX3_daysUnheardBySending 25 = .ok (.aload_n 0, 1) := by decide +kernel
theorem dX3_daysUnheardBySending_26 : decode cX3_daysUnheardBySending 26 = .ok (.getfield 12, 3) := by decide +kernel
theorem dX3_daysUnheardBySending_29 : decode cX3_daysUnheardBySending 29 = .ok (.getfield 34, 3) := by decide +kernel
theorem dX3_daysUnheardBySending_32 : decode cX3_daysUnheardBySending 32 = .ok (.iload_n 2, 1) := by decide +kernel
theorem dX3_daysUnheardBySending_33 : decode cX3_daysUnheardBySending 33 = .ok (.iload_n 3, 1) := by decide +kernel
theorem dX3_daysUnheardBySending_34 : decode cX3_daysUnheardBySending 34 = .ok (.iastore, 1) := by decide +kernel
theorem dX3_daysUnheardBySending_35 : decode cX3_daysUnheardBySending 35 = .ok (.iload 5, 2) := by decide +kernel
theorem dX3_daysUnheardBySending_37 : decode cX3_daysUnheardBySending 37 = .ok (.aload_n 0, 1) := by decide +kernel
theorem dX3_daysUnheardBySending_38 : decode cX3_daysUnheardBySending 38 = .ok (.iload_n 2, 1) := by decide +kernel
theorem dX3_daysUnheardBySending_39 : decode cX3_daysUnheardBySending 39 = .ok (.iload 4, 2) := by decide +kernel
theorem dX3_daysUnheardBySending_41 : decode cX3_daysUnheardBySending 41 = .ok (.invokevirtual 61, 3) := by decide +kernel
theorem dX3_daysUnheardBySending_44 : decode cX3_daysUnheardBySending 44 = .ok (.isub, 1) := by decide +kernel
theorem dX3_daysUnheardBySending_45 : decode cX3_daysUnheardBySending 45 = .ok (.ireturn, 1) := by decide +kernel
set_option maxRecDepth 20000 in
theorem ggX3_daysHeard_X4_pass : GoodIn wsX3_daysHeard wsX4_pass := goodIn_r _ [6, 7, 8, 9, 5, 10, 11, 12, 13, 14, 15, 16, 17, 18, 19, 20, 21, 22, 23, 24, 25, 26, 40, 41, 42, 43, 44, 45, 46, 47, 48, 49] (by decide +kernel) (by decide +kernel)
set_option maxRecDepth 20000 in
theorem gX3_daysHeard_X4_pass : GoodIn wsX3_daysHeard (wsV RX3 50 RX4 yX4_pass wsX4_pass) := goodIn_app (goodIn_of _ (by decide +kernel)) ggX3_daysHeard_X4_pass
set_option maxRecDepth 20000 in
theorem ggX3_daysHeard_X4_hearsIt : GoodIn wsX3_daysHeard wsX4_hearsIt := goodIn_r _ [30, 12, 19, 31, 32, 33, 34, 35, 5, 36, 37, 40, 41, 42, 43, 44, 45, 46, 47, 48, 49] (by decide +kernel) (by decide +kernel)
set_option maxRecDepth 20000 in
theorem gX3_daysHeard_X4_hearsIt : GoodIn wsX3_daysHeard (wsV RX3 65 RX4 yX4_hearsIt wsX4_hearsIt) := goodIn_app (goodIn_of _ (by decide +kernel)) ggX3_daysHeard_X4_hearsIt
theorem dX3_daysHeard_0 : decode cX3_daysHeard 0 = .ok (.iconst 0, 1) := by decide +kernel
theorem dX3_daysHeard_1 : decode cX3_daysHeard 1 = .ok (.istore_n 3, 1) := by decide +kernel
theorem dX3_daysHeard_2 : decode cX3_daysHeard 2 = .ok (.iconst 1, 1) := by decide +kernel
theorem dX3_daysHeard_3 : decode cX3_daysHeard 3 = .ok (.istore 4, 2) := by decide +kernel
theorem dX3_daysHeard_5 : decode cX3_daysHeard 5 = .ok (.iload 4, 2) := by decide +kernel
theorem dX3_daysHeard_7 : decode cX3_daysHeard 7 = .ok (.bipush 20, 2) := by decide +kernel
theorem dX3_daysHeard_9 : decode cX3_daysHeard 9 = .ok (.if_icmp .gt 32, 3) := by decide +kernel
theorem dX3_daysHeard_12 : decode cX3_daysHeard 12 = .ok (.aload_n 0, 1) := by decide +kernel
theorem dX3_daysHeard_13 : decode cX3_daysHeard 13 = .ok (.getfield 12, 3) := by decide +kernel
theorem dX3_daysHeard_16 : decode cX3_daysHeard 16 = .ok (.iconst 1, 1) := by decide +kernel
theorem dX3_daysHeard_17 : decode cX3_daysHeard 17 = .ok (.invokevirtual 50, 3) := by decide +kernel
theorem dX3_daysHeard_20 : decode cX3_daysHeard 20 = .ok (.aload_n 0, 1) := by decide +kernel
theorem dX3_daysHeard_21 : decode cX3_daysHeard 21 = .ok (.getfield 12, 3) := by decide +kernel
theorem dX3_daysHeard_24 : decode cX3_daysHeard 24 = .ok (.iload_n 1, 1) := by decide +kernel
theorem dX3_daysHeard_25 : decode cX3_daysHeard 25 = .ok (.iload_n 2, 1) := by decide +kernel
theorem dX3_daysHeard_26 : decode cX3_daysHeard 26 = .ok (.invokevirtual 65, 3) := by decide +kernel
theorem dX3_daysHeard_29 : decode cX3_daysHeard 29 = .ok (.ifCond .eq 6, 3) := by decide +kernel
theorem dX3_daysHeard_32 : decode cX3_daysHeard 32 = .ok (.iinc 3 1, 3) := by decide +kernel
theorem dX3_daysHeard_35 : decode cX3_daysHeard 35 = .ok (.iinc 4 1, 3) := by decide +kernel
theorem dX3_daysHeard_38 : decode cX3_daysHeard 38 = .ok (.goto (-33), 3) := by decide +kernel
theorem dX3_daysHeard_41 : decode cX3_daysHeard 41 = .ok (.iload_n 3, 1) := by decide +kernel
theorem dX3_daysHeard_42 : decode cX3_daysHeard 42 = .ok (.ireturn, 1) := by decide +kernel
set_option maxRecDepth 20000 in
theorem ggX3_settledPair_X4_become : GoodIn wsX3_settledPair wsX4_become := goodIn_r _ [8, 9, 10, 11, 12, 13, 14, 15, 16, 17, 18, 19, 20, 21, 22, 76, 77, 78, 79, 80, 81, 82, 83, 84, 85] (by decide +kernel) (by decide +kernel)
set_option maxRecDepth 20000 in
theorem gX3_settledPair_X4_become : GoodIn wsX3_settledPair (wsV RX3 22 RX4 yX4_become wsX4_become) := goodIn_app (goodIn_of _ (by decide +kernel)) ggX3_settledPair_X4_become
set_option maxRecDepth 20000 in
theorem ggX3_settledPair_X4_makeKind : GoodIn wsX3_settledPair wsX4_makeKind := goodIn_r _ [26, 17, 18, 76, 77, 78, 79, 80, 81, 82, 83, 84, 85] (by decide +kernel) (by decide +kernel)
set_option maxRecDepth 20000 in
theorem gX3_settledPair_X4_makeKind : GoodIn wsX3_settledPair (wsV RX3 69 RX4 yX4_makeKind wsX4_makeKind) := goodIn_app (goodIn_of _ (by decide +kernel)) ggX3_settledPair_X4_makeKind
set_option maxRecDepth 20000 in
theorem ggX3_settledPair_X4_passCountingRight : GoodIn wsX3_settledPair wsX4_passCountingRight := goodIn_r _ [30, 10, 31, 32, 33, 7, 34, 35, 36, 37, 38, 16, 20, 39, 40, 41, 42, 21, 22, 19, 43, 44, 45, 46, 47, 48, 49, 50, 51, 52, 53, 15, 54, 55, 56, 57, 58, 59, 60, 61, 17, 62, 63, 64, 65, 18, 66, 67, 68, 69, 70, 71, 72, 73, 76, 77, 78, 79, 80, 81, 82, 83, 84, 85] (by decide +kernel) (by decide +kernel)
set_option maxRecDepth 20000 in
theorem gX3_settledPair_X4_passCountingRight : GoodIn wsX3_settledPair (wsV RX3 26 RX4 yX4_passCountingRight wsX4_passCountingRight) := goodIn_app (goodIn_of _ (by decide +kernel)) ggX3_settledPair_X4_passCountingRight
theorem dX3_settledPair_0 : decode cX3_settledPair 0 = .ok (.iconst 0, 1) := by decide +kernel
theorem dX3_settledPair_1 : decode cX3_settledPair 1 = .ok (.istore 5, 2) := by decide +kernel
theorem dX3_settledPair_3 : decode cX3_settledPair 3 = .ok (.iload 5, 2) := by decide +kernel
theorem dX3_settledPair_5 : decode cX3_settledPair 5 = .ok (.iconst 4, 1) := by decide +kernel
theorem dX3_settledPair_6 : decode cX3_settledPair 6 = .ok (.if_icmp .ge 72, 3) := by decide +kernel
theorem dX3_settledPair_9 : decode cX3_settledPair 9 = .ok (.aload_n 0, 1) := by decide +kernel
theorem dX3_settledPair_10 : decode cX3_settledPair 10 = .ok (.getfield 12, 3) := by decide +kernel
theorem dX3_settledPair_13 : decode cX3_settledPair 13 = .ok (.aload_n 1, 1) := by decide +kernel
theorem dX3_settledPair_14 : decode cX3_settledPair 14 = .ok (.invokevirtual 22, 3) := by decide +kernel
theorem dX3_settledPair_17 : decode cX3_settledPair 17 = .ok (.iload 5, 2) := by decide +kernel
theorem dX3_settledPair_19 : decode cX3_settledPair 19 = .ok (.iconst 2, 1) := by decide +kernel
theorem dX3_settledPair_20 : decode cX3_settledPair 20 = .ok (.if_icmp .lt 13, 3) := by decide +kernel
theorem dX3_settledPair_23 : decode cX3_settledPair 23 = .ok (.aload_n 0, 1) := by decide +kernel
theorem dX3_settledPair_24 : decode cX3_settledPair 24 = .ok (.getfield 12, 3) := by decide +kernel
theorem dX3_settledPair_27 : decode cX3_settledPair 27 = .ok (.iload_n 2, 1) := by decide +kernel
theorem dX3_settledPair_28 : decode cX3_settledPair 28 = .ok (.iconst 4, 1) := by decide +kernel
theorem dX3_settledPair_29 : decode cX3_settledPair 29 = .ok (.iconst 5, 1) := by decide +kernel
theorem dX3_settledPair_30 : decode cX3_settledPair 30 = .ok (.invokevirtual 69, 3) := by decide +kernel
theorem dX3_settledPair_33 : decode cX3_settledPair 33 = .ok (.iload 5, 2) := by decide +kernel
theorem dX3_settledPair_35 : decode cX3_settledPair 35 = .ok (.iconst 2, 1) := by decide +kernel
theorem dX3_settledPair_36 : decode cX3_settledPair 36 = .ok (.irem, 1) := by decide +kernel
theorem dX3_settledPair_37 : decode cX3_settledPair 37 = .ok (.iconst 1, 1) := by decide +kernel
theorem dX3_settledPair_38 : decode cX3_settledPair 38 = .ok (.if_icmp .ne 13, 3) := by decide +kernel
theorem dX3_settledPair_41 : decode cX3_settledPair 41 = .ok (.aload_n 0, 1) := by decide +kernel
theorem dX3_settledPair_42 : decode cX3_settledPair 42 = .ok (.getfield 12, 3) := by decide +kernel
theorem dX3_settledPair_45 : decode cX3_settledPair 45 = .ok (.iload_n 3, 1) := by decide +kernel
theorem dX3_settledPair_46 : decode cX3_settledPair 46 = .ok (.iconst 4, 1) := by decide +kernel
theorem dX3_settledPair_47 : decode cX3_settledPair 47 = .ok (.iconst 5, 1) := by decide +kernel
theorem dX3_settledPair_48 : decode cX3_settledPair 48 = .ok (.invokevirtual 69, 3) := by decide +kernel
theorem dX3_settledPair_51 : decode cX3_settledPair 51 = .ok (.aload_n 0, 1) := by decide +kernel
theorem dX3_settledPair_52 : decode cX3_settledPair 52 = .ok (.getfield 18, 3) := by decide +kernel
theorem dX3_settledPair_55 : decode cX3_settledPair 55 = .ok (.iload 5, 2) := by decide +kernel
theorem dX3_settledPair_57 : decode cX3_settledPair 57 = .ok (.aload_n 0, 1) := by decide +kernel
theorem dX3_settledPair_58 : decode cX3_settledPair 58 = .ok (.getfield 12, 3) := by decide +kernel
theorem dX3_settledPair_61 : decode cX3_settledPair 61 = .ok (.iconst 0, 1) := by decide +kernel
theorem dX3_settledPair_62 : decode cX3_settledPair 62 = .ok (.aload_n 1, 1) := by decide +kernel
theorem dX3_settledPair_63 : decode cX3_settledPair 63 = .ok (.getfield 37, 3) := by decide +kernel
theorem dX3_settledPair_66 : decode cX3_settledPair 66 = .ok (.iload 4, 2) := by decide +kernel
theorem dX3_settledPair_68 : decode cX3_settledPair 68 = .ok (.invokevirtual 26, 3) := by decide +kernel
theorem dX3_settledPair_71 : decode cX3_settledPair 71 = .ok (.iastore, 1) := by decide +kernel
theorem dX3_settledPair_72 : decode cX3_settledPair 72 = .ok (.iinc 5 1, 3) := by decide +kernel
theorem dX3_settledPair_75 : decode cX3_settledPair 75 = .ok (.goto (-72), 3) := by decide +kernel
theorem dX3_settledPair_78 : decode cX3_settledPair 78 = .ok (.iconst 0, 1) := by decide +kernel
theorem dX3_settledPair_79 : decode cX3_settledPair 79 = .ok (.istore 5, 2) := by decide +kernel
theorem dX3_settledPair_81 : decode cX3_settledPair 81 = .ok (.iload 5, 2) := by decide +kernel
theorem dX3_settledPair_83 : decode cX3_settledPair 83 = .ok (.iconst 4, 1) := by decide +kernel
theorem dX3_settledPair_84 : decode cX3_settledPair 84 = .ok (.if_icmp .ge 60, 3) := by decide +kernel
theorem dX3_settledPair_87 : decode cX3_settledPair 87 = .ok (.aload_n 0, 1) := by decide +kernel
theorem dX3_settledPair_88 : decode cX3_settledPair 88 = .ok (.getfield 18, 3) := by decide +kernel
theorem dX3_settledPair_91 : decode cX3_settledPair 91 = .ok (.iload 5, 2) := by decide +kernel
theorem dX3_settledPair_93 : decode cX3_settledPair 93 = .ok (.iaload, 1) := by decide +kernel
theorem dX3_settledPair_94 : decode cX3_settledPair 94 = .ok (.aload_n 0, 1) := by decide +kernel
theorem dX3_settledPair_95 : decode cX3_settledPair 95 = .ok (.getfield 18, 3) := by decide +kernel
theorem dX3_settledPair_98 : decode cX3_settledPair 98 = .ok (.iload 5, 2) := by decide +kernel
theorem dX3_settledPair_100 : decode cX3_settledPair 100 = .ok (.iconst 2, 1) := by decide +kernel
theorem dX3_settledPair_101 : decode cX3_settledPair 101 = .ok (.ixor, 1) := by decide +kernel
theorem dX3_settledPair_102 : decode cX3_settledPair 102 = .ok (.iaload, 1) := by decide +kernel
theorem dX3_settledPair_103 : decode cX3_settledPair 103 = .ok (.if_icmp .lt 35, 3) := by decide +kernel
theorem dX3_settledPair_106 : decode cX3_settledPair 106 = .ok (.aload_n 0, 1) := by decide +kernel
theorem dX3_settledPair_107 : decode cX3_settledPair 107 = .ok (.getfield 18, 3) := by decide +kernel
theorem dX3_settledPair_110 : decode cX3_settledPair 110 = .ok (.iload 5, 2) := by decide +kernel
theorem dX3_settledPair_112 : decode cX3_settledPair 112 = .ok (.iaload, 1) := by decide +kernel
theorem dX3_settledPair_113 : decode cX3_settledPair 113 = .ok (.aload_n 0, 1) := by decide +kernel
theorem dX3_settledPair_114 : decode cX3_settledPair 114 = .ok (.getfield 18, 3) := by decide +kernel
theorem dX3_settledPair_117 : decode cX3_settledPair 117 = .ok (.iload 5, 2) := by decide +kernel
theorem dX3_settledPair_119 : decode cX3_settledPair 119 = .ok (.iconst 1, 1) := by decide +kernel
theorem dX3_settledPair_120 : decode cX3_settledPair 120 = .ok (.ixor, 1) := by decide +kernel
theorem dX3_settledPair_121 : decode cX3_settledPair 121 = .ok (.iaload, 1) := by decide +kernel
theorem dX3_settledPair_122 : decode cX3_settledPair 122 = .ok (.if_icmp .gt 16, 3) := by decide +kernel
theorem dX3_settledPair_125 : decode cX3_settledPair 125 = .ok (.bipush 10, 2) := by decide +kernel
theorem dX3_settledPair_127 : decode cX3_settledPair 127 = .ok (.iload 5, 2) := by decide +kernel
theorem dX3_settledPair_129 : decode cX3_settledPair 129 = .ok (.iconst 2, 1) := by decide +kernel
theorem dX3_settledPair_130 : decode cX3_settledPair 130 = .ok (.idiv, 1) := by decide +kernel
theorem dX3_settledPair_131 : decode cX3_settledPair 131 = .ok (.imul, 1) := by decide +kernel
theorem dX3_settledPair_132 : decode cX3_settledPair 132 = .ok (.iload 5, 2) := by decide +kernel
theorem dX3_settledPair_134 : decode cX3_settledPair 134 = .ok (.iconst 2, 1) := by decide +kernel
theorem dX3_settledPair_135 : decode cX3_settledPair 135 = .ok (.irem, 1) := by decide +kernel
theorem dX3_settledPair_136 : decode cX3_settledPair 136 = .ok (.iadd, 1) := by decide +kernel
theorem dX3_settledPair_137 : decode cX3_settledPair 137 = .ok (.ireturn, 1) := by decide +kernel
theorem dX3_settledPair_138 : decode cX3_settledPair 138 = .ok (.iinc 5 1, 3) := by decide +kernel
theorem dX3_settledPair_141 : decode cX3_settledPair 141 = .ok (.goto (-60), 3) := by decide +kernel
theorem dX3_settledPair_144 : decode cX3_settledPair 144 = .ok (.bipush (-9), 2) := by decide +kernel
theorem dX3_settledPair_146 : decode cX3_settledPair 146 = .ok (.ireturn, 1) := by decide +kernel
theorem dX4_init_0 : decode cX4_init 0 = .ok (.aload_n 0, 1) := by decide +kernel
theorem dX4_init_1 : decode cX4_init 1 = .ok (.invokespecial 3, 3) := by decide +kernel
theorem dX4_init_4 : decode cX4_init 4 = .ok (.aload_n 0, 1) := by decide +kernel
theorem dX4_init_5 : decode cX4_init 5 = .ok (.bipush 6, 2) := by decide +kernel
theorem dX4_init_7 : decode cX4_init 7 = .ok (.newarray .int, 2) := by decide +kernel
theorem dX4_init_9 : decode cX4_init 9 = .ok (.putfield 9, 3) := by decide +kernel
theorem dX4_init_12 : decode cX4_init 12 = .ok (.aload_n 0, 1) := by decide +kernel
theorem dX4_init_13 : decode cX4_init 13 = .ok (.bipush 6, 2) := by decide +kernel
theorem dX4_init_15 : decode cX4_init 15 = .ok (.newarray .int, 2) := by decide +kernel
theorem dX4_init_17 : decode cX4_init 17 = .ok (.putfield 15, 3) := by decide +kernel
theorem dX4_init_20 : decode cX4_init 20 = .ok (.aload_n 0, 1) := by decide +kernel
theorem dX4_init_21 : decode cX4_init 21 = .ok (.bipush 8, 2) := by decide +kernel
theorem dX4_init_23 : decode cX4_init 23 = .ok (.newarray .int, 2) := by decide +kernel
theorem dX4_init_25 : decode cX4_init 25 = .ok (.putfield 18, 3) := by decide +kernel
theorem dX4_init_28 : decode cX4_init 28 = .ok (.aload_n 0, 1) := by decide +kernel
theorem dX4_init_29 : decode cX4_init 29 = .ok (.bipush 8, 2) := by decide +kernel
theorem dX4_init_31 : decode cX4_init 31 = .ok (.newarray .int, 2) := by decide +kernel
theorem dX4_init_33 : decode cX4_init 33 = .ok (.putfield 21, 3) := by decide +kernel
theorem dX4_init_36 : decode cX4_init 36 = .ok (.aload_n 0, 1) := by decide +kernel
theorem dX4_init_37 : decode cX4_init 37 = .ok (.bipush 8, 2) := by decide +kernel
theorem dX4_init_39 : decode cX4_init 39 = .ok (.newarray .int, 2) := by decide +kernel
theorem dX4_init_41 : decode cX4_init 41 = .ok (.putfield 24, 3) := by decide +kernel
theorem dX4_init_44 : decode cX4_init 44 = .ok (.aload_n 0, 1) := by decide +kernel
theorem dX4_init_45 : decode cX4_init 45 = .ok (.bipush 8, 2) := by decide +kernel
theorem dX4_init_47 : decode cX4_init 47 = .ok (.newarray .int, 2) := by decide +kernel
theorem dX4_init_49 : decode cX4_init 49 = .ok (.putfield 27, 3) := by decide +kernel
theorem dX4_init_52 : decode cX4_init 52 = .ok (.aload_n 0, 1) := by decide +kernel
theorem dX4_init_53 : decode cX4_init 53 = .ok (.bipush 8, 2) := by decide +kernel
theorem dX4_init_55 : decode cX4_init 55 = .ok (.putfield 30, 3) := by decide +kernel
theorem dX4_init_58 : decode cX4_init 58 = .ok (.return_, 1) := by decide +kernel
theorem dX4_become_0 : decode cX4_become 0 = .ok (.aload_n 0, 1) := by decide +kernel
theorem dX4_become_1 : decode cX4_become 1 = .ok (.aload_n 1, 1) := by decide +kernel
theorem dX4_become_2 : decode cX4_become 2 = .ok (.getfield 34, 3) := by decide +kernel
theorem dX4_become_5 : decode cX4_become 5 = .ok (.putfield 34, 3) := by decide +kernel
theorem dX4_become_8 : decode cX4_become 8 = .ok (.aload_n 1, 1) := by decide +kernel
theorem dX4_become_9 : decode cX4_become 9 = .ok (.getfield 9, 3) := by decide +kernel
theorem dX4_become_12 : decode cX4_become 12 = .ok (.iconst 0, 1) := by decide +kernel
theorem dX4_become_13 : decode cX4_become 13 = .ok (.aload_n 0, 1) := by decide +kernel
theorem dX4_become_14 : decode cX4_become 14 = .ok (.getfield 9, 3) := by decide +kernel
theorem dX4_become_17 : decode cX4_become 17 = .ok (.iconst 0, 1) := by decide +kernel
theorem dX4_become_18 : decode cX4_become 18 = .ok (.bipush 6, 2) := by decide +kernel
theorem dX4_become_20 : decode cX4_become 20 = .ok (.invokestatic 37, 3) := by decide +kernel
theorem dX4_become_23 : decode cX4_become 23 = .ok (.aload_n 1, 1) := by decide +kernel
theorem dX4_become_24 : decode cX4_become 24 = .ok (.getfield 15, 3) := by decide +kernel
theorem dX4_become_27 : decode cX4_become 27 = .ok (.iconst 0, 1) := by decide +kernel
theorem dX4_become_28 : decode cX4_become 28 = .ok (.aload_n 0, 1) := by decide +kernel
theorem dX4_become_29 : decode cX4_become 29 = .ok (.getfield 15, 3) := by decide +kernel
theorem dX4_become_32 : decode cX4_become 32 = .ok (.iconst 0, 1) := by decide +kernel
theorem dX4_become_33 : decode cX4_become 33 = .ok (.bipush 6, 2) := by decide +kernel
theorem dX4_become_35 : decode cX4_become 35 = .ok (.invokestatic 37, 3) := by decide +kernel
theorem dX4_become_38 : decode cX4_become 38 = .ok (.aload_n 0, 1) := by decide +kernel
theorem dX4_become_39 : decode cX4_become 39 = .ok (.aload_n 1, 1) := by decide +kernel
theorem dX4_become_40 : decode cX4_become 40 = .ok (.getfield 43, 3) := by decide +kernel
theorem dX4_become_43 : decode cX4_become 43 = .ok (.putfield 43, 3) := by decide +kernel
theorem dX4_become_46 : decode cX4_become 46 = .ok (.aload_n 1, 1) := by decide +kernel
theorem dX4_become_47 : decode cX4_become 47 = .ok (.getfield 18, 3) := by decide +kernel
theorem dX4_become_50 : decode cX4_become 50 = .ok (.iconst 0, 1) := by decide +kernel
theorem dX4_become_51 : decode cX4_become 51 = .ok (.aload_n 0, 1) := by decide +kernel
theorem dX4_become_52 : decode cX4_become 52 = .ok (.getfield 18, 3) := by decide +kernel
theorem dX4_become_55 : decode cX4_become 55 = .ok (.iconst 0, 1) := by decide +kernel
theorem dX4_become_56 : decode cX4_become 56 = .ok (.bipush 8, 2) := by decide +kernel
theorem dX4_become_58 : decode cX4_become 58 = .ok (.invokestatic 37, 3) := by decide +kernel
theorem dX4_become_61 : decode cX4_become 61 = .ok (.aload_n 1, 1) := by decide +kernel
theorem dX4_become_62 : decode cX4_become 62 = .ok (.getfield 21, 3) := by decide +kernel
theorem dX4_become_65 : decode cX4_become 65 = .ok (.iconst 0, 1) := by decide +kernel
theorem dX4_become_66 : decode cX4_become 66 = .ok (.aload_n 0, 1) := by decide +kernel
theorem dX4_become_67 : decode cX4_become 67 = .ok (.getfield 21, 3) := by decide +kernel
theorem dX4_become_70 : decode cX4_become 70 = .ok (.iconst 0, 1) := by decide +kernel
theorem dX4_become_71 : decode cX4_become 71 = .ok (.bipush 8, 2) := by decide +kernel
theorem dX4_become_73 : decode cX4_become 73 = .ok (.invokestatic 37, 3) := by decide +kernel
theorem dX4_become_76 : decode cX4_become 76 = .ok (.aload_n 1, 1) := by decide +kernel
theorem dX4_become_77 : decode cX4_become 77 = .ok (.getfield 24, 3) := by decide +kernel
theorem dX4_become_80 : decode cX4_become 80 = .ok (.iconst 0, 1) := by decide +kernel
theorem dX4_become_81 : decode cX4_become 81 = .ok (.aload_n 0, 1) := by decide +kernel
theorem dX4_become_82 : decode cX4_become 82 = .ok (.getfield 24, 3) := by decide +kernel
theorem dX4_become_85 : decode cX4_become 85 = .ok (.iconst 0, 1) := by decide +kernel
theorem dX4_become_86 : decode cX4_become 86 = .ok (.bipush 8, 2) := by decide +kernel
theorem dX4_become_88 : decode cX4_become 88 = .ok (.invokestatic 37, 3) := by decide +kernel
theorem dX4_become_91 : decode cX4_become 91 = .ok (.aload_n 1, 1) := by decide +kernel
theorem dX4_become_92 : decode cX4_become 92 = .ok (.getfield 27, 3) := by decide +kernel
theorem dX4_become_95 : decode cX4_become 95 = .ok (.iconst 0, 1) := by decide +kernel
theorem dX4_become_96 : decode cX4_become 96 = .ok (.aload_n 0, 1) := by decide +kernel
theorem dX4_become_97 : decode cX4_become 97 = .ok (.getfield 27, 3) := by decide +kernel
theorem dX4_become_100 : decode cX4_become 100 = .ok (.iconst 0, 1) := by decide +kernel
theorem dX4_become_101 : decode cX4_become 101 = .ok (.bipush 8, 2) := by decide +kernel
theorem dX4_become_103 : decode cX4_become 103 = .ok (.invokestatic 37, 3) := by decide +kernel
theorem dX4_become_106 : decode cX4_become 106 = .ok (.aload_n 0, 1) := by decide +kernel
theorem dX4_become_107 : decode cX4_become 107 = .ok (.aload_n 1, 1) := by decide +kernel
theorem dX4_become_108 : decode cX4_become 108 = .ok (.getfield 46, 3) := by decide +kernel
theorem dX4_become_111 : decode cX4_become 111 = .ok (.putfield 46, 3) := by decide +kernel
theorem dX4_become_114 : decode cX4_become 114 = .ok (.aload_n 0, 1) := by decide +kernel
theorem dX4_become_115 : decode cX4_become 115 = .ok (.aload_n 1, 1) := by decide +kernel
theorem dX4_become_116 : decode cX4_become 116 = .ok (.getfield 30, 3) := by decide +kernel
theorem dX4_become_119 : decode cX4_become 119 = .ok (.putfield 30, 3) := by decide +kernel
theorem dX4_become_122 : decode cX4_become 122 = .ok (.return_, 1) := by decide +kernel
theorem dX4_addBell_0 : decode cX4_addBell 0 = .ok (.aload_n 0, 1) := by decide +kernel
theorem dX4_addBell_1 : decode cX4_addBell 1 = .ok (.getfield 34, 3) := by decide +kernel
theorem dX4_addBell_4 : decode cX4_addBell 4 = .ok (.bipush 6, 2) := by decide +kernel
theorem dX4_addBell_6 : decode cX4_addBell 6 = .ok (.if_icmp .ge 14, 3) := by decide +kernel
theorem dX4_addBell_9 : decode cX4_addBell 9 = .ok (.iload_n 1, 1) := by decide +kernel
theorem dX4_addBell_10 : decode cX4_addBell 10 = .ok (.bipush 24, 2) := by decide +kernel
theorem dX4_addBell_12 : decode cX4_addBell 12 = .ok (.if_icmp .ge 8, 3) := by decide +kernel
theorem dX4_addBell_15 : decode cX4_addBell 15 = .ok (.iload_n 2, 1) := by decide +kernel
theorem dX4_addBell_16 : decode cX4_addBell 16 = .ok (.iconst 1, 1) := by decide +kernel
theorem dX4_addBell_17 : decode cX4_addBell 17 = .ok (.if_icmp .ge 5, 3) := by decide +kernel
theorem dX4_addBell_20 : decode cX4_addBell 20 = .ok (.iconst 0, 1) := by decide +kernel
theorem dX4_addBell_21 : decode cX4_addBell 21 = .ok (.ireturn, 1) := by decide +kernel
theorem dX4_addBell_22 : decode cX4_addBell 22 = .ok (.aload_n 0, 1) := by decide +kernel
theorem dX4_addBell_23 : decode cX4_addBell 23 = .ok (.getfield 9, 3) := by decide +kernel
theorem dX4_addBell_26 : decode cX4_addBell 26 = .ok (.aload_n 0, 1) := by decide +kernel
theorem dX4_addBell_27 : decode cX4_addBell 27 = .ok (.getfield 34, 3) := by decide +kernel
theorem dX4_addBell_30 : decode cX4_addBell 30 = .ok (.iload_n 1, 1) := by decide +kernel
theorem dX4_addBell_31 : decode cX4_addBell 31 = .ok (.iastore, 1) := by decide +kernel
theorem dX4_addBell_32 : decode cX4_addBell 32 = .ok (.aload_n 0, 1) := by decide +kernel
theorem dX4_addBell_33 : decode cX4_addBell 33 = .ok (.getfield 15, 3) := by decide +kernel
theorem dX4_addBell_36 : decode cX4_addBell 36 = .ok (.aload_n 0, 1) := by decide +kernel
theorem dX4_addBell_37 : decode cX4_addBell 37 = .ok (.getfield 34, 3) := by decide +kernel
theorem dX4_addBell_40 : decode cX4_addBell 40 = .ok (.iload_n 2, 1) := by decide +kernel
theorem dX4_addBell_41 : decode cX4_addBell 41 = .ok (.iastore, 1) := by decide +kernel
theorem dX4_addBell_42 : decode cX4_addBell 42 = .ok (.aload_n 0, 1) := by decide +kernel
theorem dX4_addBell_43 : decode cX4_addBell 43 = .ok (.dup, 1) := by decide +kernel
theorem dX4_addBell_44 : decode cX4_addBell 44 = .ok (.getfield 34, 3) := by decide +kernel
theorem dX4_addBell_47 : decode cX4_addBell 47 = .ok (.iconst 1, 1) := by decide +kernel
theorem dX4_addBell_48 : decode cX4_addBell 48 = .ok (.iadd, 1) := by decide +kernel
theorem dX4_addBell_49 : decode cX4_addBell 49 = .ok (.putfield 34, 3) := by decide +kernel
theorem dX4_addBell_52 : decode cX4_addBell 52 = .ok (.iconst 1, 1) := by decide +kernel
theorem dX4_addBell_53 : decode cX4_addBell 53 = .ok (.ireturn, 1) := by decide +kernel
theorem dX4_addPerson_0 : decode cX4_addPerson 0 = .ok (.aload_n 0, 1) := by decide +kernel
theorem dX4_addPerson_1 : decode cX4_addPerson 1 = .ok (.getfield 43, 3) := by decide +kernel
theorem dX4_addPerson_4 : decode cX4_addPerson 4 = .ok (.bipush 8, 2) := by decide +kernel
theorem dX4_addPerson_6 : decode cX4_addPerson 6 = .ok (.if_icmp .lt 5, 3) := by decide +kernel
theorem dX4_addPerson_9 : decode cX4_addPerson 9 = .ok (.iconst 0, 1) := by decide +kernel
theorem dX4_addPerson_10 : decode cX4_addPerson 10 = .ok (.ireturn, 1) := by decide +kernel
theorem dX4_addPerson_11 : decode cX4_addPerson 11 = .ok (.aload_n 0, 1) := by decide +kernel
theorem dX4_addPerson_12 : decode cX4_addPerson 12 = .ok (.getfield 18, 3) := by decide +kernel
theorem dX4_addPerson_15 : decode cX4_addPerson 15 = .ok (.aload_n 0, 1) := by decide +kernel
theorem dX4_addPerson_16 : decode cX4_addPerson 16 = .ok (.getfield 43, 3) := by decide +kernel
theorem dX4_addPerson_19 : decode cX4_addPerson 19 = .ok (.iload_n 1, 1) := by decide +kernel
theorem dX4_addPerson_20 : decode cX4_addPerson 20 = .ok (.iastore, 1) := by decide +kernel
theorem dX4_addPerson_21 : decode cX4_addPerson 21 = .ok (.aload_n 0, 1) := by decide +kernel
theorem dX4_addPerson_22 : decode cX4_addPerson 22 = .ok (.getfield 21, 3) := by decide +kernel
theorem dX4_addPerson_25 : decode cX4_addPerson 25 = .ok (.aload_n 0, 1) := by decide +kernel
theorem dX4_addPerson_26 : decode cX4_addPerson 26 = .ok (.getfield 43, 3) := by decide +kernel
theorem dX4_addPerson_29 : decode cX4_addPerson 29 = .ok (.iload_n 2, 1) := by decide +kernel
theorem dX4_addPerson_30 : decode cX4_addPerson 30 = .ok (.iastore, 1) := by decide +kernel
theorem dX4_addPerson_31 : decode cX4_addPerson 31 = .ok (.aload_n 0, 1) := by decide +kernel
theorem dX4_addPerson_32 : decode cX4_addPerson 32 = .ok (.getfield 24, 3) := by decide +kernel
theorem dX4_addPerson_35 : decode cX4_addPerson 35 = .ok (.aload_n 0, 1) := by decide +kernel
theorem dX4_addPerson_36 : decode cX4_addPerson 36 = .ok (.getfield 43, 3) := by decide +kernel
theorem dX4_addPerson_39 : decode cX4_addPerson 39 = .ok (.iload_n 3, 1) := by decide +kernel
theorem dX4_addPerson_40 : decode cX4_addPerson 40 = .ok (.iastore, 1) := by decide +kernel
theorem dX4_addPerson_41 : decode cX4_addPerson 41 = .ok (.aload_n 0, 1) := by decide +kernel
theorem dX4_addPerson_42 : decode cX4_addPerson 42 = .ok (.getfield 27, 3) := by decide +kernel
theorem dX4_addPerson_45 : decode cX4_addPerson 45 = .ok (.aload_n 0, 1) := by decide +kernel
theorem dX4_addPerson_46 : decode cX4_addPerson 46 = .ok (.getfield 43, 3) := by decide +kernel
theorem dX4_addPerson_49 : decode cX4_addPerson 49 = .ok (.iconst 0, 1) := by decide +kernel
theorem dX4_addPerson_50 : decode cX4_addPerson 50 = .ok (.iastore, 1) := by decide +kernel
theorem dX4_addPerson_51 : decode cX4_addPerson 51 = .ok (.aload_n 0, 1) := by decide +kernel
theorem dX4_addPerson_52 : decode cX4_addPerson 52 = .ok (.dup, 1) := by decide +kernel
theorem dX4_addPerson_53 : decode cX4_addPerson 53 = .ok (.getfield 43, 3) := by decide +kernel
theorem dX4_addPerson_56 : decode cX4_addPerson 56 = .ok (.iconst 1, 1) := by decide +kernel
theorem dX4_addPerson_57 : decode cX4_addPerson 57 = .ok (.iadd, 1) := by decide +kernel
theorem dX4_addPerson_58 : decode cX4_addPerson 58 = .ok (.putfield 43, 3) := by decide +kernel
theorem dX4_addPerson_61 : decode cX4_addPerson 61 = .ok (.iconst 1, 1) := by decide +kernel
theorem dX4_addPerson_62 : decode cX4_addPerson 62 = .ok (.ireturn, 1) := by decide +kernel
theorem dX4_makeKind_0 : decode cX4_makeKind 0 = .ok (.aload_n 0, 1) := by decide +kernel
theorem dX4_makeKind_1 : decode cX4_makeKind 1 = .ok (.getfield 18, 3) := by decide +kernel
theorem dX4_makeKind_4 : decode cX4_makeKind 4 = .ok (.iload_n 1, 1) := by decide +kernel
theorem dX4_makeKind_5 : decode cX4_makeKind 5 = .ok (.iload_n 2, 1) := by decide +kernel
theorem dX4_makeKind_6 : decode cX4_makeKind 6 = .ok (.iastore, 1) := by decide +kernel
theorem dX4_makeKind_7 : decode cX4_makeKind 7 = .ok (.aload_n 0, 1) := by decide +kernel
theorem dX4_makeKind_8 : decode cX4_makeKind 8 = .ok (.getfield 21, 3) := by decide +kernel
theorem dX4_makeKind_11 : decode cX4_makeKind 11 = .ok (.iload_n 1, 1) := by decide +kernel
theorem dX4_makeKind_12 : decode cX4_makeKind 12 = .ok (.iload_n 3, 1) := by decide +kernel
theorem dX4_makeKind_13 : decode cX4_makeKind 13 = .ok (.iastore, 1) := by decide +kernel
theorem dX4_makeKind_14 : decode cX4_makeKind 14 = .ok (.return_, 1) := by decide +kernel
set_option maxRecDepth 20000 in
theorem ggX4_pass_X4_daysTillReturn : GoodIn wsX4_pass wsX4_daysTillReturn := goodIn_r _ [5, 6, 7, 22, 23, 24, 25, 26, 27, 28, 29, 30, 31] (by decide +kernel) (by decide +kernel)
set_option maxRecDepth 20000 in
theorem gX4_pass_X4_daysTillReturn : GoodIn wsX4_pass (wsV RX4 49 RX4 yX4_daysTillReturn wsX4_daysTillReturn) := goodIn_app (goodIn_of _ (by decide +kernel)) ggX4_pass_X4_daysTillReturn
set_option maxRecDepth 20000 in
theorem ggX4_pass_X4_passAlike : GoodIn wsX4_pass wsX4_passAlike := goodIn_r _ [11, 12, 13, 6, 7, 14, 15, 16, 17, 18, 19, 20, 21, 22, 23, 24, 25, 26, 27, 28, 29, 30, 31] (by decide +kernel) (by decide +kernel)
set_option maxRecDepth 20000 in
theorem gX4_pass_X4_passAlike : GoodIn wsX4_pass (wsV RX4 53 RX4 yX4_passAlike wsX4_passAlike) := goodIn_app (goodIn_of _ (by decide +kernel)) ggX4_pass_X4_passAlike
theorem dX4_pass_0 : decode cX4_pass 0 = .ok (.iload_n 1, 1) := by decide +kernel
theorem dX4_pass_1 : decode cX4_pass 1 = .ok (.istore_n 2, 1) := by decide +kernel
theorem dX4_pass_2 : decode cX4_pass 2 = .ok (.iconst 0, 1) := by decide +kernel
theorem dX4_pass_3 : decode cX4_pass 3 = .ok (.istore_n 3, 1) := by decide +kernel
theorem dX4_pass_4 : decode cX4_pass 4 = .ok (.iload_n 3, 1) := by decide +kernel
theorem dX4_pass_5 : decode cX4_pass 5 = .ok (.iload_n 1, 1) := by decide +kernel
theorem dX4_pass_6 : decode cX4_pass 6 = .ok (.if_icmp .ge 31, 3) := by decide +kernel
theorem dX4_pass_9 : decode cX4_pass 9 = .ok (.iload_n 2, 1) := by decide +kernel
theorem dX4_pass_10 : decode cX4_pass 10 = .ok (.ifCond .le 27, 3) := by decide +kernel
theorem dX4_pass_13 : decode cX4_pass 13 = .ok (.aload_n 0, 1) := by decide +kernel
theorem dX4_pass_14 : decode cX4_pass 14 = .ok (.iload_n 2, 1) := by decide +kernel
theorem dX4_pass_15 : decode cX4_pass 15 = .ok (.invokevirtual 49, 3) := by decide +kernel
theorem dX4_pass_18 : decode cX4_pass 18 = .ok (.istore 4, 2) := by decide +kernel
theorem dX4_pass_20 : decode cX4_pass 20 = .ok (.aload_n 0, 1) := by decide +kernel
theorem dX4_pass_21 : decode cX4_pass 21 = .ok (.iload 4, 2) := by decide +kernel
theorem dX4_pass_23 : decode cX4_pass 23 = .ok (.invokevirtual 53, 3) := by decide +kernel
theorem dX4_pass_26 : decode cX4_pass 26 = .ok (.iload_n 2, 1) := by decide +kernel
theorem dX4_pass_27 : decode cX4_pass 27 = .ok (.iload 4, 2) := by decide +kernel
theorem dX4_pass_29 : decode cX4_pass 29 = .ok (.isub, 1) := by decide +kernel
theorem dX4_pass_30 : decode cX4_pass 30 = .ok (.istore_n 2, 1) := by decide +kernel
theorem dX4_pass_31 : decode cX4_pass 31 = .ok (.iinc 3 1, 3) := by decide +kernel
theorem dX4_pass_34 : decode cX4_pass 34 = .ok (.goto (-30), 3) := by decide +kernel
theorem dX4_pass_37 : decode cX4_pass 37 = .ok (.return_, 1) := by decide +kernel
theorem dX4_daysTillReturn_0 : decode cX4_daysTillReturn 0 = .ok (.iload_n 1, 1) := by decide +kernel
theorem dX4_daysTillReturn_1 : decode cX4_daysTillReturn 1 = .ok (.istore_n 2, 1) := by decide +kernel
theorem dX4_daysTillReturn_2 : decode cX4_daysTillReturn 2 = .ok (.iconst 0, 1) := by decide +kernel
theorem dX4_daysTillReturn_3 : decode cX4_daysTillReturn 3 = .ok (.istore_n 3, 1) := by decide +kernel
theorem dX4_daysTillReturn_4 : decode cX4_daysTillReturn 4 = .ok (.iload_n 3, 1) := by decide +kernel
theorem dX4_daysTillReturn_5 : decode cX4_daysTillReturn 5 = .ok (.aload_n 0, 1) := by decide +kernel
theorem dX4_daysTillReturn_6 : decode cX4_daysTillReturn 6 = .ok (.getfield 43, 3) := by decide +kernel
theorem dX4_daysTillReturn_9 : decode cX4_daysTillReturn 9 = .ok (.if_icmp .ge 35, 3) := by decide +kernel
theorem dX4_daysTillReturn_12 : decode cX4_daysTillReturn 12 = .ok (.aload_n 0, 1) := by decide +kernel
theorem dX4_daysTillReturn_13 : decode cX4_daysTillReturn 13 = .ok (.getfield 27, 3) := by decide +kernel
theorem dX4_daysTillReturn_16 : decode cX4_daysTillReturn 16 = .ok (.iload_n 3, 1) := by decide +kernel
theorem dX4_daysTillReturn_17 : decode cX4_daysTillReturn 17 = .ok (.iaload, 1) := by decide +kernel
theorem dX4_daysTillReturn_18 : decode cX4_daysTillReturn 18 = .ok (.ifCond .le 20, 3) := by decide +kernel
theorem dX4_daysTillReturn_21 : decode cX4_daysTillReturn 21 = .ok (.aload_n 0, 1) := by decide +kernel
theorem dX4_daysTillReturn_22 : decode cX4_daysTillReturn 22 = .ok (.getfield 27, 3) := by decide +kernel
theorem dX4_daysTillReturn_25 : decode cX4_daysTillReturn 25 = .ok (.iload_n 3, 1) := by decide +kernel
theorem dX4_daysTillReturn_26 : decode cX4_daysTillReturn 26 = .ok (.iaload, 1) := by decide +kernel
theorem dX4_daysTillReturn_27 : decode cX4_daysTillReturn 27 = .ok (.iload_n 2, 1) := by decide +kernel
theorem dX4_daysTillReturn_28 : decode cX4_daysTillReturn 28 = .ok (.if_icmp .ge 10, 3) := by decide +kernel
theorem dX4_daysTillReturn_31 : decode cX4_daysTillReturn 31 = .ok (.aload_n 0, 1) := by decide +kernel
theorem dX4_daysTillReturn_32 : decode cX4_daysTillReturn 32 = .ok (.getfield 27, 3) := by decide +kernel
theorem dX4_daysTillReturn_35 : decode cX4_daysTillReturn 35 = .ok (.iload_n 3, 1) := by decide +kernel
theorem dX4_daysTillReturn_36 : decode cX4_daysTillReturn 36 = .ok (.iaload, 1) := by decide +kernel
theorem dX4_daysTillReturn_37 : decode cX4_daysTillReturn 37 = .ok (.istore_n 2, 1) := by decide +kernel
theorem dX4_daysTillReturn_38 : decode cX4_daysTillReturn 38 = .ok (.iinc 3 1, 3) := by decide +kernel
theorem dX4_daysTillReturn_41 : decode cX4_daysTillReturn 41 = .ok (.goto (-37), 3) := by decide +kernel
theorem dX4_daysTillReturn_44 : decode cX4_daysTillReturn 44 = .ok (.iload_n 2, 1) := by decide +kernel
theorem dX4_daysTillReturn_45 : decode cX4_daysTillReturn 45 = .ok (.ireturn, 1) := by decide +kernel
theorem dX4_passAlike_0 : decode cX4_passAlike 0 = .ok (.aload_n 0, 1) := by decide +kernel
theorem dX4_passAlike_1 : decode cX4_passAlike 1 = .ok (.dup, 1) := by decide +kernel
theorem dX4_passAlike_2 : decode cX4_passAlike 2 = .ok (.getfield 46, 3) := by decide +kernel
theorem dX4_passAlike_5 : decode cX4_passAlike 5 = .ok (.iload_n 1, 1) := by decide +kernel
theorem dX4_passAlike_6 : decode cX4_passAlike 6 = .ok (.iadd, 1) := by decide +kernel
theorem dX4_passAlike_7 : decode cX4_passAlike 7 = .ok (.putfield 46, 3) := by decide +kernel
theorem dX4_passAlike_10 : decode cX4_passAlike 10 = .ok (.aload_n 0, 1) := by decide +kernel
theorem dX4_passAlike_11 : decode cX4_passAlike 11 = .ok (.getfield 30, 3) := by decide +kernel
theorem dX4_passAlike_14 : decode cX4_passAlike 14 = .ok (.istore_n 2, 1) := by decide +kernel
theorem dX4_passAlike_15 : decode cX4_passAlike 15 = .ok (.iconst 0, 1) := by decide +kernel
theorem dX4_passAlike_16 : decode cX4_passAlike 16 = .ok (.istore_n 3, 1) := by decide +kernel
theorem dX4_passAlike_17 : decode cX4_passAlike 17 = .ok (.iload_n 3, 1) := by decide +kernel
theorem dX4_passAlike_18 : decode cX4_passAlike 18 = .ok (.aload_n 0, 1) := by decide +kernel
theorem dX4_passAlike_19 : decode cX4_passAlike 19 = .ok (.getfield 43, 3) := by decide +kernel
theorem dX4_passAlike_22 : decode cX4_passAlike 22 = .ok (.if_icmp .ge 98, 3) := by decide +kernel
theorem dX4_passAlike_25 : decode cX4_passAlike 25 = .ok (.aload_n 0, 1) := by decide +kernel
theorem dX4_passAlike_26 : decode cX4_passAlike 26 = .ok (.getfield 27, 3) := by decide +kernel
theorem dX4_passAlike_29 : decode cX4_passAlike 29 = .ok (.iload_n 3, 1) := by decide +kernel
theorem dX4_passAlike_30 : decode cX4_passAlike 30 = .ok (.iaload, 1) := by decide +kernel
theorem dX4_passAlike_31 : decode cX4_passAlike 31 = .ok (.ifCond .le 36, 3) := by decide +kernel
theorem dX4_passAlike_34 : decode cX4_passAlike 34 = .ok (.aload_n 0, 1) := by decide +kernel
theorem dX4_passAlike_35 : decode cX4_passAlike 35 = .ok (.getfield 24, 3) := by decide +kernel
theorem dX4_passAlike_38 : decode cX4_passAlike 38 = .ok (.iload_n 3, 1) := by decide +kernel
theorem dX4_passAlike_39 : decode cX4_passAlike 39 = .ok (.iconst 0, 1) := by decide +kernel
theorem dX4_passAlike_40 : decode cX4_passAlike 40 = .ok (.aload_n 0, 1) := by decide +kernel
theorem dX4_passAlike_41 : decode cX4_passAlike 41 = .ok (.getfield 24, 3) := by decide +kernel
theorem dX4_passAlike_44 : decode cX4_passAlike 44 = .ok (.iload_n 3, 1) := by decide +kernel
theorem dX4_passAlike_45 : decode cX4_passAlike 45 = .ok (.iaload, 1) := by decide +kernel
theorem dX4_passAlike_46 : decode cX4_passAlike 46 = .ok (.iconst 2, 1) := by decide +kernel
theorem dX4_passAlike_47 : decode cX4_passAlike 47 = .ok (.iload_n 1, 1) := by decide +kernel
theorem dX4_passAlike_48 : decode cX4_passAlike 48 = .ok (.imul, 1) := by decide +kernel
theorem dX4_passAlike_49 : decode cX4_passAlike 49 = .ok (.isub, 1) := by decide +kernel
theorem dX4_passAlike_50 : decode cX4_passAlike 50 = .ok (.invokestatic 57, 3) := by decide +kernel
theorem dX4_passAlike_53 : decode cX4_passAlike 53 = .ok (.iastore, 1) := by decide +kernel
theorem dX4_passAlike_54 : decode cX4_passAlike 54 = .ok (.aload_n 0, 1) := by decide +kernel
theorem dX4_passAlike_55 : decode cX4_passAlike 55 = .ok (.getfield 27, 3) := by decide +kernel
theorem dX4_passAlike_58 : decode cX4_passAlike 58 = .ok (.iload_n 3, 1) := by decide +kernel
theorem dX4_passAlike_59 : decode cX4_passAlike 59 = .ok (.dup2, 1) := by decide +kernel
theorem dX4_passAlike_60 : decode cX4_passAlike 60 = .ok (.iaload, 1) := by decide +kernel
theorem dX4_passAlike_61 : decode cX4_passAlike 61 = .ok (.iload_n 1, 1) := by decide +kernel
theorem dX4_passAlike_62 : decode cX4_passAlike 62 = .ok (.isub, 1) := by decide +kernel
theorem dX4_passAlike_63 : decode cX4_passAlike 63 = .ok (.iastore, 1) := by decide +kernel
theorem dX4_passAlike_64 : decode cX4_passAlike 64 = .ok (.goto 50, 3) := by decide +kernel
theorem dX4_passAlike_67 : decode cX4_passAlike 67 = .ok (.iload_n 2, 1) := by decide +kernel
theorem dX4_passAlike_68 : decode cX4_passAlike 68 = .ok (.ifCond .le 28, 3) := by decide +kernel
theorem dX4_passAlike_71 : decode cX4_passAlike 71 = .ok (.aload_n 0, 1) := by decide +kernel
theorem dX4_passAlike_72 : decode cX4_passAlike 72 = .ok (.getfield 24, 3) := by decide +kernel
theorem dX4_passAlike_75 : decode cX4_passAlike 75 = .ok (.iload_n 3, 1) := by decide +kernel
theorem dX4_passAlike_76 : decode cX4_passAlike 76 = .ok (.bipush 99, 2) := by decide +kernel
theorem dX4_passAlike_78 : decode cX4_passAlike 78 = .ok (.aload_n 0, 1) := by decide +kernel
theorem dX4_passAlike_79 : decode cX4_passAlike 79 = .ok (.getfield 24, 3) := by decide +kernel
theorem dX4_passAlike_82 : decode cX4_passAlike 82 = .ok (.iload_n 3, 1) := by decide +kernel
theorem dX4_passAlike_83 : decode cX4_passAlike 83 = .ok (.iaload, 1) := by decide +kernel
theorem dX4_passAlike_84 : decode cX4_passAlike 84 = .ok (.iload_n 1, 1) := by decide +kernel
theorem dX4_passAlike_85 : decode cX4_passAlike 85 = .ok (.iadd, 1) := by decide +kernel
theorem dX4_passAlike_86 : decode cX4_passAlike 86 = .ok (.invokestatic 63, 3) := by decide +kernel
theorem dX4_passAlike_89 : decode cX4_passAlike 89 = .ok (.iastore, 1) := by decide +kernel
theorem dX4_passAlike_90 : decode cX4_passAlike 90 = .ok (.iinc 2 (-1), 3) := by decide +kernel
theorem dX4_passAlike_93 : decode cX4_passAlike 93 = .ok (.goto 21, 3) := by decide +kernel
theorem dX4_passAlike_96 : decode cX4_passAlike 96 = .ok (.aload_n 0, 1) := by decide +kernel
theorem dX4_passAlike_97 : decode cX4_passAlike 97 = .ok (.getfield 24, 3) := by decide +kernel
theorem dX4_passAlike_100 : decode cX4_passAlike 100 = .ok (.iload_n 3, 1) := by decide +kernel
theorem dX4_passAlike_101 : decode cX4_passAlike 101 = .ok (.iconst 0, 1) := by decide +kernel
theorem dX4_passAlike_102 : decode cX4_passAlike 102 = .ok (.aload_n 0, 1) := by decide +kernel
theorem dX4_passAlike_103 : decode cX4_passAlike 103 = .ok (.getfield 24, 3) := by decide +kernel
theorem dX4_passAlike_106 : decode cX4_passAlike 106 = .ok (.iload_n 3, 1) := by decide +kernel
theorem dX4_passAlike_107 : decode cX4_passAlike 107 = .ok (.iaload, 1) := by decide +kernel
theorem dX4_passAlike_108 : decode cX4_passAlike 108 = .ok (.iload_n 1, 1) := by decide +kernel
theorem dX4_passAlike_109 : decode cX4_passAlike 109 = .ok (.isub, 1) := by decide +kernel
theorem dX4_passAlike_110 : decode cX4_passAlike 110 = .ok (.invokestatic 57, 3) := by decide +kernel
theorem dX4_passAlike_113 : decode cX4_passAlike 113 = .ok (.iastore, 1) := by decide +kernel
theorem dX4_passAlike_114 : decode cX4_passAlike 114 = .ok (.iinc 3 1, 3) := by decide +kernel
theorem dX4_passAlike_117 : decode cX4_passAlike 117 = .ok (.goto (-100), 3) := by decide +kernel
theorem dX4_passAlike_120 : decode cX4_passAlike 120 = .ok (.return_, 1) := by decide +kernel
theorem dX4_nightsOf_0 : decode cX4_nightsOf 0 = .ok (.aload_n 0, 1) := by decide +kernel
theorem dX4_nightsOf_1 : decode cX4_nightsOf 1 = .ok (.getfield 18, 3) := by decide +kernel
theorem dX4_nightsOf_4 : decode cX4_nightsOf 4 = .ok (.iload_n 1, 1) := by decide +kernel
theorem dX4_nightsOf_5 : decode cX4_nightsOf 5 = .ok (.iaload, 1) := by decide +kernel
theorem dX4_nightsOf_6 : decode cX4_nightsOf 6 = .ok (.tableswitch 58 1 5 #[34, 36, 46, 58, 34], 34) := by decide +kernel
theorem dX4_nightsOf_40 : decode cX4_nightsOf 40 = .ok (.iconst 0, 1) := by decide +kernel
theorem dX4_nightsOf_41 : decode cX4_nightsOf 41 = .ok (.ireturn, 1) := by decide +kernel
theorem dX4_nightsOf_42 : decode cX4_nightsOf 42 = .ok (.bipush 9, 2) := by decide +kernel
theorem dX4_nightsOf_44 : decode cX4_nightsOf 44 = .ok (.aload_n 0, 1) := by decide +kernel
theorem dX4_nightsOf_45 : decode cX4_nightsOf 45 = .ok (.getfield 21, 3) := by decide +kernel
theorem dX4_nightsOf_48 : decode cX4_nightsOf 48 = .ok (.iload_n 1, 1) := by decide +kernel
theorem dX4_nightsOf_49 : decode cX4_nightsOf 49 = .ok (.iaload, 1) := by decide +kernel
theorem dX4_nightsOf_50 : decode cX4_nightsOf 50 = .ok (.iadd, 1) := by decide +kernel
theorem dX4_nightsOf_51 : decode cX4_nightsOf 51 = .ok (.ireturn, 1) := by decide +kernel
theorem dX4_nightsOf_52 : decode cX4_nightsOf 52 = .ok (.iconst 2, 1) := by decide +kernel
theorem dX4_nightsOf_53 : decode cX4_nightsOf 53 = .ok (.bipush 9, 2) := by decide +kernel
theorem dX4_nightsOf_55 : decode cX4_nightsOf 55 = .ok (.aload_n 0, 1) := by decide +kernel
theorem dX4_nightsOf_56 : decode cX4_nightsOf 56 = .ok (.getfield 21, 3) := by decide +kernel
theorem dX4_nightsOf_59 : decode cX4_nightsOf 59 = .ok (.iload_n 1, 1) := by decide +kernel
theorem dX4_nightsOf_60 : decode cX4_nightsOf 60 = .ok (.iaload, 1) := by decide +kernel
theorem dX4_nightsOf_61 : decode cX4_nightsOf 61 = .ok (.iadd, 1) := by decide +kernel
theorem dX4_nightsOf_62 : decode cX4_nightsOf 62 = .ok (.imul, 1) := by decide +kernel
theorem dX4_nightsOf_63 : decode cX4_nightsOf 63 = .ok (.ireturn, 1) := by decide +kernel
theorem dX4_nightsOf_64 : decode cX4_nightsOf 64 = .ok (.bipush 9, 2) := by decide +kernel
theorem dX4_nightsOf_66 : decode cX4_nightsOf 66 = .ok (.ireturn, 1) := by decide +kernel
theorem dX4_hoursLater_0 : decode cX4_hoursLater 0 = .ok (.aload_n 0, 1) := by decide +kernel
theorem dX4_hoursLater_1 : decode cX4_hoursLater 1 = .ok (.getfield 18, 3) := by decide +kernel
theorem dX4_hoursLater_4 : decode cX4_hoursLater 4 = .ok (.iload_n 1, 1) := by decide +kernel
theorem dX4_hoursLater_5 : decode cX4_hoursLater 5 = .ok (.iaload, 1) := by decide +kernel
theorem dX4_hoursLater_6 : decode cX4_hoursLater 6 = .ok (.lookupswitch 35 #[(3, 26), (4, 28)], 26) := by decide +kernel
theorem dX4_hoursLater_32 : decode cX4_hoursLater 32 = .ok (.iconst 1, 1) := by decide +kernel
theorem dX4_hoursLater_33 : decode cX4_hoursLater 33 = .ok (.ireturn, 1) := by decide +kernel
theorem dX4_hoursLater_34 : decode cX4_hoursLater 34 = .ok (.aload_n 0, 1) := by decide +kernel
theorem dX4_hoursLater_35 : decode cX4_hoursLater 35 = .ok (.getfield 21, 3) := by decide +kernel
theorem dX4_hoursLater_38 : decode cX4_hoursLater 38 = .ok (.iload_n 1, 1) := by decide +kernel
theorem dX4_hoursLater_39 : decode cX4_hoursLater 39 = .ok (.iaload, 1) := by decide +kernel
theorem dX4_hoursLater_40 : decode cX4_hoursLater 40 = .ok (.ireturn, 1) := by decide +kernel
theorem dX4_hoursLater_41 : decode cX4_hoursLater 41 = .ok (.iconst 0, 1) := by decide +kernel
theorem dX4_hoursLater_42 : decode cX4_hoursLater 42 = .ok (.ireturn, 1) := by decide +kernel
set_option maxRecDepth 20000 in
theorem ggX4_hearsIt_X4_nightsOf : GoodIn wsX4_hearsIt wsX4_nightsOf := goodIn_r _ [9, 3, 10, 11, 12, 13, 14, 15, 16, 17, 18, 19, 20] (by decide +kernel) (by decide +kernel)
set_option maxRecDepth 20000 in
theorem gX4_hearsIt_X4_nightsOf : GoodIn wsX4_hearsIt (wsV RX4 66 RX4 yX4_nightsOf wsX4_nightsOf) := goodIn_app (goodIn_of _ (by decide +kernel)) ggX4_hearsIt_X4_nightsOf
theorem dX4_hearsIt_0 : decode cX4_hearsIt 0 = .ok (.aload_n 0, 1) := by decide +kernel
theorem dX4_hearsIt_1 : decode cX4_hearsIt 1 = .ok (.getfield 27, 3) := by decide +kernel
theorem dX4_hearsIt_4 : decode cX4_hearsIt 4 = .ok (.iload_n 1, 1) := by decide +kernel
theorem dX4_hearsIt_5 : decode cX4_hearsIt 5 = .ok (.iaload, 1) := by decide +kernel
theorem dX4_hearsIt_6 : decode cX4_hearsIt 6 = .ok (.ifCond .le 5, 3) := by decide +kernel
theorem dX4_hearsIt_9 : decode cX4_hearsIt 9 = .ok (.iconst 0, 1) := by decide +kernel
theorem dX4_hearsIt_10 : decode cX4_hearsIt 10 = .ok (.ireturn, 1) := by decide +kernel
theorem dX4_hearsIt_11 : decode cX4_hearsIt 11 = .ok (.aload_n 0, 1) := by decide +kernel
theorem dX4_hearsIt_12 : decode cX4_hearsIt 12 = .ok (.getfield 24, 3) := by decide +kernel
theorem dX4_hearsIt_15 : decode cX4_hearsIt 15 = .ok (.iload_n 1, 1) := by decide +kernel
theorem dX4_hearsIt_16 : decode cX4_hearsIt 16 = .ok (.iaload, 1) := by decide +kernel
theorem dX4_hearsIt_17 : decode cX4_hearsIt 17 = .ok (.aload_n 0, 1) := by decide +kernel
theorem dX4_hearsIt_18 : decode cX4_hearsIt 18 = .ok (.iload_n 1, 1) := by decide +kernel
theorem dX4_hearsIt_19 : decode cX4_hearsIt 19 = .ok (.invokevirtual 66, 3) := by decide +kernel
theorem dX4_hearsIt_22 : decode cX4_hearsIt 22 = .ok (.if_icmp .lt 23, 3) := by decide +kernel
theorem dX4_hearsIt_25 : decode cX4_hearsIt 25 = .ok (.aload_n 0, 1) := by decide +kernel
theorem dX4_hearsIt_26 : decode cX4_hearsIt 26 = .ok (.getfield 18, 3) := by decide +kernel
theorem dX4_hearsIt_29 : decode cX4_hearsIt 29 = .ok (.iload_n 1, 1) := by decide +kernel
theorem dX4_hearsIt_30 : decode cX4_hearsIt 30 = .ok (.iaload, 1) := by decide +kernel
theorem dX4_hearsIt_31 : decode cX4_hearsIt 31 = .ok (.iconst 5, 1) := by decide +kernel
theorem dX4_hearsIt_32 : decode cX4_hearsIt 32 = .ok (.if_icmp .ne 17, 3) := by decide +kernel
theorem dX4_hearsIt_35 : decode cX4_hearsIt 35 = .ok (.aload_n 0, 1) := by decide +kernel
theorem dX4_hearsIt_36 : decode cX4_hearsIt 36 = .ok (.getfield 9, 3) := by decide +kernel
theorem dX4_hearsIt_39 : decode cX4_hearsIt 39 = .ok (.iload_n 2, 1) := by decide +kernel
theorem dX4_hearsIt_40 : decode cX4_hearsIt 40 = .ok (.iaload, 1) := by decide +kernel
theorem dX4_hearsIt_41 : decode cX4_hearsIt 41 = .ok (.iconst 4, 1) := by decide +kernel
theorem dX4_hearsIt_42 : decode cX4_hearsIt 42 = .ok (.if_icmp .ne 7, 3) := by decide +kernel
theorem dX4_hearsIt_45 : decode cX4_hearsIt 45 = .ok (.iconst 1, 1) := by decide +kernel
theorem dX4_hearsIt_46 : decode cX4_hearsIt 46 = .ok (.goto 4, 3) := by decide +kernel
theorem dX4_hearsIt_49 : decode cX4_hearsIt 49 = .ok (.iconst 0, 1) := by decide +kernel
theorem dX4_hearsIt_50 : decode cX4_hearsIt 50 = .ok (.ireturn, 1) := by decide +kernel
set_option maxRecDepth 20000 in
theorem ggX4_hourBy_X4_hoursLater : GoodIn wsX4_hourBy wsX4_hoursLater := goodIn_r _ [6, 7, 8, 9, 10, 11, 12, 13, 14, 15, 16, 17, 18] (by decide +kernel) (by decide +kernel)
set_option maxRecDepth 20000 in
theorem gX4_hourBy_X4_hoursLater : GoodIn wsX4_hourBy (wsV RX4 69 RX4 yX4_hoursLater wsX4_hoursLater) := goodIn_app (goodIn_of _ (by decide +kernel)) ggX4_hourBy_X4_hoursLater
theorem dX4_hourBy_0 : decode cX4_hourBy 0 = .ok (.aload_n 0, 1) := by decide +kernel
theorem dX4_hourBy_1 : decode cX4_hourBy 1 = .ok (.getfield 9, 3) := by decide +kernel
theorem dX4_hourBy_4 : decode cX4_hourBy 4 = .ok (.iload_n 2, 1) := by decide +kernel
theorem dX4_hourBy_5 : decode cX4_hourBy 5 = .ok (.iaload, 1) := by decide +kernel
theorem dX4_hourBy_6 : decode cX4_hourBy 6 = .ok (.aload_n 0, 1) := by decide +kernel
theorem dX4_hourBy_7 : decode cX4_hourBy 7 = .ok (.iload_n 1, 1) := by decide +kernel
theorem dX4_hourBy_8 : decode cX4_hourBy 8 = .ok (.invokevirtual 69, 3) := by decide +kernel
theorem dX4_hourBy_11 : decode cX4_hourBy 11 = .ok (.iadd, 1) := by decide +kernel
theorem dX4_hourBy_12 : decode cX4_hourBy 12 = .ok (.bipush 24, 2) := by decide +kernel
theorem dX4_hourBy_14 : decode cX4_hourBy 14 = .ok (.irem, 1) := by decide +kernel
theorem dX4_hourBy_15 : decode cX4_hourBy 15 = .ok (.ireturn, 1) := by decide +kernel
set_option maxRecDepth 20000 in
theorem ggX4_hearsSome_X4_hearsIt : GoodIn wsX4_hearsSome wsX4_hearsIt := goodIn_r _ [6, 7, 8, 9, 10, 11, 12, 13, 5, 14, 15, 16, 17, 18, 19, 20, 21, 22, 23, 24, 25] (by decide +kernel) (by decide +kernel)
set_option maxRecDepth 20000 in
theorem gX4_hearsSome_X4_hearsIt : GoodIn wsX4_hearsSome (wsV RX4 72 RX4 yX4_hearsIt wsX4_hearsIt) := goodIn_app (goodIn_of _ (by decide +kernel)) ggX4_hearsSome_X4_hearsIt
theorem dX4_hearsSome_0 : decode cX4_hearsSome 0 = .ok (.iconst 0, 1) := by decide +kernel
theorem dX4_hearsSome_1 : decode cX4_hearsSome 1 = .ok (.istore_n 2, 1) := by decide +kernel
theorem dX4_hearsSome_2 : decode cX4_hearsSome 2 = .ok (.iload_n 2, 1) := by decide +kernel
theorem dX4_hearsSome_3 : decode cX4_hearsSome 3 = .ok (.aload_n 0, 1) := by decide +kernel
theorem dX4_hearsSome_4 : decode cX4_hearsSome 4 = .ok (.getfield 34, 3) := by decide +kernel
theorem dX4_hearsSome_7 : decode cX4_hearsSome 7 = .ok (.if_icmp .ge 20, 3) := by decide +kernel
theorem dX4_hearsSome_10 : decode cX4_hearsSome 10 = .ok (.aload_n 0, 1) := by decide +kernel
theorem dX4_hearsSome_11 : decode cX4_hearsSome 11 = .ok (.iload_n 1, 1) := by decide +kernel
theorem dX4_hearsSome_12 : decode cX4_hearsSome 12 = .ok (.iload_n 2, 1) := by decide +kernel
theorem dX4_hearsSome_13 : decode cX4_hearsSome 13 = .ok (.invokevirtual 72, 3) := by decide +kernel
theorem dX4_hearsSome_16 : decode cX4_hearsSome 16 = .ok (.ifCond .eq 5, 3) := by decide +kernel
theorem dX4_hearsSome_19 : decode cX4_hearsSome 19 = .ok (.iconst 1, 1) := by decide +kernel
theorem dX4_hearsSome_20 : decode cX4_hearsSome 20 = .ok (.ireturn, 1) := by decide +kernel
theorem dX4_hearsSome_21 : decode cX4_hearsSome 21 = .ok (.iinc 2 1, 3) := by decide +kernel
theorem dX4_hearsSome_24 : decode cX4_hearsSome 24 = .ok (.goto (-22), 3) := by decide +kernel
theorem dX4_hearsSome_27 : decode cX4_hearsSome 27 = .ok (.iconst 0, 1) := by decide +kernel
theorem dX4_hearsSome_28 : decode cX4_hearsSome 28 = .ok (.ireturn, 1) := by decide +kernel
set_option maxRecDepth 20000 in
theorem ggX4_hearersOfSome_X4_hearsSome : GoodIn wsX4_hearersOfSome wsX4_hearsSome := goodIn_r _ [6, 7, 8, 9, 10, 5, 11, 12, 13, 14, 15, 16, 17, 18, 19, 20, 21, 22, 23, 24, 25, 26, 27, 28, 29, 30] (by decide +kernel) (by decide +kernel)
set_option maxRecDepth 20000 in
theorem gX4_hearersOfSome_X4_hearsSome : GoodIn wsX4_hearersOfSome (wsV RX4 76 RX4 yX4_hearsSome wsX4_hearsSome) := goodIn_app (goodIn_of _ (by decide +kernel)) ggX4_hearersOfSome_X4_hearsSome
theorem dX4_hearersOfSome_0 : decode cX4_hearersOfSome 0 = .ok (.iconst 0, 1) := by decide +kernel
theorem dX4_hearersOfSome_1 : decode cX4_hearersOfSome 1 = .ok (.istore_n 1, 1) := by decide +kernel
theorem dX4_hearersOfSome_2 : decode cX4_hearersOfSome 2 = .ok (.iconst 0, 1) := by decide +kernel
theorem dX4_hearersOfSome_3 : decode cX4_hearersOfSome 3 = .ok (.istore_n 2, 1) := by decide +kernel
theorem dX4_hearersOfSome_4 : decode cX4_hearersOfSome 4 = .ok (.iload_n 2, 1) := by decide +kernel
theorem dX4_hearersOfSome_5 : decode cX4_hearersOfSome 5 = .ok (.aload_n 0, 1) := by decide +kernel
theorem dX4_hearersOfSome_6 : decode cX4_hearersOfSome 6 = .ok (.getfield 43, 3) := by decide +kernel
theorem dX4_hearersOfSome_9 : decode cX4_hearersOfSome 9 = .ok (.if_icmp .ge 23, 3) := by decide +kernel
